/-! answers: uponWhat (made by a program) -/
section AA
variable {h h' : fH} {v x y z w : Int} {G : gS}
theorem ca_uponWhat (hs : fS 130 [1, x, y] h v h') (C : CJ G h) (W : GW G) : v = if x < 0 ∨ G.1 0 ≤ x then -1 else if y < 0 ∨ 1 < y then -2 else if wgF G.1 x (G.1 2).toNat < 0 then -9 else if y = 0 then btF (fun c => rwP G.2.2.2.2 x (gu G.1 (85 + 5 * wgF G.1 x (G.1 2).toNat + y) c)) 5 else btF (fun c => rwP G.2.2.2.2 x (gu G.1 (85 + 5 * wgF G.1 x (G.1 2).toNat + y) c)) 2 := by
  have jm : h 11 1 = G.1 0 := C.1.many
  have jd : h 11 15 = G.1 1 := C.1.day
  have jo : h 11 14 = G.1 2 := C.1.opn
  have hB := W.1.1.1
  have hD := W.1.2
  refine vc_uponWhat hs (fun x0 x1 x2 x4 x5 x6 q => x0 = 1 ∧ x1 = x ∧ x2 = y ∧ SC h q ∧ 0 ≤ x ∧ x < G.1 0 ∧ 0 ≤ y ∧ y ≤ 1 ∧ 0 ≤ wgF G.1 x (G.1 2).toNat ∧ wgF G.1 x (G.1 2).toNat < G.1 2 ∧ x4 = q 53 (wgF G.1 x (G.1 2).toNat) ∧ ∃ k : Nat, x6 = (k : Int) ∧ (y = 0 → k ≤ 5) ∧ (y ≠ 0 → k ≤ 2) ∧ (∃ z, RC q 34 (gu G.1 (85 + 5 * wgF G.1 x (G.1 2).toNat + y) z)) ∧ BT (fun c => rwP G.2.2.2.2 x (gu G.1 (85 + 5 * wgF G.1 x (G.1 2).toNat + y) c)) k x5) (fun v _ => v = if x < 0 ∨ G.1 0 ≤ x then -1 else if y < 0 ∨ 1 < y then -2 else if wgF G.1 x (G.1 2).toNat < 0 then -9 else if y = 0 then btF (fun c => rwP G.2.2.2.2 x (gu G.1 (85 + 5 * wgF G.1 x (G.1 2).toNat + y) c)) 5 else btF (fun c => rwP G.2.2.2.2 x (gu G.1 (85 + 5 * wgF G.1 x (G.1 2).toNat + y) c)) 2) ?_ ?_
  · refine ⟨fun q1 => fun _ _ _ _ _ _ _ ek => (by rw [if_pos (by omega)]), fun q1 => fun z3 e3 => ⟨fun q2 => fun _ _ _ _ _ _ _ ek => (by rw [if_pos (by omega)]), fun q2 => ⟨fun q3 => fun _ _ _ _ _ _ _ ek => (by rw [if_neg (by omega), if_pos (by omega)]), fun q3 => ⟨fun q4 => fun _ _ _ _ _ _ _ ek => (by rw [if_neg (by omega), if_pos (by omega)]), fun q4 => fun v1 k1 hs1 => fun v2 k2 hs2 => ⟨fun q5 => fun z6 e6 => ?_, fun q5 => ?_⟩⟩⟩⟩⟩
    · obtain ⟨S1, R1⟩ := sm_copy hs1 (SC.rf C.w34) C.1 W.1.1.bg
      obtain ⟨u0, u1⟩ := sc_wagerWith hs2 R1 W.1.1
      have u2 := u1.eq W.1.1
      have hb := wgF_b (g := G.1) (p := x) (G.1 2).toNat
      rw [u0] at e6 ⊢
      exact ⟨rfl, rfl, rfl, S1, by omega, by omega, by omega, by omega, by omega, by omega, by rw [e6, u2], 0, rfl, fun _ => by omega, fun _ => by omega, ⟨G.1 (85 + 5 * wgF G.1 x (G.1 2).toNat + y), by rw [gu_self]; exact R1⟩, rfl⟩
    · obtain ⟨S1, R1⟩ := sm_copy hs1 (SC.rf C.w34) C.1 W.1.1.bg
      obtain ⟨u0, u1⟩ := sc_wagerWith hs2 R1 W.1.1
      have u2 := u1.eq W.1.1
      have hb := wgF_b (g := G.1) (p := x) (G.1 2).toNat
      rw [if_neg (by omega), if_neg (by omega), if_pos (by omega)]
  · rintro x0 x1 x2 x4 x5 x6 q ⟨rfl, rfl, rfl, i0, i1, i2, i3, i4, i5, i6, i7, k, j1, j2, j3, ⟨z0, j4⟩, j5⟩
    have wr := j4.wr (w := wgF G.1 x1 (G.1 2).toNat) i5 (by omega)
    rw [show (34 : Int) + 19 = 53 from rfl, ← i7] at wr
    have st : ∀ {v2 : Int} {k1 k2 : fH}, k1 = fu q x4 (2 + x2) x6 → fS 131 [1, x1] k1 v2 k2 → (x2 = 0 → x6 < 5) → (x2 ≠ 0 → x6 < 2) → k2 = k1 ∧ SC h k1 ∧ x4 = k1 53 (wgF G.1 x1 (G.1 2).toNat) ∧ RC k1 34 (gu G.1 (85 + 5 * wgF G.1 x1 (G.1 2).toNat + x2) x6) ∧ bR v2 (rwP G.2.2.2.2 x1 (gu G.1 (85 + 5 * wgF G.1 x1 (G.1 2).toNat + x2) x6)) := fun {v2 k1 k2} ek hs b1 b2 => by
      have d2 : gu G.1 (85 + 5 * wgF G.1 x1 (G.1 2).toNat + x2) z0 2 = G.1 2 := gu_n (by omega)
      have r := j4.u_wg (z := x6) (w := wgF G.1 x1 (G.1 2).toNat) (j := 2 + x2) (BG_gu3 W.1.1.bg (by omega)) i5 (by omega) (by omega) (by omega)
      rw [show (34 : Int) + 19 = 53 from rfl, ← i7, ← ek, show 83 + 5 * wgF G.1 x1 (G.1 2).toNat + (2 + x2) = 85 + 5 * wgF G.1 x1 (G.1 2).toNat + x2 by omega, gu_gu] at r
      have s := i0.up (c := x4) (k := 2 + x2) (z := x6) (by omega)
      rw [← ek] at s
      have W2 := WF_es (y := x2) (z := x6) W.1.1 i5 i6 (by omega)
      have d0 : gu G.1 (85 + 5 * wgF G.1 x1 (G.1 2).toNat + x2) x6 0 = G.1 0 := gu_n (by omega)
      have d1 : gu G.1 (85 + 5 * wgF G.1 x1 (G.1 2).toNat + x2) x6 1 = G.1 1 := gu_n (by omega)
      have hO : CO G.2.2.2.2 k1 := ⟨(s.1 1 8 (by omega)).trans C.2.2.2.2.1.1, fun i a b => (s.1 2 i (by omega)).trans (C.2.2.2.2.1.2 i a b)⟩
      obtain ⟨u0, u1⟩ := sc_rowSo hs hO r W2 (by omega) i1 (by omega) W.2.2.2.2.1 W.2.2.2.2.2.1
      exact ⟨u0, s, by rw [ek, fu_c (by omega)]; exact i7, r, u1⟩
    refine ⟨fun q1 => ⟨fun q2 => ?_, fun q2 => ⟨fun q3 => fun k1 ek1 => fun v2 k2 hs2 => ⟨fun q4 => fun z7 e7 => ?_, fun q4 => fun z7 e7 => fun z8 e8 => fun z9 e9 => ?_⟩, fun q3 => fun k1 ek1 => fun v2 k2 hs2 => ⟨fun q5 => fun z7 e7 => ?_, fun q5 => fun z7 e7 => fun z8 e8 => fun z9 e9 => ?_⟩⟩⟩, fun q1 => ⟨fun q6 => ?_, fun q6 => ⟨fun q7 => fun k1 ek1 => fun v2 k2 hs2 => ⟨fun q8 => fun z7 e7 => ?_, fun q8 => fun z7 e7 => fun z8 e8 => fun z9 e9 => ?_⟩, fun q7 => fun k1 ek1 => fun v2 k2 hs2 => ⟨fun q9 => fun z7 e7 => ?_, fun q9 => fun z7 e7 => fun z8 e8 => fun z9 e9 => ?_⟩⟩⟩⟩
    · rw [if_neg (by omega), if_neg (by omega), if_neg (by omega), if_neg (by omega)]
      have hk : k = 2 := by omega
      subst hk
      exact j5.eq
    · obtain ⟨a0, a1, a2, a3, a4⟩ := st (ek1.trans (by rw [show 2 + x2 = 3 by omega])) hs2 (by omega) (by omega)
      rw [a0]
      have f := wr_d e7 (by omega) (by omega)
      exact ⟨rfl, rfl, rfl, a1, i1, i2, i3, i4, i5, i6, a2, k + 1, by omega, fun _ => by omega, fun _ => by omega, ⟨x6, a3⟩, j5.n j1 (a4.f q4)⟩
    · obtain ⟨a0, a1, a2, a3, a4⟩ := st (ek1.trans (by rw [show 2 + x2 = 3 by omega])) hs2 (by omega) (by omega)
      rw [a0]
      have f := wr_d e9 (by omega) (by omega)
      exact ⟨rfl, rfl, rfl, a1, i1, i2, i3, i4, i5, i6, a2, k + 1, by omega, fun _ => by omega, fun _ => by omega, ⟨x6, a3⟩, j5.y j1 (a4.t q4) e7 e8⟩
    · exfalso
      omega
    · exfalso
      omega
    · rw [if_neg (by omega), if_neg (by omega), if_neg (by omega), if_pos (by omega)]
      have hk : k = 5 := by omega
      subst hk
      exact j5.eq
    · exfalso
      omega
    · exfalso
      omega
    · obtain ⟨a0, a1, a2, a3, a4⟩ := st (ek1.trans (by rw [show 2 + x2 = 2 by omega])) hs2 (by omega) (by omega)
      rw [a0]
      have f := wr_d e7 (by omega) (by omega)
      exact ⟨rfl, rfl, rfl, a1, i1, i2, i3, i4, i5, i6, a2, k + 1, by omega, fun _ => by omega, fun _ => by omega, ⟨x6, a3⟩, j5.n j1 (a4.f q9)⟩
    · obtain ⟨a0, a1, a2, a3, a4⟩ := st (ek1.trans (by rw [show 2 + x2 = 2 by omega])) hs2 (by omega) (by omega)
      rw [a0]
      have f := wr_d e9 (by omega) (by omega)
      exact ⟨rfl, rfl, rfl, a1, i1, i2, i3, i4, i5, i6, a2, k + 1, by omega, fun _ => by omega, fun _ => by omega, ⟨x6, a3⟩, j5.y j1 (a4.t q9) e7 e8⟩
theorem ra_uponWhat (hs : fS 225 [271, x, y] h v h') (M : MJ G h) (W : GW G) : v = if x < 0 ∨ G.1 0 ≤ x then -1 else if y < 0 ∨ 1 < y then -2 else if wgF G.1 x (G.1 2).toNat < 0 then -9 else if y = 0 then btF (fun c => rwP G.2.2.2.2 x (gu G.1 (85 + 5 * wgF G.1 x (G.1 2).toNat + y) c)) 5 else btF (fun c => rwP G.2.2.2.2 x (gu G.1 (85 + 5 * wgF G.1 x (G.1 2).toNat + y) c)) 2 := by
  have hB := W.1.1.1
  have hD := W.1.2
  refine vr_uponWhat hs (fun x0 x1 x2 x4 x5 x6 q => x0 = 271 ∧ x1 = x ∧ x2 = y ∧ RM q G.1 ∧ (∀ i, 0 ≤ i → i < 113 → q 290 i = G.1 i) ∧ MO G.2.2.2.2 q ∧ 0 ≤ x ∧ x < G.1 0 ∧ 0 ≤ y ∧ y ≤ 1 ∧ 0 ≤ wgF G.1 x (G.1 2).toNat ∧ wgF G.1 x (G.1 2).toNat < G.1 2 ∧ x4 = wgF G.1 x (G.1 2).toNat ∧ ∃ k : Nat, x6 = (k : Int) ∧ (y = 0 → k ≤ 5) ∧ (y ≠ 0 → k ≤ 2) ∧ BT (fun c => rwP G.2.2.2.2 x (gu G.1 (85 + 5 * wgF G.1 x (G.1 2).toNat + y) c)) k x5) (fun v _ => v = if x < 0 ∨ G.1 0 ≤ x then -1 else if y < 0 ∨ 1 < y then -2 else if wgF G.1 x (G.1 2).toNat < 0 then -9 else if y = 0 then btF (fun c => rwP G.2.2.2.2 x (gu G.1 (85 + 5 * wgF G.1 x (G.1 2).toNat + y) c)) 5 else btF (fun c => rwP G.2.2.2.2 x (gu G.1 (85 + 5 * wgF G.1 x (G.1 2).toNat + y) c)) 2) ?_ ?_
  · intro k1 ek1
    have M1 : MJ G k1 := by
      rw [ek1]
      exact M.up (by omega)
    have jm : k1 271 0 = G.1 0 := M1.1.many
    have jd : k1 271 15 = G.1 1 := M1.1.day
    have jo : k1 271 9 = G.1 2 := M1.1.opn
    refine fun z3 e3 => fun z4 e4 => (have f4 := wr_d e4 (by omega) (by omega); fun z5 e5 => ⟨fun q1 => (have r1 := xl_lt e5 q1; fun _ _ _ _ _ _ _ ek => (by rw [if_pos (by omega)])), fun q1 => (have r1 := xl_ge e5 q1; fun z6 e6 => ⟨fun q2 => (have r2 := xl_gt e6 q2; fun _ _ _ _ _ _ _ ek => (by rw [if_pos (by omega)])), fun q2 => (have r2 := xl_le e6 q2; fun z7 e7 => ⟨fun q3 => (have r3 := xl_lt e7 q3; fun _ _ _ _ _ _ _ ek => (by rw [if_neg (by omega), if_pos (by omega)])), fun q3 => (have r3 := xl_ge e7 q3; fun z8 e8 => ⟨fun q4 => (have r4 := xl_gt e8 q4; fun _ _ _ _ _ _ _ ek => (by rw [if_neg (by omega), if_pos (by omega)])), fun q4 => (have r4 := xl_le e8 q4; fun v2 k2 hs2 => ⟨fun q5 => fun v3 k3 hs3 => ?_, fun q5 => ?_⟩)⟩)⟩)⟩)⟩)
    · obtain ⟨u0, u2⟩ := sr_wagerWith hs2 M1.1 W.1.1
      have hb := wgF_b (g := G.1) (p := x) (G.1 2).toNat
      rw [u0] at hs3
      obtain ⟨a1, a2, a3⟩ := sr_down hs3 M1.1 (by omega)
      have hO : MO G.2.2.2.2 k3 := ⟨(a3 271 38 (by omega) (by omega)).trans M1.2.2.2.2.1, fun i a b => (a3 296 i (by omega) (by omega)).trans (M1.2.2.2.2.2 i a b)⟩
      exact ⟨rfl, rfl, rfl, a1, a2, hO, by omega, by omega, by omega, by omega, by omega, by omega, u2, 0, rfl, fun _ => by omega, fun _ => by omega, rfl⟩
    · obtain ⟨u0, u2⟩ := sr_wagerWith hs2 M1.1 W.1.1
      have hb := wgF_b (g := G.1) (p := x) (G.1 2).toNat
      rw [if_neg (by omega), if_neg (by omega), if_pos (by omega)]
  · rintro x0 x1 x2 x4 x5 x6 q ⟨rfl, rfl, rfl, i0, i8, i9, i1, i2, i3, i4, i5, i6, i7, k, j1, j2, j3, j5⟩
    have st : ∀ {v3 : Int} {k2 k3 : fH}, (∀ c k, (c < 280 ∨ 284 < c) → k2 c k = q c k) → RM k2 (gu G.1 (85 + 5 * wgF G.1 x1 (G.1 2).toNat + x2) x6) → fS 227 [271, x1] k2 v3 k3 → (x2 = 0 → x6 < 5) → (x2 ≠ 0 → x6 < 2) → bR v3 (rwP G.2.2.2.2 x1 (gu G.1 (85 + 5 * wgF G.1 x1 (G.1 2).toNat + x2) x6)) ∧ RM k3 G.1 ∧ (∀ i, 0 ≤ i → i < 113 → k3 290 i = G.1 i) ∧ MO G.2.2.2.2 k3 := fun {v3 k2 k3} fr r hs b1 b2 => by
      have W2 := WF_es (y := x2) (z := x6) W.1.1 i5 i6 (by omega)
      have d0 : gu G.1 (85 + 5 * wgF G.1 x1 (G.1 2).toNat + x2) x6 0 = G.1 0 := gu_n (by omega)
      have d1 : gu G.1 (85 + 5 * wgF G.1 x1 (G.1 2).toNat + x2) x6 1 = G.1 1 := gu_n (by omega)
      exact sr_isRow hs ⟨(fr 271 38 (by omega)).trans i9.1, fun i a b => (fr 296 i (by omega)).trans (i9.2 i a b)⟩ r (fun i a b => (fr 290 i (by omega)).trans (i8 i a b)) W2 (by omega) i1 (by omega) W.2.2.2.2.1 W.2.2.2.2.2.1
    refine ⟨fun q1 => ⟨fun q2 => ?_, fun q2 => ⟨fun q3 => fun z6 e6 => fun k1 ek1 => ⟨fun q4 => fun z7 e7 => fun k2 ek2 => fun v3 k3 hs3 => ⟨fun q5 => fun z9 e9 => fun z10 e10 => ?_, fun q5 => fun z9 e9 => fun z10 e10 => fun z11 e11 => ?_⟩, fun q4 => fun k2 ek2 => fun v3 k3 hs3 => ⟨fun q6 => fun z8 e8 => fun z9 e9 => ?_, fun q6 => fun z8 e8 => fun z9 e9 => fun z10 e10 => ?_⟩⟩, fun q3 => fun k1 ek1 => ⟨fun q7 => fun z6 e6 => fun k2 ek2 => fun v3 k3 hs3 => ⟨fun q8 => fun z8 e8 => fun z9 e9 => ?_, fun q8 => fun z8 e8 => fun z9 e9 => fun z10 e10 => ?_⟩, fun q7 => fun k2 ek2 => fun v3 k3 hs3 => ⟨fun q9 => fun z7 e7 => fun z8 e8 => ?_, fun q9 => fun z7 e7 => fun z8 e8 => fun z9 e9 => ?_⟩⟩⟩⟩, fun q1 => ⟨fun q10 => ?_, fun q10 => ⟨fun q11 => fun z6 e6 => fun k1 ek1 => ⟨fun q12 => fun z7 e7 => fun k2 ek2 => fun v3 k3 hs3 => ⟨fun q13 => fun z9 e9 => fun z10 e10 => ?_, fun q13 => fun z9 e9 => fun z10 e10 => fun z11 e11 => ?_⟩, fun q12 => fun k2 ek2 => fun v3 k3 hs3 => ⟨fun q14 => fun z8 e8 => fun z9 e9 => ?_, fun q14 => fun z8 e8 => fun z9 e9 => fun z10 e10 => ?_⟩⟩, fun q11 => fun k1 ek1 => ⟨fun q15 => fun z6 e6 => fun k2 ek2 => fun v3 k3 hs3 => ⟨fun q16 => fun z8 e8 => fun z9 e9 => ?_, fun q16 => fun z8 e8 => fun z9 e9 => fun z10 e10 => ?_⟩, fun q15 => fun k2 ek2 => fun v3 k3 hs3 => ⟨fun q17 => fun z7 e7 => fun z8 e8 => ?_, fun q17 => fun z7 e7 => fun z8 e8 => fun z9 e9 => ?_⟩⟩⟩⟩⟩
    · rw [if_neg (by omega), if_neg (by omega), if_neg (by omega), if_neg (by omega)]
      have hk : k = 2 := by omega
      subst hk
      exact j5.eq
    · exfalso
      omega
    · exfalso
      omega
    · have e6 := e6.trans (i0.w2 (w := x4) (by omega) (by omega))
      have r := i0.u_w2 (z := z6) (w := x4) (by omega) (by omega)
      rw [e6, gu_self, ← e6, ← ek1] at r
      have r := r.u_w3 (z := x6) (w := x4) (by omega) (by omega)
      rw [← ek2, show 86 + 5 * x4 = 85 + 5 * wgF G.1 x1 (G.1 2).toNat + x2 by omega] at r
      obtain ⟨a1, a2, a3, a4⟩ := st (fun c k b => by rw [ek2, fu_c (by omega), ek1, fu_c (by omega)]) r hs3 (by omega) (by omega)
      have f := wr_d e9 (by omega) (by omega)
      exact ⟨rfl, rfl, rfl, a2, a3, a4, i1, i2, i3, i4, i5, i6, i7, k + 1, by omega, fun _ => by omega, fun _ => by omega, j5.n0 j1 (a1.f q6) e8⟩
    · have e6 := e6.trans (i0.w2 (w := x4) (by omega) (by omega))
      have r := i0.u_w2 (z := z6) (w := x4) (by omega) (by omega)
      rw [e6, gu_self, ← e6, ← ek1] at r
      have r := r.u_w3 (z := x6) (w := x4) (by omega) (by omega)
      rw [← ek2, show 86 + 5 * x4 = 85 + 5 * wgF G.1 x1 (G.1 2).toNat + x2 by omega] at r
      obtain ⟨a1, a2, a3, a4⟩ := st (fun c k b => by rw [ek2, fu_c (by omega), ek1, fu_c (by omega)]) r hs3 (by omega) (by omega)
      have f := wr_d e10 (by omega) (by omega)
      exact ⟨rfl, rfl, rfl, a2, a3, a4, i1, i2, i3, i4, i5, i6, i7, k + 1, by omega, fun _ => by omega, fun _ => by omega, j5.y j1 (a1.t q6) e8 e9⟩
    · exfalso
      omega
    · exfalso
      omega
    · exfalso
      omega
    · exfalso
      omega
    · rw [if_neg (by omega), if_neg (by omega), if_neg (by omega), if_pos (by omega)]
      have hk : k = 5 := by omega
      subst hk
      exact j5.eq
    · exfalso
      omega
    · exfalso
      omega
    · exfalso
      omega
    · exfalso
      omega
    · have r := i0.u_w2 (z := x6) (w := x4) (by omega) (by omega)
      rw [← ek1] at r
      have e6 := e6.trans (r.w3 (w := x4) (by omega) (by omega))
      have r := r.u_w3 (z := z6) (w := x4) (by omega) (by omega)
      rw [e6, gu_self, ← e6, ← ek2, show 85 + 5 * x4 = 85 + 5 * wgF G.1 x1 (G.1 2).toNat + x2 by omega] at r
      obtain ⟨a1, a2, a3, a4⟩ := st (fun c k b => by rw [ek2, fu_c (by omega), ek1, fu_c (by omega)]) r hs3 (by omega) (by omega)
      have f := wr_d e9 (by omega) (by omega)
      exact ⟨rfl, rfl, rfl, a2, a3, a4, i1, i2, i3, i4, i5, i6, i7, k + 1, by omega, fun _ => by omega, fun _ => by omega, j5.n0 j1 (a1.f q16) e8⟩
    · have r := i0.u_w2 (z := x6) (w := x4) (by omega) (by omega)
      rw [← ek1] at r
      have e6 := e6.trans (r.w3 (w := x4) (by omega) (by omega))
      have r := r.u_w3 (z := z6) (w := x4) (by omega) (by omega)
      rw [e6, gu_self, ← e6, ← ek2, show 85 + 5 * x4 = 85 + 5 * wgF G.1 x1 (G.1 2).toNat + x2 by omega] at r
      obtain ⟨a1, a2, a3, a4⟩ := st (fun c k b => by rw [ek2, fu_c (by omega), ek1, fu_c (by omega)]) r hs3 (by omega) (by omega)
      have f := wr_d e10 (by omega) (by omega)
      exact ⟨rfl, rfl, rfl, a2, a3, a4, i1, i2, i3, i4, i5, i6, i7, k + 1, by omega, fun _ => by omega, fun _ => by omega, j5.y j1 (a1.t q16) e8 e9⟩
    · exfalso
      omega
    · exfalso
      omega
theorem pq_uponWhat : PJ 130 225 2 true := pj_ans ak_uponWhat (fun {G as h h1 h2 v v2} hl hb W C M s1 s2 => by
  obtain ⟨x, y, rfl⟩ := as2 hl
  exact (ca_uponWhat s1 C W).trans (ra_uponWhat s2 M W).symm)
end AA
