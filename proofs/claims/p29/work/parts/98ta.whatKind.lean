/-! answers: whatKind (made by a program) -/
section AA
variable {h h' : fH} {v x y z w : Int} {G : gS}
theorem ca_whatKind (hs : fS 132 [1, x, y] h v h') (C : CJ G h) (W : GW G) : v = if x < 0 ∨ G.1 0 ≤ x then -1 else if y < 0 ∨ 1 < y then -2 else if y = 0 then btF (fun c => rwP G.2.2.2.2 x (gu G.1 (3 + 5 * x + y) c)) 6 else btF (fun c => rwP G.2.2.2.2 x (gu G.1 (3 + 5 * x + y) c)) 10 := by
  have jm : h 11 1 = G.1 0 := C.1.many
  have jd : h 11 15 = G.1 1 := C.1.day
  have jo : h 11 14 = G.1 2 := C.1.opn
  have hB := W.1.1.1
  have hD := W.1.2
  refine vc_whatKind hs (fun x0 x1 x2 x3 x4 q => x0 = 1 ∧ x1 = x ∧ x2 = y ∧ SC h q ∧ 0 ≤ x ∧ x < G.1 0 ∧ 0 ≤ y ∧ y ≤ 1 ∧ ∃ k : Nat, x4 = (k : Int) ∧ (y = 0 → k ≤ 6) ∧ (y ≠ 0 → k ≤ 10) ∧ (∃ g, RC q 34 g ∧ ∀ i, i ≠ 3 + 5 * x → i ≠ 4 + 5 * x → g i = G.1 i) ∧ BT (fun c => rwP G.2.2.2.2 x (gu G.1 (3 + 5 * x + y) c)) k x3) (fun v _ => v = if x < 0 ∨ G.1 0 ≤ x then -1 else if y < 0 ∨ 1 < y then -2 else if y = 0 then btF (fun c => rwP G.2.2.2.2 x (gu G.1 (3 + 5 * x + y) c)) 6 else btF (fun c => rwP G.2.2.2.2 x (gu G.1 (3 + 5 * x + y) c)) 10) ?_ ?_
  · refine ⟨fun q1 => fun _ _ _ _ _ _ _ ek => (by rw [if_pos (by omega)]), fun q1 => fun z3 e3 => ⟨fun q2 => fun _ _ _ _ _ _ _ ek => (by rw [if_pos (by omega)]), fun q2 => ⟨fun q3 => fun _ _ _ _ _ _ _ ek => (by rw [if_neg (by omega), if_pos (by omega)]), fun q3 => ⟨fun q4 => fun _ _ _ _ _ _ _ ek => (by rw [if_neg (by omega), if_pos (by omega)]), fun q4 => fun v1 k1 hs1 => ?_⟩⟩⟩⟩
    · obtain ⟨S1, R1⟩ := sm_copy hs1 (SC.rf C.w34) C.1 W.1.1.bg
      exact ⟨rfl, rfl, rfl, S1, by omega, by omega, by omega, by omega, 0, rfl, fun _ => by omega, fun _ => by omega, ⟨_, R1, fun _ _ _ => rfl⟩, rfl⟩
  · rintro x0 x1 x2 x3 x4 q ⟨rfl, rfl, rfl, i0, i1, i2, i3, i4, k, j1, j2, j3, ⟨g', j4, j6⟩, j5⟩
    have R11 := i0.r11 C.1 W.1.1.bg
    have wp := W.1.1.per i1 i2
    have f6 : f_len 4 = 6 := by decide +kernel
    have st : ∀ {kk ff v1 v2 : Int} {k1 k2 : fH}, fS 29 [34, x1, kk, ff] q v1 k1 → fS 131 [1, x1] k1 v2 k2 → (x2 = 0 → x4 < 6 ∧ kk = x4 ∧ ff = G.1 (4 + 5 * x1)) → (x2 ≠ 0 → x4 < 10 ∧ kk = G.1 (3 + 5 * x1) ∧ ff = x4) → k2 = k1 ∧ SC h k1 ∧ RC k1 34 (gu G.1 (3 + 5 * x1 + x2) x4) ∧ bR v2 (rwP G.2.2.2.2 x1 (gu G.1 (3 + 5 * x1 + x2) x4)) := fun {kk ff v1 v2 k1 k2} h1 hs b1 b2 => by
      have s := i0.bec h1 (by omega) (by omega) (by omega) (by omega)
      have d0 : g' 0 = G.1 0 := j6 0 (by omega) (by omega)
      have d2 : g' 2 = G.1 2 := j6 2 (by omega) (by omega)
      have B' : BG g' := by
        have B0 := W.1.1.bg
        unfold BG at *
        rw [d0, d2]
        exact B0
      have r := RC_bec (k := kk) (f := ff) j4 B' i1 (by omega)
      rw [← sc_become h1 (by omega) (by omega) (by omega) (by omega)] at r
      have hx : gu (gu g' (3 + 5 * x1) kk) (4 + 5 * x1) ff = gu G.1 (3 + 5 * x1 + x2) x4 := by
        funext i
        by_cases c1 : i = 4 + 5 * x1
        · rw [gu_e c1]
          by_cases c0 : x2 = 0
          · rw [gu_n (by omega), c1]
            exact (b1 c0).2.2
          · rw [gu_e (by omega)]
            exact (b2 c0).2.2
        · rw [gu_n c1]
          by_cases c2 : i = 3 + 5 * x1
          · rw [gu_e c2]
            by_cases c0 : x2 = 0
            · rw [gu_e (by omega)]
              exact (b1 c0).2.1
            · rw [gu_n (by omega), c2]
              exact (b2 c0).2.1
          · rw [gu_n c2, gu_n (by omega)]
            exact j6 i c2 c1
      rw [hx] at r
      have W2 := WF_kf (y := x2) (z := x4) W.1.1 i1 i2 (by omega)
      have e0 : gu G.1 (3 + 5 * x1 + x2) x4 0 = G.1 0 := gu_n (by omega)
      have e1 : gu G.1 (3 + 5 * x1 + x2) x4 1 = G.1 1 := gu_n (by omega)
      have hO : CO G.2.2.2.2 k1 := ⟨(s.1 1 8 (by omega)).trans C.2.2.2.2.1.1, fun i a b => (s.1 2 i (by omega)).trans (C.2.2.2.2.1.2 i a b)⟩
      obtain ⟨u0, u1⟩ := sc_rowSo hs hO r W2 (by omega) i1 (by omega) W.2.2.2.2.1 W.2.2.2.2.2.1
      exact ⟨u0, s, r, u1⟩
    refine ⟨fun q1 => ⟨fun q2 => ?_, fun q2 => ⟨fun q3 => fun z5 e5 => fun v1 k1 hs1 => fun v2 k2 hs2 => ⟨fun q4 => fun z8 e8 => ?_, fun q4 => fun z8 e8 => fun z9 e9 => fun z10 e10 => ?_⟩, fun q3 => fun z5 e5 => fun v1 k1 hs1 => fun v2 k2 hs2 => ⟨fun q5 => fun z8 e8 => ?_, fun q5 => fun z8 e8 => fun z9 e9 => fun z10 e10 => ?_⟩⟩⟩, fun q1 => fun z5 e5 => ⟨fun q6 => ?_, fun q6 => ⟨fun q7 => fun z6 e6 => fun v1 k1 hs1 => fun v2 k2 hs2 => ⟨fun q8 => fun z9 e9 => ?_, fun q8 => fun z9 e9 => fun z10 e10 => fun z11 e11 => ?_⟩, fun q7 => fun z6 e6 => fun v1 k1 hs1 => fun v2 k2 hs2 => ⟨fun q9 => fun z9 e9 => ?_, fun q9 => fun z9 e9 => fun z10 e10 => fun z11 e11 => ?_⟩⟩⟩⟩
    · rw [if_neg (by omega), if_neg (by omega), if_neg (by omega)]
      have hk : k = 10 := by omega
      subst hk
      exact j5.eq
    · have e5 := e5.trans (R11.kind i1 i2)
      obtain ⟨a0, a1, a3, a4⟩ := st hs1 hs2 (fun _ => ⟨by omega, by omega, by omega⟩) (fun _ => ⟨by omega, by omega, by omega⟩)
      rw [a0]
      have f := wr_d e8 (by omega) (by omega)
      exact ⟨rfl, rfl, rfl, a1, i1, i2, i3, i4, k + 1, by omega, fun _ => by omega, fun _ => by omega, ⟨_, a3, fun i c1 c2 => gu_n (by omega)⟩, j5.n j1 (a4.f q4)⟩
    · have e5 := e5.trans (R11.kind i1 i2)
      obtain ⟨a0, a1, a3, a4⟩ := st hs1 hs2 (fun _ => ⟨by omega, by omega, by omega⟩) (fun _ => ⟨by omega, by omega, by omega⟩)
      rw [a0]
      have f := wr_d e10 (by omega) (by omega)
      exact ⟨rfl, rfl, rfl, a1, i1, i2, i3, i4, k + 1, by omega, fun _ => by omega, fun _ => by omega, ⟨_, a3, fun i c1 c2 => gu_n (by omega)⟩, j5.y j1 (a4.t q4) e8 e9⟩
    · exfalso
      omega
    · exfalso
      omega
    · rw [if_neg (by omega), if_neg (by omega), if_pos (by omega)]
      have hk : k = 6 := by omega
      subst hk
      exact j5.eq
    · exfalso
      omega
    · exfalso
      omega
    · have e6 := e6.trans (R11.fig i1 i2)
      obtain ⟨a0, a1, a3, a4⟩ := st hs1 hs2 (fun _ => ⟨by omega, by omega, by omega⟩) (fun _ => ⟨by omega, by omega, by omega⟩)
      rw [a0]
      have f := wr_d e9 (by omega) (by omega)
      exact ⟨rfl, rfl, rfl, a1, i1, i2, i3, i4, k + 1, by omega, fun _ => by omega, fun _ => by omega, ⟨_, a3, fun i c1 c2 => gu_n (by omega)⟩, j5.n j1 (a4.f q9)⟩
    · have e6 := e6.trans (R11.fig i1 i2)
      obtain ⟨a0, a1, a3, a4⟩ := st hs1 hs2 (fun _ => ⟨by omega, by omega, by omega⟩) (fun _ => ⟨by omega, by omega, by omega⟩)
      rw [a0]
      have f := wr_d e11 (by omega) (by omega)
      exact ⟨rfl, rfl, rfl, a1, i1, i2, i3, i4, k + 1, by omega, fun _ => by omega, fun _ => by omega, ⟨_, a3, fun i c1 c2 => gu_n (by omega)⟩, j5.y j1 (a4.t q9) e9 e10⟩
theorem ra_whatKind (hs : fS 228 [271, x, y] h v h') (M : MJ G h) (W : GW G) : v = if x < 0 ∨ G.1 0 ≤ x then -1 else if y < 0 ∨ 1 < y then -2 else if y = 0 then btF (fun c => rwP G.2.2.2.2 x (gu G.1 (3 + 5 * x + y) c)) 6 else btF (fun c => rwP G.2.2.2.2 x (gu G.1 (3 + 5 * x + y) c)) 10 := by
  have hB := W.1.1.1
  have hD := W.1.2
  refine vr_whatKind hs (fun x0 x1 x2 x4 x5 q => x0 = 271 ∧ x1 = x ∧ x2 = y ∧ RM q G.1 ∧ (∀ i, 0 ≤ i → i < 113 → q 290 i = G.1 i) ∧ MO G.2.2.2.2 q ∧ 0 ≤ x ∧ x < G.1 0 ∧ 0 ≤ y ∧ y ≤ 1 ∧ ∃ k : Nat, x5 = (k : Int) ∧ (y = 0 → k ≤ 6) ∧ (y ≠ 0 → k ≤ 10) ∧ BT (fun c => rwP G.2.2.2.2 x (gu G.1 (3 + 5 * x + y) c)) k x4) (fun v _ => v = if x < 0 ∨ G.1 0 ≤ x then -1 else if y < 0 ∨ 1 < y then -2 else if y = 0 then btF (fun c => rwP G.2.2.2.2 x (gu G.1 (3 + 5 * x + y) c)) 6 else btF (fun c => rwP G.2.2.2.2 x (gu G.1 (3 + 5 * x + y) c)) 10) ?_ ?_
  · intro k1 ek1
    have M1 : MJ G k1 := by
      rw [ek1]
      exact M.up (by omega)
    have jm : k1 271 0 = G.1 0 := M1.1.many
    have jd : k1 271 15 = G.1 1 := M1.1.day
    have jo : k1 271 9 = G.1 2 := M1.1.opn
    refine fun z3 e3 => fun z4 e4 => (have f4 := wr_d e4 (by omega) (by omega); fun z5 e5 => ⟨fun q1 => (have r1 := xl_lt e5 q1; fun _ _ _ _ _ _ _ ek => (by rw [if_pos (by omega)])), fun q1 => (have r1 := xl_ge e5 q1; fun z6 e6 => ⟨fun q2 => (have r2 := xl_gt e6 q2; fun _ _ _ _ _ _ _ ek => (by rw [if_pos (by omega)])), fun q2 => (have r2 := xl_le e6 q2; fun z7 e7 => ⟨fun q3 => (have r3 := xl_lt e7 q3; fun _ _ _ _ _ _ _ ek => (by rw [if_neg (by omega), if_pos (by omega)])), fun q3 => (have r3 := xl_ge e7 q3; fun z8 e8 => ⟨fun q4 => (have r4 := xl_gt e8 q4; fun _ _ _ _ _ _ _ ek => (by rw [if_neg (by omega), if_pos (by omega)])), fun q4 => (have r4 := xl_le e8 q4; fun v2 k2 hs2 => ?_)⟩)⟩)⟩)⟩)
    · obtain ⟨a1, a2, a3⟩ := sr_down hs2 M1.1 (by omega)
      have hO : MO G.2.2.2.2 k2 := ⟨(a3 271 38 (by omega) (by omega)).trans M1.2.2.2.2.1, fun i a b => (a3 296 i (by omega) (by omega)).trans (M1.2.2.2.2.2 i a b)⟩
      exact ⟨rfl, rfl, rfl, a1, a2, hO, by omega, by omega, by omega, by omega, 0, rfl, fun _ => by omega, fun _ => by omega, rfl⟩
  · rintro x0 x1 x2 x4 x5 q ⟨rfl, rfl, rfl, i0, i8, i9, i1, i2, i3, i4, k, j1, j2, j3, j5⟩
    have st : ∀ {v3 : Int} {k2 k3 : fH}, (∀ c k, (c < 272 ∨ 284 < c) → k2 c k = q c k) → RM k2 (gu G.1 (3 + 5 * x1 + x2) x5) → fS 227 [271, x1] k2 v3 k3 → (x2 = 0 → x5 < 6) → (x2 ≠ 0 → x5 < 10) → bR v3 (rwP G.2.2.2.2 x1 (gu G.1 (3 + 5 * x1 + x2) x5)) ∧ RM k3 G.1 ∧ (∀ i, 0 ≤ i → i < 113 → k3 290 i = G.1 i) ∧ MO G.2.2.2.2 k3 := fun {v3 k2 k3} fr r hs b1 b2 => by
      have W2 := WF_kf (y := x2) (z := x5) W.1.1 i1 i2 (by omega)
      have d0 : gu G.1 (3 + 5 * x1 + x2) x5 0 = G.1 0 := gu_n (by omega)
      have d1 : gu G.1 (3 + 5 * x1 + x2) x5 1 = G.1 1 := gu_n (by omega)
      exact sr_isRow hs ⟨(fr 271 38 (by omega)).trans i9.1, fun i a b => (fr 296 i (by omega)).trans (i9.2 i a b)⟩ r (fun i a b => (fr 290 i (by omega)).trans (i8 i a b)) W2 (by omega) i1 (by omega) W.2.2.2.2.1 W.2.2.2.2.2.1
    refine ⟨fun q1 => ⟨fun q2 => ?_, fun q2 => ⟨fun q3 => fun z5 e5 => fun k1 ek1 => ⟨fun q4 => fun z6 e6 => fun k2 ek2 => fun v3 k3 hs3 => ⟨fun q5 => fun z8 e8 => fun z9 e9 => ?_, fun q5 => fun z8 e8 => fun z9 e9 => fun z10 e10 => ?_⟩, fun q4 => fun k2 ek2 => fun v3 k3 hs3 => ⟨fun q6 => fun z7 e7 => fun z8 e8 => ?_, fun q6 => fun z7 e7 => fun z8 e8 => fun z9 e9 => ?_⟩⟩, fun q3 => fun k1 ek1 => ⟨fun q7 => fun z5 e5 => fun k2 ek2 => fun v3 k3 hs3 => ⟨fun q8 => fun z7 e7 => fun z8 e8 => ?_, fun q8 => fun z7 e7 => fun z8 e8 => fun z9 e9 => ?_⟩, fun q7 => fun k2 ek2 => fun v3 k3 hs3 => ⟨fun q9 => fun z6 e6 => fun z7 e7 => ?_, fun q9 => fun z6 e6 => fun z7 e7 => fun z8 e8 => ?_⟩⟩⟩⟩, fun q1 => ⟨fun q10 => ?_, fun q10 => ⟨fun q11 => fun z5 e5 => fun k1 ek1 => ⟨fun q12 => fun z6 e6 => fun k2 ek2 => fun v3 k3 hs3 => ⟨fun q13 => fun z8 e8 => fun z9 e9 => ?_, fun q13 => fun z8 e8 => fun z9 e9 => fun z10 e10 => ?_⟩, fun q12 => fun k2 ek2 => fun v3 k3 hs3 => ⟨fun q14 => fun z7 e7 => fun z8 e8 => ?_, fun q14 => fun z7 e7 => fun z8 e8 => fun z9 e9 => ?_⟩⟩, fun q11 => fun k1 ek1 => ⟨fun q15 => fun z5 e5 => fun k2 ek2 => fun v3 k3 hs3 => ⟨fun q16 => fun z7 e7 => fun z8 e8 => ?_, fun q16 => fun z7 e7 => fun z8 e8 => fun z9 e9 => ?_⟩, fun q15 => fun k2 ek2 => fun v3 k3 hs3 => ⟨fun q17 => fun z6 e6 => fun z7 e7 => ?_, fun q17 => fun z6 e6 => fun z7 e7 => fun z8 e8 => ?_⟩⟩⟩⟩⟩
    · rw [if_neg (by omega), if_neg (by omega), if_neg (by omega)]
      have hk : k = 10 := by omega
      subst hk
      exact j5.eq
    · exfalso
      omega
    · exfalso
      omega
    · have e5 := e5.trans (i0.kind (p := x1) i1 (by omega))
      have r := i0.u_kind (z := z5) (p := x1) i1 (by omega)
      rw [e5, gu_self, ← e5, ← ek1] at r
      have r := r.u_fig (z := x5) (p := x1) i1 (by omega)
      rw [← ek2, show 4 + 5 * x1 = 3 + 5 * x1 + x2 by omega] at r
      obtain ⟨a1, a2, a3, a4⟩ := st (fun c k b => by rw [ek2, fu_c (by omega), ek1, fu_c (by omega)]) r hs3 (by omega) (by omega)
      have f := wr_d e8 (by omega) (by omega)
      exact ⟨rfl, rfl, rfl, a2, a3, a4, i1, i2, i3, i4, k + 1, by omega, fun _ => by omega, fun _ => by omega, j5.n0 j1 (a1.f q6) e7⟩
    · have e5 := e5.trans (i0.kind (p := x1) i1 (by omega))
      have r := i0.u_kind (z := z5) (p := x1) i1 (by omega)
      rw [e5, gu_self, ← e5, ← ek1] at r
      have r := r.u_fig (z := x5) (p := x1) i1 (by omega)
      rw [← ek2, show 4 + 5 * x1 = 3 + 5 * x1 + x2 by omega] at r
      obtain ⟨a1, a2, a3, a4⟩ := st (fun c k b => by rw [ek2, fu_c (by omega), ek1, fu_c (by omega)]) r hs3 (by omega) (by omega)
      have f := wr_d e9 (by omega) (by omega)
      exact ⟨rfl, rfl, rfl, a2, a3, a4, i1, i2, i3, i4, k + 1, by omega, fun _ => by omega, fun _ => by omega, j5.y j1 (a1.t q6) e7 e8⟩
    · exfalso
      omega
    · exfalso
      omega
    · exfalso
      omega
    · exfalso
      omega
    · rw [if_neg (by omega), if_neg (by omega), if_pos (by omega)]
      have hk : k = 6 := by omega
      subst hk
      exact j5.eq
    · exfalso
      omega
    · exfalso
      omega
    · exfalso
      omega
    · exfalso
      omega
    · have r := i0.u_kind (z := x5) (p := x1) i1 (by omega)
      rw [← ek1] at r
      have e5 := e5.trans (r.fig (p := x1) i1 (by omega))
      have r := r.u_fig (z := z5) (p := x1) i1 (by omega)
      rw [e5, gu_self, ← e5, ← ek2, show 3 + 5 * x1 = 3 + 5 * x1 + x2 by omega] at r
      obtain ⟨a1, a2, a3, a4⟩ := st (fun c k b => by rw [ek2, fu_c (by omega), ek1, fu_c (by omega)]) r hs3 (by omega) (by omega)
      have f := wr_d e8 (by omega) (by omega)
      exact ⟨rfl, rfl, rfl, a2, a3, a4, i1, i2, i3, i4, k + 1, by omega, fun _ => by omega, fun _ => by omega, j5.n0 j1 (a1.f q16) e7⟩
    · have r := i0.u_kind (z := x5) (p := x1) i1 (by omega)
      rw [← ek1] at r
      have e5 := e5.trans (r.fig (p := x1) i1 (by omega))
      have r := r.u_fig (z := z5) (p := x1) i1 (by omega)
      rw [e5, gu_self, ← e5, ← ek2, show 3 + 5 * x1 = 3 + 5 * x1 + x2 by omega] at r
      obtain ⟨a1, a2, a3, a4⟩ := st (fun c k b => by rw [ek2, fu_c (by omega), ek1, fu_c (by omega)]) r hs3 (by omega) (by omega)
      have f := wr_d e9 (by omega) (by omega)
      exact ⟨rfl, rfl, rfl, a2, a3, a4, i1, i2, i3, i4, k + 1, by omega, fun _ => by omega, fun _ => by omega, j5.y j1 (a1.t q16) e7 e8⟩
    · exfalso
      omega
    · exfalso
      omega
theorem pq_whatKind : PJ 132 228 2 true := pj_ans ak_whatKind (fun {G as h h1 h2 v v2} hl hb W C M s1 s2 => by
  obtain ⟨x, y, rfl⟩ := as2 hl
  exact (ca_whatKind s1 C W).trans (ra_whatKind s2 M W).symm)
end AA
