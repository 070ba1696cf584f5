/-! answers: hedge (made by a program) -/
section AA
variable {h h' : fH} {v x y z w : Int} {G : gS}
noncomputable def btA (off w : Int) : Int := xand (xshr off w) 1
noncomputable def offF (off : Int) : Nat → gV → gV
  | 0, g => g
  | w + 1, g => offF off w (if btA off (w : Int) = 1 then dropF g (w : Int) else g)
noncomputable def hvF (g : gV) (off : Int) (n : Nat) : Int := sumF (fun p => dayN n (offF off (g 2).toNat g) (6 + 5 * p)) ((offF off (g 2).toNat g) 0).toNat
noncomputable def heF (g : gV) (v : Int) (n : Nat) : Nat → Int × Int
  | 0 => (-9, 9)
  | i + 1 => if popc (i : Int) < (heF g v n i).2 ∧ hvF g (i : Int) n ≤ v then ((i : Int), popc (i : Int)) else heF g v n i
theorem heF_y {g : gV} {v : Int} {n i : Nat} (q : popc (i : Int) < (heF g v n i).2 ∧ hvF g (i : Int) n ≤ v) : heF g v n (i + 1) = ((i : Int), popc (i : Int)) := if_pos q
theorem heF_n {g : gV} {v : Int} {n i : Nat} (q : ¬ (popc (i : Int) < (heF g v n i).2 ∧ hvF g (i : Int) n ≤ v)) : heF g v n (i + 1) = heF g v n i := if_neg q
theorem offF_y {off : Int} {w : Nat} {g : gV} (q : btA off (w : Int) = 1) : offF off (w + 1) g = offF off w (dropF g (w : Int)) := by
  show offF off w (if btA off (w : Int) = 1 then dropF g (w : Int) else g) = _
  rw [if_pos q]
theorem offF_n {off : Int} {w : Nat} {g : gV} (q : ¬ btA off (w : Int) = 1) : offF off (w + 1) g = offF off w g := by
  show offF off w (if btA off (w : Int) = 1 then dropF g (w : Int) else g) = _
  rw [if_neg q]
theorem shl_kk : (List.range 4).all (fun m => decide (xshl 1 (m : Int) = ((2 ^ m : Nat) : Int))) = true := by decide +kernel
theorem pcb_kk : (List.range 4).all (fun m => (List.range (2 ^ m)).all (fun i => decide (popc (i : Int) ≤ (m : Int)))) = true := by decide +kernel
theorem shl_p {z : Int} {m : Nat} (h : z = (m : Int)) (hm : m ≤ 3) : xshl 1 z = ((2 ^ m : Nat) : Int) := by
  rw [h]
  exact of_decide_eq_true (List.all_eq_true.mp shl_kk m (List.mem_range.mpr (by omega)))
theorem pcb_p {i m : Nat} (hm : m ≤ 3) (hi : i < 2 ^ m) : popc (i : Int) ≤ (m : Int) := of_decide_eq_true (List.all_eq_true.mp (List.all_eq_true.mp pcb_kk m (List.mem_range.mpr (by omega))) i (List.mem_range.mpr hi))
section HE
variable {g : gV} {w off n : Int} {h0 : fH}
theorem WF_dr (W : WF g) (h1 : 0 ≤ w) (h2 : w < g 2) : WF (dropF g w) := by
  have ww := W.wag h1 h2
  have p1 := W.per (p := g (83 + 5 * w)) (by omega) (by omega)
  have p2 := W.per (p := g (84 + 5 * w)) (by omega) (by omega)
  exact WF_drop (G := g) W h1 h2 (fun _ _ _ _ _ _ => rfl) (by omega) (by omega) (by omega) (by omega)
theorem dr_1 (h1 : 0 ≤ w) : dropF g w 1 = g 1 := by
  unfold dropF
  rw [if_neg (by omega), if_neg (by omega)]
theorem dr_2 : dropF g w 2 = g 2 - 1 := if_pos rfl
theorem sc_off (hs : fS 124 [1, off] h v h') (S : SC h0 h) (R : RC h0 11 g) (W : WF g) : SC h0 h' ∧ RC h' 34 (offF off (g 2).toNat g) ∧ WF (offF off (g 2).toNat g) ∧ offF off (g 2).toNat g 1 = g 1 := by
  have hB := W.1
  refine vc_callOffInMind hs (fun x0 x1 x2 q => x1 = off ∧ SC h0 q ∧ ∃ k : Nat, x2 = (k : Int) - 1 ∧ ∃ g', WF g' ∧ RC q 34 g' ∧ (k : Int) ≤ g' 2 ∧ g' 1 = g 1 ∧ offF off (g 2).toNat g = offF off k g') (fun _ h' => SC h0 h' ∧ RC h' 34 (offF off (g 2).toNat g) ∧ WF (offF off (g 2).toNat g) ∧ offF off (g 2).toNat g 1 = g 1) ?_ ?_
  · intro v1 k1 hs1 z3 e3 z4 e4
    obtain ⟨s1, r1⟩ := sm_copy hs1 S R W.bg
    have e3 := e3.trans (s1.r11 R W.bg).opn
    have f4 := wr_d e4 (by omega) (by omega)
    exact ⟨rfl, s1, (g 2).toNat, by omega, g, W, r1, by omega, rfl, rfl⟩
  · rintro x0 x1 x2 q ⟨rfl, i0, k, j1, g', j2, j3, j4, j5, j6⟩
    have hB' := j2.1
    refine ⟨fun q1 => ?_, fun q1 z3 e3 z4 e4 => ?_⟩
    · have hk : k = 0 := by omega
      subst hk
      have j6 : offF x1 (g 2).toNat g = g' := j6
      rw [j6]
      exact ⟨i0, j3, j2, j5⟩
    · obtain ⟨m, rfl⟩ : ∃ m, k = m + 1 := ⟨k - 1, by omega⟩
      have hx : x2 = (m : Int) := by omega
      have eb : z4 = btA x1 (m : Int) := by rw [e4, e3, hx]; rfl
      refine ⟨fun q2 z5 e5 => ?_, fun q2 v1 k1 hs1 z6 e6 => ?_⟩
      · have f5 := wr_d e5 (by omega) (by omega)
        exact ⟨rfl, i0, m, by omega, g', j2, j3, by omega, j5, by rw [j6, offF_n (fun c => q2 (eb.trans c))]⟩
      · have f6 := wr_d e6 (by omega) (by omega)
        obtain ⟨a1, a2⟩ := sc_close hs1 j3 j2.bg q1 (by omega)
        refine ⟨rfl, i0.frC a2 a1.rw', m, by omega, dropF g' x2, WF_dr j2 q1 (by omega), a1, ?_, (dr_1 q1).trans j5, ?_⟩
        · rw [dr_2]
          omega
        · rw [j6, offF_y (eb.symm.trans q2), hx]
theorem sr_without (hs : fS 223 [271, off, n] h v h') (R : RM h g) (K : ∀ i, 0 ≤ i → i < 113 → h 290 i = g i) (W : WF g) (hd : g 1 ≤ 999) (n0 : 0 ≤ n) (n1 : n ≤ 60) : v = hvF g off n.toNat ∧ RM h' g ∧ (∀ i, 0 ≤ i → i < 113 → h' 290 i = g i) := by
  have hB := W.1
  refine vr_tearsWithout hs (fun x0 x1 x2 x3 q => x0 = 271 ∧ x1 = off ∧ x2 = n ∧ (∀ i, 0 ≤ i → i < 113 → q 290 i = g i) ∧ ∃ k : Nat, x3 = (k : Int) - 1 ∧ ∃ g', WF g' ∧ RM q g' ∧ (k : Int) ≤ g' 2 ∧ g' 1 = g 1 ∧ offF off (g 2).toNat g = offF off k g') (fun v h' => v = hvF g off n.toNat ∧ RM h' g ∧ (∀ i, 0 ≤ i → i < 113 → h' 290 i = g i)) ?_ ?_
  · intro z3 e3 z4 e4
    have e3 := e3.trans R.opn
    have f4 := wr_d e4 (by omega) (by omega)
    exact ⟨rfl, rfl, rfl, K, (g 2).toNat, by omega, g, W, R, by omega, rfl, rfl⟩
  · rintro x0 x1 x2 x3 q ⟨rfl, rfl, rfl, i0, k, j1, g', j2, j3, j4, j5, j6⟩
    have hB' := j2.1
    refine ⟨fun q1 v1 k1 hs1 v2 k2 hs2 v3 k3 hs3 => ?_, fun q1 z4 e4 z5 e5 => ?_⟩
    · have hk : k = 0 := by omega
      subst hk
      have j6 : offF x1 (g 2).toNat g = g' := j6
      obtain ⟨b1, b2⟩ := sr_goDays hs1 j3 j2 n0 (by omega)
      obtain ⟨w1, w2, w3⟩ := dayN_ok j2 x2.toNat (by omega)
      obtain ⟨t0, t1⟩ := sr_allTears hs2 b1 w1
      rw [t0] at hs3
      obtain ⟨c1, c2, c3⟩ := sr_up (G := g) hs3 (fun i a b => by rw [b2 290 i (by omega)]; exact i0 i a b) (by omega)
      refine ⟨?_, c1, c2⟩
      unfold hvF
      rw [j6, ← w2]
      exact t1
    · obtain ⟨m, rfl⟩ : ∃ m, k = m + 1 := ⟨k - 1, by omega⟩
      have hx : x3 = (m : Int) := by omega
      have eb : z5 = btA x1 (m : Int) := by rw [e5, e4, hx]; rfl
      refine ⟨fun q2 z6 e6 => ?_, fun q2 v1 k1 hs1 z7 e7 => ?_⟩
      · have f6 := wr_d e6 (by omega) (by omega)
        exact ⟨rfl, rfl, rfl, i0, m, by omega, g', j2, j3, by omega, j5, by rw [j6, offF_n (fun c => q2 (eb.trans c))]⟩
      · have f7 := wr_d e7 (by omega) (by omega)
        obtain ⟨a1, a2⟩ := sr_dropWager hs1 j3 q1 (by omega) (by omega)
        refine ⟨rfl, rfl, rfl, fun i a b => by rw [a2 290 i (by omega)]; exact i0 i a b, m, by omega, dropF g' x3, WF_dr j2 q1 (by omega), a1, ?_, (dr_1 q1).trans j5, ?_⟩
        · rw [dr_2]
          omega
        · rw [j6, offF_y (eb.symm.trans q2), hx]
end HE
theorem ca_hedge (hs : fS 123 [1, x, y] h v h') (C : CJ G h) (W : GW G) : v = if x < 0 ∨ y < 0 then -4 else if 99 < x ∨ 30 < y then -6 else (heF G.1 x y.toNat (2 ^ (G.1 2).toNat)).1 := by
  have jm : h 11 1 = G.1 0 := C.1.many
  have jd : h 11 15 = G.1 1 := C.1.day
  have jo : h 11 14 = G.1 2 := C.1.opn
  have hB := W.1.1.1
  have hD := W.1.2
  refine vc_hedge hs (fun x0 x1 x2 x3 x4 x5 q => x0 = 1 ∧ x1 = x ∧ x2 = y ∧ SC h q ∧ 0 ≤ x ∧ x ≤ 99 ∧ 0 ≤ y ∧ y ≤ 30 ∧ ∃ k : Nat, x5 = (k : Int) ∧ k ≤ 2 ^ (G.1 2).toNat ∧ x3 = (heF G.1 x y.toNat k).1 ∧ ((x4 = G.1 2 + 1 ∧ (heF G.1 x y.toNat k).2 = 9) ∨ x4 = (heF G.1 x y.toNat k).2)) (fun v _ => v = if x < 0 ∨ y < 0 then -4 else if 99 < x ∨ 30 < y then -6 else (heF G.1 x y.toNat (2 ^ (G.1 2).toNat)).1) ?_ ?_
  · refine ⟨fun q1 => fun _ _ _ _ _ _ _ ek => (by rw [if_pos (by omega)]), fun q1 => ⟨fun q2 => ⟨fun q3 => fun _ _ _ _ _ _ _ ek => (by rw [if_neg (by omega), if_pos (by omega)]), fun q3 => ⟨fun q4 => fun z3 e3 => fun z4 e4 => (have f4 := wr_d e4 (by omega) (by omega); ?_), fun q4 => fun _ _ _ _ _ _ _ ek => (by rw [if_neg (by omega), if_pos (by omega)])⟩⟩, fun q2 => fun _ _ _ _ _ _ _ ek => (by rw [if_pos (by omega)])⟩⟩
    · exact ⟨rfl, rfl, rfl, SC.rf C.w34, by omega, by omega, by omega, by omega, 0, rfl, Nat.zero_le _, rfl, Or.inl ⟨by omega, rfl⟩⟩
  · rintro x0 x1 x2 x3 x4 x5 q ⟨rfl, rfl, rfl, i0, i1, i2, i3, i4, k, j1, j2, j3, j4⟩ z6 e6 z7 e7
    have R11 := i0.r11 C.1 W.1.1.bg
    have e6 := e6.trans R11.opn
    have sh := shl_p (z := z6) (m := (G.1 2).toNat) (by omega) (by omega)
    rw [← e7] at sh
    have h8 : (2 ^ (G.1 2).toNat : Nat) ≤ 2 ^ 3 := Nat.pow_le_pow_right (by omega) (by omega)
    refine ⟨fun q1 => ?_, fun q1 v1 k1 hs1 v2 k2 hs2 => ?_⟩
    · rw [if_neg (by omega), if_neg (by omega), j3, show k = 2 ^ (G.1 2).toNat by omega]
    · obtain ⟨s1, r1, w1, d1⟩ := sc_off hs1 i0 C.1 W.1.1
      obtain ⟨t0, t1⟩ := sc_bits hs2 (by omega) (by omega)
      rw [j1] at t1
      have pb := pcb_p (i := k) (m := (G.1 2).toNat) (by omega) (by omega)
      rw [t0]
      refine ⟨fun q2 z10 e10 => ?_, fun q2 v3 k3 hs3 => ?_⟩
      · have f10 := wr_d e10 (by omega) (by omega)
        have n := heF_n (g := G.1) (v := x1) (n := x2.toNat) (i := k) (fun c => by omega)
        exact ⟨rfl, rfl, rfl, s1, i1, i2, i3, i4, k + 1, by omega, by omega, by rw [n]; exact j3, by rw [n]; exact j4⟩
      · obtain ⟨u0, u1⟩ := sc_allTears hs3 r1 w1 (by omega) (by omega) (by omega)
        rw [j1] at u1
        have u2 : v3 = hvF G.1 (k : Int) x2.toNat := u1
        rw [u0]
        refine ⟨fun q3 z11 e11 => ?_, fun q3 v4 k4 hs4 z12 e12 => ?_⟩
        · have f11 := wr_d e11 (by omega) (by omega)
          have n := heF_n (g := G.1) (v := x1) (n := x2.toNat) (i := k) (fun c => by omega)
          exact ⟨rfl, rfl, rfl, s1, i1, i2, i3, i4, k + 1, by omega, by omega, by rw [n]; exact j3, by rw [n]; exact j4⟩
        · obtain ⟨y0, y1⟩ := sc_bits hs4 (by omega) (by omega)
          rw [j1] at y1
          have f12 := wr_d e12 (by omega) (by omega)
          have n := heF_y (g := G.1) (v := x1) (n := x2.toNat) (i := k) (by omega)
          rw [y0]
          exact ⟨rfl, rfl, rfl, s1, i1, i2, i3, i4, k + 1, by omega, by omega, by rw [n]; exact j1, Or.inr (by rw [n]; exact y1)⟩
theorem ra_hedge (hs : fS 222 [271, x, y] h v h') (M : MJ G h) (W : GW G) : v = if x < 0 ∨ y < 0 then -4 else if 99 < x ∨ 30 < y then -6 else (heF G.1 x y.toNat (2 ^ (G.1 2).toNat)).1 := by
  have hB := W.1.1.1
  have hD := W.1.2
  refine vr_hedge hs (fun x0 x1 x2 x4 x5 x6 q => x0 = 271 ∧ x1 = x ∧ x2 = y ∧ RM q G.1 ∧ (∀ i, 0 ≤ i → i < 113 → q 290 i = G.1 i) ∧ 0 ≤ x ∧ x ≤ 99 ∧ 0 ≤ y ∧ y ≤ 30 ∧ ∃ k : Nat, x6 = (k : Int) ∧ k ≤ 2 ^ (G.1 2).toNat ∧ x4 = (heF G.1 x y.toNat k).1 ∧ x5 = (heF G.1 x y.toNat k).2) (fun v _ => v = if x < 0 ∨ y < 0 then -4 else if 99 < x ∨ 30 < y then -6 else (heF G.1 x y.toNat (2 ^ (G.1 2).toNat)).1) ?_ ?_
  · intro k1 ek1
    have M1 : MJ G k1 := by
      rw [ek1]
      exact M.up (by omega)
    have jm : k1 271 0 = G.1 0 := M1.1.many
    have jd : k1 271 15 = G.1 1 := M1.1.day
    have jo : k1 271 9 = G.1 2 := M1.1.opn
    refine ⟨fun q1 => fun _ _ _ _ _ _ _ ek => (by rw [if_pos (by omega)]), fun q1 => ⟨fun q2 => ⟨fun q3 => fun _ _ _ _ _ _ _ ek => (by rw [if_neg (by omega), if_pos (by omega)]), fun q3 => ⟨fun q4 => fun v2 k2 hs2 => ?_, fun q4 => fun _ _ _ _ _ _ _ ek => (by rw [if_neg (by omega), if_pos (by omega)])⟩⟩, fun q2 => fun _ _ _ _ _ _ _ ek => (by rw [if_pos (by omega)])⟩⟩
    · obtain ⟨a1, a2, a3⟩ := sr_down hs2 M1.1 (by omega)
      exact ⟨rfl, rfl, rfl, a1, a2, by omega, by omega, by omega, by omega, 0, rfl, Nat.zero_le _, rfl, rfl⟩
  · rintro x0 x1 x2 x4 x5 x6 q ⟨rfl, rfl, rfl, i0, i9, i1, i2, i3, i4, k, j1, j2, j3, j4⟩ z6 e6 z7 e7
    have e6 := e6.trans i0.opn
    have sh := shl_p (z := z6) (m := (G.1 2).toNat) (by omega) (by omega)
    rw [← e7] at sh
    have h8 : (2 ^ (G.1 2).toNat : Nat) ≤ 2 ^ 3 := Nat.pow_le_pow_right (by omega) (by omega)
    refine ⟨fun q1 => ?_, fun q1 v1 k1 hs1 => ?_⟩
    · rw [if_neg (by omega), if_neg (by omega), j3, show k = 2 ^ (G.1 2).toNat by omega]
    · obtain ⟨t0, t1⟩ := sr_onesOf hs1 (by omega) (by omega)
      rw [j1] at t1
      rw [t0]
      refine ⟨fun q2 z9 e9 => ?_, fun q2 v2 k2 hs2 => ?_⟩
      · have f9 := wr_d e9 (by omega) (by omega)
        have n := heF_n (g := G.1) (v := x1) (n := x2.toNat) (i := k) (fun c => by omega)
        exact ⟨rfl, rfl, rfl, i0, i9, i1, i2, i3, i4, k + 1, by omega, by omega, by rw [n]; exact j3, by rw [n]; exact j4⟩
      · obtain ⟨u1, u2, u3⟩ := sr_without hs2 i0 i9 W.1.1 W.1.2 i3 (by omega)
        rw [j1] at u1
        refine ⟨fun q3 z10 e10 => ?_, fun q3 v3 k3 hs3 z11 e11 => ?_⟩
        · have f10 := wr_d e10 (by omega) (by omega)
          have n := heF_n (g := G.1) (v := x1) (n := x2.toNat) (i := k) (fun c => by omega)
          exact ⟨rfl, rfl, rfl, u2, u3, i1, i2, i3, i4, k + 1, by omega, by omega, by rw [n]; exact j3, by rw [n]; exact j4⟩
        · obtain ⟨y0, y1⟩ := sr_onesOf hs3 (by omega) (by omega)
          rw [j1] at y1
          have f11 := wr_d e11 (by omega) (by omega)
          have n := heF_y (g := G.1) (v := x1) (n := x2.toNat) (i := k) (by omega)
          rw [y0]
          exact ⟨rfl, rfl, rfl, u2, u3, i1, i2, i3, i4, k + 1, by omega, by omega, by rw [n]; exact j1, by rw [n]; exact y1⟩
theorem pq_hedge : PJ 123 222 2 true := pj_ans ak_hedge (fun {G as h h1 h2 v v2} hl hb W C M s1 s2 => by
  obtain ⟨x, y, rfl⟩ := as2 hl
  exact (ca_hedge s1 C W).trans (ra_hedge s2 M W).symm)
end AA
