/-! answers: lots (made by a program) -/
section AA
variable {h h' : fH} {v x y z w : Int} {G : gS}
noncomputable def dlF (z : Int) (s : Nat) (j : Int) : Int := drF (sqF z (5 * s + j.toNat + 1))
noncomputable def loV (w : Int) (g : gV) : Int := if w = 0 then cN g 10 else sumF (fun p => dayN 10 g (6 + 5 * p)) (g 0).toNat
noncomputable def loF (g : gV) (z w : Int) : Nat → Int
  | 0 => 0
  | s + 1 => loF g z w s + loV w (gOn g (dlF z s))
theorem loV_b {g : gV} (W : WF g) (hd : g 1 ≤ 4900) (w : Int) : 0 ≤ loV w g ∧ loV w g ≤ 693 := by
  have hB := W.1
  unfold loV
  split
  · have := ctF_b (fun p => dayN 10 g (7 + 5 * p) ≠ 0) (g 0).toNat
    unfold cN
    omega
  · have := sum_b (f := fun p => dayN 10 g (6 + 5 * p)) (c := 99) (k := (g 0).toNat) (tears_b (m := 10) W (by omega))
    omega
theorem sr_draw (hs : fS 251 [271, 9] h v h') : v = drF (h' 271 40) ∧ h' = fu h 271 40 (wr (wr (h 271 40 * 1103515245) + 12345)) := by
  refine vr_drawBelow hs (fun v h' => v = drF (h' 271 40) ∧ h' = fu h 271 40 (wr (wr (h 271 40 * 1103515245) + 12345))) ?_
  intro z2 e2 z3 e3 z4 e4 k1 ek1 z5 e5 z6 e6 z7 e7 z8 e8
  refine ⟨?_, by rw [ek1, e4, e3, e2]⟩
  unfold drF
  rw [e8, e7, e6, e5]
theorem WF_dl {g : gV} (W : WF g) (z : Int) (s : Nat) : WF (gOn g (dlF z s)) := WF_gOn W (fun j _ _ => drF_b _)
theorem ca_lots (hs : fS 137 [1, x, y, z] h v h') (C : CJ G h) (W : GW G) : v = if x < 1 then -4 else if 20 < x then -6 else if z < 0 ∨ 1 < z then -2 else loF G.1 y z x.toNat := by
  have jm : h 11 1 = G.1 0 := C.1.many
  have jd : h 11 15 = G.1 1 := C.1.day
  have jo : h 11 14 = G.1 2 := C.1.opn
  have hB := W.1.1.1
  have hD := W.1.2
  refine vc_lots hs (fun x0 x1 x3 x4 x5 x6 q => x1 = x ∧ x3 = z ∧ SC h q ∧ 1 ≤ x ∧ x ≤ 20 ∧ 0 ≤ z ∧ z ≤ 1 ∧ ∃ s : Nat, x6 = (s : Int) ∧ (s : Int) ≤ x ∧ x4 = sqF y (5 * s) ∧ x5 = loF G.1 y z s ∧ 0 ≤ x5 ∧ x5 ≤ 693 * (s : Int) ∧ ∃ f, RC q 34 (gOn G.1 f)) (fun x0 x1 x3 x4 x5 x6 x7 q => x1 = x ∧ x3 = z ∧ SC h q ∧ 1 ≤ x ∧ x ≤ 20 ∧ 0 ≤ z ∧ z ≤ 1 ∧ ∃ s k : Nat, x6 = (s : Int) ∧ (s : Int) < x ∧ x7 = (k : Int) ∧ k ≤ 5 ∧ x4 = sqF y (5 * s + k) ∧ x5 = loF G.1 y z s ∧ 0 ≤ x5 ∧ x5 ≤ 693 * (s : Int) ∧ ∃ f, RC q 34 (gOn G.1 f) ∧ ∀ j, 0 ≤ j → j < (k : Int) → f j = dlF y s j) (fun v _ => v = if x < 1 then -4 else if 20 < x then -6 else if z < 0 ∨ 1 < z then -2 else loF G.1 y z x.toNat) ?_ ?_ ?_
  · refine ⟨fun q1 => ⟨fun q2 => ⟨fun q3 => fun _ _ _ _ _ _ _ ek => (by rw [if_neg (by omega), if_neg (by omega), if_pos (by omega)]), fun q3 => ⟨fun q4 => fun _ _ _ _ _ _ _ ek => (by rw [if_neg (by omega), if_neg (by omega), if_pos (by omega)]), fun q4 => fun v1 k1 hs1 => ?_⟩⟩, fun q2 => fun _ _ _ _ _ _ _ ek => (by rw [if_neg (by omega), if_pos (by omega)])⟩, fun q1 => fun _ _ _ _ _ _ _ ek => (by rw [if_pos (by omega)])⟩
    · obtain ⟨S1, R1⟩ := sm_copy hs1 (SC.rf C.w34) C.1 W.1.1.bg
      exact ⟨rfl, rfl, S1, by omega, by omega, by omega, by omega, 0, rfl, by omega, rfl, rfl, by omega, by omega, (fun j => G.1 (74 + 2 * j)), by rw [gOn_0]; exact R1⟩
  · rintro x0 x1 x3 x4 x5 x6 q ⟨rfl, rfl, i0, i1, i2, i3, i4, s, j1, j2, j3, j4, j5, j6, f, j7⟩
    refine ⟨fun q1 => ?_, fun q1 => ⟨rfl, rfl, i0, i1, i2, i3, i4, s, 0, j1, by omega, rfl, by omega, j3, j4, j5, j6, f, j7, fun j a b => by omega⟩⟩
    rw [if_neg (by omega), if_neg (by omega), if_neg (by omega), j4, show x1.toNat = s by omega]
  · rintro x0 x1 x3 x4 x5 x6 x7 q ⟨rfl, rfl, i0, i1, i2, i3, i4, s, k, j1, j2, j3, j4, j5, j6, j7, j8, f, j9, j10⟩
    refine ⟨fun q1 => ?_, fun q1 z7 e7 z8 e8 z9 e9 z10 e10 z11 e11 k1 ek1 z12 e12 => ?_⟩
    · have hk : k = 5 := by omega
      subst hk
      have hg : gOn G.1 f = gOn G.1 (dlF y s) := gOn_cg (fun j a b => j10 j a (by omega))
      rw [hg] at j9
      have W2 := WF_dl W.1.1 y s
      have d1 : gOn G.1 (dlF y s) 1 = G.1 1 := gOn_n (by omega)
      have lb := loV_b W2 (by omega) x3
      have st : loF G.1 y x3 (s + 1) = x5 + loV x3 (gOn G.1 (dlF y s)) := by
        rw [j6]
        rfl
      have sq : sqF y (5 * (s + 1)) = x4 := j5.symm
      refine ⟨fun q2 v1 k1 hs1 z8 e8 z9 e9 => ?_, fun q2 v1 k1 hs1 z8 e8 z9 e9 => ?_⟩
      · obtain ⟨t0, t1⟩ := sc_allTears hs1 j9 W2 (by omega) (by omega) (by omega)
        have t2 : v1 = loV x3 (gOn G.1 (dlF y s)) := by
          unfold loV
          rw [if_neg q2]
          exact t1
        rw [t0]
        have f8 := wr_d e8 (by omega) (by omega)
        have f9 := wr_d e9 (by omega) (by omega)
        exact ⟨rfl, rfl, i0, i1, i2, i3, i4, s + 1, by omega, by omega, sq.symm, by rw [st, f8, t2], by omega, by omega, _, j9⟩
      · obtain ⟨t0, t1⟩ := sc_howMany hs1 j9 W2 (by omega) (by omega) (by omega)
        have t2 : v1 = loV x3 (gOn G.1 (dlF y s)) := by
          unfold loV
          rw [if_pos q2]
          exact t1
        rw [t0]
        have f8 := wr_d e8 (by omega) (by omega)
        have f9 := wr_d e9 (by omega) (by omega)
        exact ⟨rfl, rfl, i0, i1, i2, i3, i4, s + 1, by omega, by omega, sq.symm, by rw [st, f8, t2], by omega, by omega, _, j9⟩
    · have f12 := wr_d e12 (by omega) (by omega)
      have r := j9.u_on (z := z11) (e := x7) (BG_gOn W.1.1.bg) (by omega) (by omega)
      rw [show (34 : Int) + 18 = 52 from rfl, gOn_u (by omega) (by omega), ← ek1] at r
      have sc := i0.up (c := 52) (k := x7) (z := z11) (by omega)
      rw [← ek1] at sc
      have sq : z8 = sqF y (5 * s + (k + 1)) := by
        rw [e8, e7, j5]
        rfl
      refine ⟨rfl, rfl, sc, i1, i2, i3, i4, s, k + 1, j1, j2, by omega, by omega, sq, j6, j7, j8, _, r, fun j a b => ?_⟩
      show (if j = x7 then z11 else f j) = dlF y s j
      by_cases c : j = x7
      · rw [if_pos c]
        unfold dlF drF
        rw [show 5 * s + j.toNat + 1 = 5 * s + (k + 1) by omega, ← sq, ← e9, ← e10]
        exact e11
      · rw [if_neg c]
        exact j10 j a (by omega)
theorem ra_lots (hs : fS 250 [271, x, y, z] h v h') (M : MJ G h) (W : GW G) : v = if x < 1 then -4 else if 20 < x then -6 else if z < 0 ∨ 1 < z then -2 else loF G.1 y z x.toNat := by
  have hB := W.1.1.1
  have hD := W.1.2
  refine vr_lots hs (fun x0 x1 x3 x5 x6 q => x0 = 271 ∧ x1 = x ∧ x3 = z ∧ 1 ≤ x ∧ x ≤ 20 ∧ 0 ≤ z ∧ z ≤ 1 ∧ RM q G.1 ∧ (∀ i, 0 ≤ i → i < 113 → q 290 i = G.1 i) ∧ ∃ s : Nat, x6 = (s : Int) ∧ (s : Int) ≤ x ∧ q 271 40 = sqF y (5 * s) ∧ x5 = loF G.1 y z s ∧ 0 ≤ x5 ∧ x5 ≤ 693 * (s : Int)) (fun x0 x1 x3 x5 x6 x7 q => x0 = 271 ∧ x1 = x ∧ x3 = z ∧ 1 ≤ x ∧ x ≤ 20 ∧ 0 ≤ z ∧ z ≤ 1 ∧ (∀ i, 0 ≤ i → i < 113 → q 290 i = G.1 i) ∧ ∃ s k : Nat, x6 = (s : Int) ∧ (s : Int) < x ∧ x7 = (k : Int) ∧ k ≤ 5 ∧ q 271 40 = sqF y (5 * s + k) ∧ x5 = loF G.1 y z s ∧ 0 ≤ x5 ∧ x5 ≤ 693 * (s : Int) ∧ ∃ f, RM q (gOn G.1 f) ∧ ∀ j, 0 ≤ j → j < (k : Int) → f j = dlF y s j) (fun v _ => v = if x < 1 then -4 else if 20 < x then -6 else if z < 0 ∨ 1 < z then -2 else loF G.1 y z x.toNat) ?_ ?_ ?_
  · intro k1 ek1
    have M1 : MJ G k1 := by
      rw [ek1]
      exact M.up (by omega)
    have jm : k1 271 0 = G.1 0 := M1.1.many
    have jd : k1 271 15 = G.1 1 := M1.1.day
    have jo : k1 271 9 = G.1 2 := M1.1.opn
    refine ⟨fun q1 => ⟨fun q2 => fun z4 e4 => ⟨fun q3 => (have r3 := xl_lt e4 q3; fun _ _ _ _ _ _ _ ek => (by rw [if_neg (by omega), if_neg (by omega), if_pos (by omega)])), fun q3 => (have r3 := xl_ge e4 q3; fun z5 e5 => ⟨fun q4 => (have r4 := xl_gt e5 q4; fun _ _ _ _ _ _ _ ek => (by rw [if_neg (by omega), if_neg (by omega), if_pos (by omega)])), fun q4 => (have r4 := xl_le e5 q4; fun k2 ek2 => fun v3 k3 hs3 => ?_)⟩)⟩, fun q2 => fun _ _ _ _ _ _ _ ek => (by rw [if_neg (by omega), if_pos (by omega)])⟩, fun q1 => fun _ _ _ _ _ _ _ ek => (by rw [if_pos (by omega)])⟩
    · have R2 : RM k2 G.1 := RM_cg M1.1 (fun c k u1 u2 u3 => by
        rw [ek2]
        by_cases hc : c = 271
        · have := u3 hc
          exact fu_k (by omega)
        · exact fu_c hc)
      obtain ⟨a1, a2, a3⟩ := sr_down hs3 R2 (by omega)
      refine ⟨rfl, rfl, rfl, by omega, by omega, by omega, by omega, a1, a2, 0, rfl, by omega, ?_, rfl, by omega, by omega⟩
      rw [a3 271 40 (by omega) (by omega), ek2]
      exact fu_e rfl rfl
  · rintro x0 x1 x3 x5 x6 q ⟨rfl, rfl, rfl, i1, i2, i3, i4, i5, i6, s, j1, j2, j3, j4, j5, j6⟩
    refine ⟨fun q1 => ?_, fun q1 => ⟨rfl, rfl, rfl, i1, i2, i3, i4, i6, s, 0, j1, by omega, rfl, by omega, j3, j4, j5, j6, (fun j => G.1 (74 + 2 * j)), by rw [gOn_0]; exact i5, fun j a b => by omega⟩⟩
    rw [if_neg (by omega), if_neg (by omega), if_neg (by omega), j4, show x1.toNat = s by omega]
  · rintro x0 x1 x3 x5 x6 x7 q ⟨rfl, rfl, rfl, i1, i2, i3, i4, i6, s, k, j1, j2, j3, j4, j5, j6, j7, j8, f, j9, j10⟩
    refine ⟨fun q1 v1 k1 hs1 => ?_, fun q1 v1 k1 hs1 k2 ek2 z7 e7 => ?_⟩
    · have hk : k = 5 := by omega
      subst hk
      have hg : gOn G.1 f = gOn G.1 (dlF y s) := gOn_cg (fun j a b => j10 j a (by omega))
      rw [hg] at j9
      have W2 := WF_dl W.1.1 y s
      have d1 : gOn G.1 (dlF y s) 1 = G.1 1 := gOn_n (by omega)
      have d0 : gOn G.1 (dlF y s) 0 = G.1 0 := gOn_n (by omega)
      have lb := loV_b W2 (by omega) x3
      have st : loF G.1 y x3 (s + 1) = x5 + loV x3 (gOn G.1 (dlF y s)) := by
        rw [j6]
        rfl
      obtain ⟨b1, b2⟩ := sr_goDays hs1 j9 W2 (by omega) (by omega)
      obtain ⟨w1, w2, w3⟩ := dayN_ok W2 10 (by omega)
      have b1 : RM k1 (dayN 10 (gOn G.1 (dlF y s))) := b1
      refine ⟨fun q2 v2 k2 hs2 z8 e8 v3 k3 hs3 z10 e10 => ?_, fun q2 v2 k2 hs2 v3 k3 hs3 z9 e9 v4 k4 hs4 z11 e11 => ?_⟩
      · obtain ⟨t0, t1⟩ := sr_allTears hs2 b1 w1
        have t2 : v2 = loV x3 (gOn G.1 (dlF y s)) := by
          unfold loV
          rw [if_neg q2, ← w2]
          exact t1
        rw [t0] at hs3
        obtain ⟨c1, c2, c3⟩ := sr_up (G := G.1) hs3 (fun i u1 u2 => by rw [b2 290 i (by omega)]; exact i6 i u1 u2) (by omega)
        have f8 := wr_d e8 (by omega) (by omega)
        have f10 := wr_d e10 (by omega) (by omega)
        refine ⟨rfl, rfl, rfl, i1, i2, i3, i4, c1, c2, s + 1, by omega, by omega, ?_, by rw [st, f8, t2], by omega, by omega⟩
        rw [c3 271 40 (by omega) (by omega), b2 271 40 (by omega)]
        exact j5
      · obtain ⟨t0, t1⟩ := sr_wedNum (h0 := q) hs2 hs3 b1 w1
        have t2 : v3 = loV x3 (gOn G.1 (dlF y s)) := by
          unfold loV cN
          rw [if_pos q2, ← w2]
          exact t1
        rw [t0] at hs4
        obtain ⟨c1, c2, c3⟩ := sr_up (G := G.1) hs4 (fun i u1 u2 => by rw [b2 290 i (by omega)]; exact i6 i u1 u2) (by omega)
        have f9 := wr_d e9 (by omega) (by omega)
        have f11 := wr_d e11 (by omega) (by omega)
        refine ⟨rfl, rfl, rfl, i1, i2, i3, i4, c1, c2, s + 1, by omega, by omega, ?_, by rw [st, f9, t2], by omega, by omega⟩
        rw [c3 271 40 (by omega) (by omega), b2 271 40 (by omega)]
        exact j5
    · have f7 := wr_d e7 (by omega) (by omega)
      obtain ⟨t0, t1⟩ := sr_draw hs1
      have sq : wr (wr (q 271 40 * 1103515245) + 12345) = sqF y (5 * s + (k + 1)) := by
        rw [j5]
        rfl
      rw [sq] at t1
      rw [t1, fu_e rfl rfl] at t0
      have R2 : RM k1 (gOn G.1 f) := RM_cg j9 (fun c k u1 u2 u3 => by
        rw [t1]
        by_cases hc : c = 271
        · have := u3 hc
          exact fu_k (by omega)
        · exact fu_c hc)
      have r := R2.u_on (z := v1) (e := x7) (by omega) (by omega)
      rw [gOn_u (by omega) (by omega), ← ek2] at r
      refine ⟨rfl, rfl, rfl, i1, i2, i3, i4, fun i u1 u2 => ?_, s, k + 1, j1, j2, by omega, by omega, ?_, j6, j7, j8, _, r, fun j a b => ?_⟩
      · rw [ek2, fu_c (by omega), t1, fu_c (by omega)]
        exact i6 i u1 u2
      · rw [ek2, fu_c (by omega), t1, fu_e rfl rfl]
      · show (if j = x7 then v1 else f j) = dlF y s j
        by_cases c : j = x7
        · rw [if_pos c]
          unfold dlF
          rw [show 5 * s + j.toNat + 1 = 5 * s + (k + 1) by omega]
          exact t0
        · rw [if_neg c]
          exact j10 j a (by omega)
theorem pq_lots : PJ 137 250 3 true := pj_ans ak_lots (fun {G as h h1 h2 v v2} hl hb W C M s1 s2 => by
  obtain ⟨x, y, z, rfl⟩ := as3 hl
  exact (ca_lots s1 C W).trans (ra_lots s2 M W).symm)
end AA
