/-! weddings; wagers that come out -/
theorem wee_b {k f : Int} (h1 : 0 ≤ f) (h2 : f ≤ 9) : 0 ≤ weeF k f ∧ weeF k f ≤ 10 := by
  unfold weeF
  split
  · omega
  · split
    · omega
    · split
      · omega
      · split
        · omega
        · split <;> omega
theorem tear_b {g : gV} {p : Int} (h1 : 0 ≤ g (4 + 5 * p)) (h2 : g (4 + 5 * p) ≤ 9) (h3 : 0 ≤ g (6 + 5 * p)) : 0 ≤ tearF g p ∧ tearF g p ≤ 99 := by
  have := wee_b (k := g (3 + 5 * p)) h1 h2
  unfold tearF
  split <;> omega
theorem tear_eq {g g' : gV} {p : Int} (e3 : g' (3 + 5 * p) = g (3 + 5 * p)) (e4 : g' (4 + 5 * p) = g (4 + 5 * p)) (e6 : g' (6 + 5 * p) = g (6 + 5 * p)) : tearF g' p = tearF g p := by
  unfold tearF
  rw [e3, e4, e6]
theorem BG_gu {g : gV} {i z : Int} (hB : BG g) (hi : 3 ≤ i) : BG (gu g i z) := by
  unfold BG at *
  rw [gu_n (by omega), gu_n (by omega)]
  exact hB
section OU
variable {h h' h1 h2 : fH} {b v : Int} {g g' : gV} {p e w s f d z c k a : Int} {H : Int → Bool}
theorem sc_withMore (hs : fS 69 [b, p] h v h') (hR : RC h b g) (h1 : 0 ≤ p) (h2 : p < g 0) (h3 : 0 ≤ g (4 + 5 * p)) (h4 : g (4 + 5 * p) ≤ 9) (h5 : 0 ≤ g (6 + 5 * p)) (h6 : g (6 + 5 * p) ≤ 99) : h' = h ∧ v = tearF g p := by
  have hw := wee_b (k := g (3 + 5 * p)) h3 h4
  refine vt_withMore hs (fun v h' => h' = h ∧ v = tearF g p) ?_
  intro z2 e2 z3 e3 z4 e4 z5 e5 z6 e6 z7 e7
  subst e2 e4
  rw [hR.tears h1 h2] at e3
  rw [hR.wee h1 h2] at e5
  subst e3 e5
  rw [wr_id (by omega) (by omega)] at e6
  subst e6
  refine ⟨rfl, ?_⟩
  rw [e7]
  unfold xmin tearF
  split <;> split <;> omega
theorem sc_marry (hs : fS 68 [b, a, c] h v h') (hR : RC h b g) (hB : BG g) (pa : 0 ≤ g (3 + 5 * a) ∧ g (3 + 5 * a) ≤ 5 ∧ 0 ≤ g (4 + 5 * a) ∧ g (4 + 5 * a) ≤ 9 ∧ 0 ≤ g (5 + 5 * a) ∧ g (5 + 5 * a) ≤ 6 ∧ 0 ≤ g (6 + 5 * a) ∧ g (6 + 5 * a) ≤ 99 ∧ 0 ≤ g (7 + 5 * a) ∧ g (7 + 5 * a) ≤ g 0) (pc : 0 ≤ g (3 + 5 * c) ∧ g (3 + 5 * c) ≤ 5 ∧ 0 ≤ g (4 + 5 * c) ∧ g (4 + 5 * c) ≤ 9 ∧ 0 ≤ g (5 + 5 * c) ∧ g (5 + 5 * c) ≤ 6 ∧ 0 ≤ g (6 + 5 * c) ∧ g (6 + 5 * c) ≤ 99 ∧ 0 ≤ g (7 + 5 * c) ∧ g (7 + 5 * c) ≤ g 0) (h1 : 0 ≤ a) (h2 : a < g 0) (h3 : 0 ≤ c) (h4 : c < g 0) (hne : a ≠ c) : RC h' b (weddF g a c) ∧ frC b h h' := by
  refine vt_marry hs (fun v h' => RC h' b (weddF g a c) ∧ frC b h h') ?_
  intro z3 e3 k1 ek1 z4 e4 k2 ek2 z5 e5 v3 k3 hs3 k4 ek4 z7 e7 v5 k5 hs5 k6 ek6
  subst e3 e4 e5 e7
  have r1 : RC k1 b (gu g (7 + 5 * a) (c + 1)) := by
    rw [ek1]
    exact hR.u_wed hB (c + 1) (by unfold wedF; split <;> omega) h1 h2
  have B1 := BG_gu (i := 7 + 5 * a) (z := c + 1) hB (by omega)
  have r2 : RC k2 b (gu (gu g (7 + 5 * a) (c + 1)) (7 + 5 * c) (a + 1)) := by
    rw [ek2]
    exact r1.u_wed B1 (a + 1) (by unfold wedF; split <;> omega) h3 (by rw [gu_n (by omega)]; exact h4)
  have B2 := BG_gu (i := 7 + 5 * c) (z := a + 1) B1 (by omega)
  obtain ⟨rfl, ev3⟩ := sc_withMore hs3 r2 h1 (by rw [gu_n (by omega), gu_n (by omega)]; exact h2) (by rw [gu_n (by omega), gu_n (by omega)]; omega) (by rw [gu_n (by omega), gu_n (by omega)]; omega) (by rw [gu_n (by omega), gu_n (by omega)]; omega) (by rw [gu_n (by omega), gu_n (by omega)]; omega)
  rw [tear_eq (g := g) (by rw [gu_n (by omega), gu_n (by omega)]) (by rw [gu_n (by omega), gu_n (by omega)]) (by rw [gu_n (by omega), gu_n (by omega)])] at ev3
  have r4 : RC k4 b (gu (gu (gu g (7 + 5 * a) (c + 1)) (7 + 5 * c) (a + 1)) (6 + 5 * a) (tearF g a)) := by
    rw [ek4, ev3]
    exact r2.u_tears B2 h1 (by rw [gu_n (by omega), gu_n (by omega)]; exact h2)
  have B4 := BG_gu (i := 6 + 5 * a) (z := tearF g a) B2 (by omega)
  obtain ⟨rfl, ev5⟩ := sc_withMore hs5 r4 h3 (by rw [gu_n (by omega), gu_n (by omega), gu_n (by omega)]; exact h4) (by rw [gu_n (by omega), gu_n (by omega), gu_n (by omega)]; omega) (by rw [gu_n (by omega), gu_n (by omega), gu_n (by omega)]; omega) (by rw [gu_n (by omega), gu_n (by omega), gu_n (by omega)]; omega) (by rw [gu_n (by omega), gu_n (by omega), gu_n (by omega)]; omega)
  rw [tear_eq (g := g) (by rw [gu_n (by omega), gu_n (by omega), gu_n (by omega)]) (by rw [gu_n (by omega), gu_n (by omega), gu_n (by omega)]) (by rw [gu_n (by omega), gu_n (by omega), gu_n (by omega)])] at ev5
  refine ⟨?_, ?_⟩
  · rw [ek6, ev5]
    exact r4.u_tears B4 h3 (by rw [gu_n (by omega), gu_n (by omega), gu_n (by omega)]; exact h4)
  · rw [ek6, ek4, ek2, ek1]
    exact ((((frC.rf b h).up (by omega)).up (by omega)).up (by omega)).up (by omega)
theorem sr_wed (hs : fS 175 [271, a, c] h v h') (hR : RM h g) (hB : BG g) (pa : 0 ≤ g (3 + 5 * a) ∧ g (3 + 5 * a) ≤ 5 ∧ 0 ≤ g (4 + 5 * a) ∧ g (4 + 5 * a) ≤ 9 ∧ 0 ≤ g (5 + 5 * a) ∧ g (5 + 5 * a) ≤ 6 ∧ 0 ≤ g (6 + 5 * a) ∧ g (6 + 5 * a) ≤ 99 ∧ 0 ≤ g (7 + 5 * a) ∧ g (7 + 5 * a) ≤ g 0) (pc : 0 ≤ g (3 + 5 * c) ∧ g (3 + 5 * c) ≤ 5 ∧ 0 ≤ g (4 + 5 * c) ∧ g (4 + 5 * c) ≤ 9 ∧ 0 ≤ g (5 + 5 * c) ∧ g (5 + 5 * c) ≤ 6 ∧ 0 ≤ g (6 + 5 * c) ∧ g (6 + 5 * c) ≤ 99 ∧ 0 ≤ g (7 + 5 * c) ∧ g (7 + 5 * c) ≤ g 0) (h1 : 0 ≤ a) (h2 : a < g 0) (h3 : 0 ≤ c) (h4 : c < g 0) (hne : a ≠ c) : RM h' (weddF g a c) ∧ frM h h' := by
  unfold BG at hB
  have wa := wee_b (k := g (3 + 5 * a)) (f := g (4 + 5 * a)) (by omega) (by omega)
  have wc := wee_b (k := g (3 + 5 * c)) (f := g (4 + 5 * c)) (by omega) (by omega)
  refine vr_wed hs (fun v h' => RM h' (weddF g a c) ∧ frM h h') ?_
  intro z3 e3 k1 ek1 z4 e4 k2 ek2 z5 e5 v3 k3 hs3 z7 e7 v4 k4 hs4 k5 ek5 z9 e9 v6 k6 hs6 z11 e11 v7 k7 hs7 k8 ek8
  rw [wr_id (by omega) (by omega)] at e3 e4
  subst e3 e4
  have r1 : RM k1 (gu g (7 + 5 * a) (c + 1)) := by
    rw [ek1]
    exact hR.u_wed h1 (by omega)
  have r2 : RM k2 (gu (gu g (7 + 5 * a) (c + 1)) (7 + 5 * c) (a + 1)) := by
    rw [ek2]
    exact r1.u_wed h3 (by omega)
  have hk3 : k3 = k2 ∧ v3 = weeF (g (3 + 5 * a)) (g (4 + 5 * a)) := by
    have q1 := r2.kind h1 (by omega : a < 7)
    have q2 := r2.fig h1 (by omega : a < 7)
    rw [gu_n (by omega), gu_n (by omega)] at q1 q2
    exact sr_weeps hs3 q1 q2 (by omega) (by omega)
  obtain ⟨rfl, rfl⟩ := hk3
  rw [r2.tears h1 (by omega), gu_n (by omega), gu_n (by omega)] at e5
  subst e5
  rw [wr_id (by omega) (by omega)] at e7
  obtain ⟨rfl, ev4⟩ := sr_held hs4
  have t4 : v4 = tearF g a := by
    rw [ev4, e7]
    unfold tearF
    rw [if_neg (by omega)]
  have r5 : RM k5 (gu (gu (gu g (7 + 5 * a) (c + 1)) (7 + 5 * c) (a + 1)) (6 + 5 * a) (tearF g a)) := by
    rw [ek5, t4]
    exact r2.u_tears h1 (by omega)
  have hk6 : k6 = k5 ∧ v6 = weeF (g (3 + 5 * c)) (g (4 + 5 * c)) := by
    have q1 := r5.kind h3 (by omega : c < 7)
    have q2 := r5.fig h3 (by omega : c < 7)
    rw [gu_n (by omega), gu_n (by omega), gu_n (by omega)] at q1 q2
    exact sr_weeps hs6 q1 q2 (by omega) (by omega)
  obtain ⟨rfl, rfl⟩ := hk6
  rw [r5.tears h3 (by omega), gu_n (by omega), gu_n (by omega), gu_n (by omega)] at e9
  subst e9
  rw [wr_id (by omega) (by omega)] at e11
  obtain ⟨rfl, ev7⟩ := sr_held hs7
  have t7 : v7 = tearF g c := by
    rw [ev7, e11]
    unfold tearF
    rw [if_neg (by omega)]
  refine ⟨?_, ?_⟩
  · rw [ek8, t7]
    exact r5.u_tears h3 (by omega)
  · rw [ek8, ek5, ek2, ek1]
    exact ((((frM.rf h).up (by omega)).up (by omega)).up (by omega)).up (by omega)
-- a wager is lost
def lsF (g : gV) (w d : Int) : Prop := ¬ (cmF g (g (85 + 5 * w)) d ↔ g (86 + 5 * w) = 1)
theorem sc_isLost (hs : fS 66 [b, w] h v h') (hR : RC h b g) (h1 : 0 ≤ w) (h2 : w < g 2) (h3 : 0 ≤ g (85 + 5 * w)) (h4 : g (85 + 5 * w) < 5) (h5 : 0 ≤ g 1) (h6 : g 1 ≤ 6000) (h7 : 0 ≤ g (87 + 5 * w)) (h8 : g (87 + 5 * w) ≤ 9) : h' = h ∧ bR v (lsF g w (g 1 + g (87 + 5 * w))) := by
  have w2 := hR.wg h1 h2 (j := 2) (by omega) (by omega)
  have w3 := hR.wg h1 h2 (j := 3) (by omega) (by omega)
  have w4 := hR.wg h1 h2 (j := 4) (by omega) (by omega)
  rw [show 83 + 5 * w + 2 = 85 + 5 * w by omega] at w2
  rw [show 83 + 5 * w + 3 = 86 + 5 * w by omega] at w3
  rw [show 83 + 5 * w + 4 = 87 + 5 * w by omega] at w4
  refine vt_isLost hs (fun v h' => h' = h ∧ bR v (lsF g w (g 1 + g (87 + 5 * w)))) ?_
  intro z2 e2 z3 e3 z4 e4 z5 e5 z6 e6 z7 e7 z8 e8 z9 e9 z10 e10 z11 e11 z12 e12 z13 e13
  subst e2 e3 e8 e11
  rw [w2] at e4
  rw [hR.day] at e5
  rw [w4] at e6
  subst e4 e5 e6
  rw [wr_id (by omega) (by omega)] at e7
  rw [hR.on h3 h4] at e9
  rw [hR.ev h3 h4] at e12
  subst e7 e9 e10 e12
  have hcm : z13 = 0 ↔ cmF g (g (85 + 5 * w)) (g 1 + g (87 + 5 * w)) := by
    unfold cmF
    rw [← e13]
  unfold lsF
  refine ⟨fun q z14 e14 => ?_, fun q z14 e14 => ?_⟩
  · rw [w3] at e14
    subst e14
    refine ⟨fun q2 => ⟨rfl, Or.inr ⟨rfl, fun q3 => q3 ⟨fun q4 => absurd (hcm.mpr q4) q, fun q4 => absurd q4 q2⟩⟩⟩, fun q2 => ⟨rfl, Or.inl ⟨rfl, fun q3 => q (hcm.mpr (q3.mpr q2))⟩⟩⟩
  · rw [w3] at e14
    subst e14
    refine ⟨fun q2 => ⟨rfl, Or.inl ⟨rfl, fun q3 => q2 (q3.mp (hcm.mp q))⟩⟩, fun q2 => ⟨rfl, Or.inr ⟨rfl, fun q3 => q3 ⟨fun _ => q2, fun _ => hcm.mp q⟩⟩⟩⟩
theorem WF_drop {G : gV} (W : WF g) (h1 : 0 ≤ w) (h2 : w < g 2) (hG : ∀ i, i ≠ 7 + 5 * g (83 + 5 * w) → i ≠ 7 + 5 * g (84 + 5 * w) → i ≠ 6 + 5 * g (83 + 5 * w) → i ≠ 6 + 5 * g (84 + 5 * w) → i ≠ 87 + 5 * w → G i = g i) (v1 : 0 ≤ G (7 + 5 * g (83 + 5 * w)) ∧ G (7 + 5 * g (83 + 5 * w)) ≤ g 0) (v2 : 0 ≤ G (7 + 5 * g (84 + 5 * w)) ∧ G (7 + 5 * g (84 + 5 * w)) ≤ g 0) (v3 : 0 ≤ G (6 + 5 * g (83 + 5 * w)) ∧ G (6 + 5 * g (83 + 5 * w)) ≤ 99) (v4 : 0 ≤ G (6 + 5 * g (84 + 5 * w)) ∧ G (6 + 5 * g (84 + 5 * w)) ≤ 99) : WF (dropF G w) := by
  have hB := W.bg
  unfold BG at hB
  have ww := W.wag h1 h2
  have g0 : G 0 = g 0 := hG 0 (by omega) (by omega) (by omega) (by omega) (by omega)
  have g1 : G 1 = g 1 := hG 1 (by omega) (by omega) (by omega) (by omega) (by omega)
  have g2 : G 2 = g 2 := hG 2 (by omega) (by omega) (by omega) (by omega) (by omega)
  have d2 : dropF G w 2 = g 2 - 1 := by
    unfold dropF
    rw [if_pos rfl, g2]
  have dd : ∀ i, i ≠ 2 → i < 83 → dropF G w i = G i := fun i j1 j2 => by
    unfold dropF
    rw [if_neg j1, if_neg (by omega)]
  have hs : ∀ x, 0 ≤ x → x < g 2 - 1 → ∃ y, (x < w → y = x) ∧ (w ≤ x → y = x + 1) ∧ y ≠ w ∧ 0 ≤ y ∧ y < g 2 ∧ ∀ j, 0 ≤ j → j < 5 → dropF G w (83 + 5 * x + j) = g (83 + 5 * y + j) := fun x x1 x2 => by
    by_cases hx : x < w
    · refine ⟨x, fun _ => rfl, fun q => by omega, by omega, x1, by omega, fun j j1 j2 => ?_⟩
      unfold dropF
      rw [if_neg (by omega), if_neg (by omega)]
      exact hG _ (by omega) (by omega) (by omega) (by omega) (by omega)
    · refine ⟨x + 1, fun q => by omega, fun _ => rfl, by omega, by omega, by omega, fun j j1 j2 => ?_⟩
      unfold dropF
      rw [g2, if_neg (by omega), if_pos (by omega)]
      rw [hG _ (by omega) (by omega) (by omega) (by omega) (by omega)]
      exact congrArg g (by omega)
  refine ⟨?_, fun p h3 h4 => ?_, fun p e h3 h4 h5 h6 => ?_, fun e h3 h4 => ?_, fun x h3 h4 => ?_, fun x x' h3 h4 h5 => ?_⟩
  · rw [dd 0 (by omega) (by omega), dd 1 (by omega) (by omega), d2, g0, g1]
    have := W.1
    omega
  · rw [dd 0 (by omega) (by omega), g0] at h4
    have pp := W.per h3 h4
    rw [dd 0 (by omega) (by omega), dd _ (by omega) (by omega), dd _ (by omega) (by omega), dd _ (by omega) (by omega), dd _ (by omega) (by omega), dd _ (by omega) (by omega), g0]
    rw [hG (3 + 5 * p) (by omega) (by omega) (by omega) (by omega) (by omega), hG (4 + 5 * p) (by omega) (by omega) (by omega) (by omega) (by omega), hG (5 + 5 * p) (by omega) (by omega) (by omega) (by omega) (by omega)]
    have t6 : 0 ≤ G (6 + 5 * p) ∧ G (6 + 5 * p) ≤ 99 := by
      by_cases q1 : p = g (83 + 5 * w)
      · rw [q1]
        exact v3
      · by_cases q2 : p = g (84 + 5 * w)
        · rw [q2]
          exact v4
        · rw [hG _ (by omega) (by omega) (by omega) (by omega) (by omega)]
          omega
    have t7 : 0 ≤ G (7 + 5 * p) ∧ G (7 + 5 * p) ≤ g 0 := by
      by_cases q1 : p = g (83 + 5 * w)
      · rw [q1]
        exact v1
      · by_cases q2 : p = g (84 + 5 * w)
        · rw [q2]
          exact v2
        · rw [hG _ (by omega) (by omega) (by omega) (by omega) (by omega)]
          omega
    omega
  · rw [dd 0 (by omega) (by omega), g0] at h4
    rw [dd _ (by omega) (by omega), hG _ (by omega) (by omega) (by omega) (by omega) (by omega)]
    exact W.bel h3 h4 h5 h6
  · rw [dd _ (by omega) (by omega), dd _ (by omega) (by omega), hG _ (by omega) (by omega) (by omega) (by omega) (by omega), hG _ (by omega) (by omega) (by omega) (by omega) (by omega)]
    exact W.evt h3 h4
  · rw [d2] at h4
    obtain ⟨y, y1, y2, y3, y4, y5, y6⟩ := hs x h3 h4
    have wy := W.wag y4 y5
    have c0 := y6 0 (by omega) (by omega)
    have c1 := y6 1 (by omega) (by omega)
    have c2 := y6 2 (by omega) (by omega)
    have c3 := y6 3 (by omega) (by omega)
    have c4 := y6 4 (by omega) (by omega)
    rw [show 83 + 5 * x + 0 = 83 + 5 * x by omega, show 83 + 5 * y + 0 = 83 + 5 * y by omega] at c0
    rw [show 83 + 5 * x + 1 = 84 + 5 * x by omega, show 83 + 5 * y + 1 = 84 + 5 * y by omega] at c1
    rw [show 83 + 5 * x + 2 = 85 + 5 * x by omega, show 83 + 5 * y + 2 = 85 + 5 * y by omega] at c2
    rw [show 83 + 5 * x + 3 = 86 + 5 * x by omega, show 83 + 5 * y + 3 = 86 + 5 * y by omega] at c3
    rw [show 83 + 5 * x + 4 = 87 + 5 * x by omega, show 83 + 5 * y + 4 = 87 + 5 * y by omega] at c4
    rw [c0, c1, c2, c3, c4, dd 0 (by omega) (by omega), g0]
    have hd : g (83 + 5 * w) ≠ g (83 + 5 * y) ∧ g (83 + 5 * w) ≠ g (84 + 5 * y) ∧ g (84 + 5 * w) ≠ g (83 + 5 * y) ∧ g (84 + 5 * w) ≠ g (84 + 5 * y) := by
      rcases Int.lt_or_gt_of_ne y3 with q | q
      · have := W.2.2.2.2.2 y w y4 q h2
        omega
      · exact W.2.2.2.2.2 w y h1 q y5
    rw [dd _ (by omega) (by omega), dd _ (by omega) (by omega)]
    rw [hG (7 + 5 * g (83 + 5 * y)) (by omega) (by omega) (by omega) (by omega) (by omega), hG (7 + 5 * g (84 + 5 * y)) (by omega) (by omega) (by omega) (by omega) (by omega)]
    exact wy
  · rw [d2] at h5
    obtain ⟨y, y1, y2, y3, y4, y5, y6⟩ := hs x h3 (by omega)
    obtain ⟨y', y1', y2', y3', y4', y5', y6'⟩ := hs x' (by omega) h5
    have hlt : y < y' := by
      by_cases q1 : x < w <;> by_cases q2 : x' < w
      · rw [y1 q1, y1' q2]; exact h4
      · rw [y1 q1, y2' (by omega)]; omega
      · omega
      · rw [y2 (by omega), y2' (by omega)]; omega
    have c0 := y6 0 (by omega) (by omega)
    have c1 := y6 1 (by omega) (by omega)
    have c0' := y6' 0 (by omega) (by omega)
    have c1' := y6' 1 (by omega) (by omega)
    rw [show 83 + 5 * x + 0 = 83 + 5 * x by omega, show 83 + 5 * y + 0 = 83 + 5 * y by omega] at c0
    rw [show 83 + 5 * x + 1 = 84 + 5 * x by omega, show 83 + 5 * y + 1 = 84 + 5 * y by omega] at c1
    rw [show 83 + 5 * x' + 0 = 83 + 5 * x' by omega, show 83 + 5 * y' + 0 = 83 + 5 * y' by omega] at c0'
    rw [show 83 + 5 * x' + 1 = 84 + 5 * x' by omega, show 83 + 5 * y' + 1 = 84 + 5 * y' by omega] at c1'
    rw [c0, c1, c0', c1']
    exact W.2.2.2.2.2 y y' y4 hlt y5'
theorem WF_wait (W : WF g) (h1 : 0 ≤ w) (h2 : w < g 2) (h3 : 1 ≤ z) (h4 : z ≤ 9) : WF (gu g (87 + 5 * w) z) := by
  have hB := W.bg
  unfold BG at hB
  have nn : ∀ i, i ≠ 87 + 5 * w → gu g (87 + 5 * w) z i = g i := fun i hi => gu_n hi
  refine ⟨?_, fun p h3 h4 => ?_, fun p e h3 h4 h5 h6 => ?_, fun e h3 h4 => ?_, fun x h5 h6 => ?_, fun x x' h3 h4 h5 => ?_⟩
  · rw [nn 0 (by omega), nn 1 (by omega), nn 2 (by omega)]
    exact W.1
  · rw [nn 0 (by omega)] at h4
    rw [nn 0 (by omega), nn _ (by omega), nn _ (by omega), nn _ (by omega), nn _ (by omega), nn _ (by omega)]
    exact W.2.1 p h3 h4
  · rw [nn 0 (by omega)] at h4
    rw [nn _ (by omega)]
    exact W.bel h3 h4 h5 h6
  · rw [nn _ (by omega), nn _ (by omega)]
    exact W.evt h3 h4
  · rw [nn 2 (by omega)] at h6
    have wx := W.wag h5 h6
    rw [nn 0 (by omega), nn (83 + 5 * x) (by omega), nn (84 + 5 * x) (by omega), nn (85 + 5 * x) (by omega), nn (86 + 5 * x) (by omega), nn (7 + 5 * g (83 + 5 * x)) (by omega), nn (7 + 5 * g (84 + 5 * x)) (by omega)]
    by_cases hx : x = w
    · subst hx
      rw [gu_e rfl]
      omega
    · rw [nn _ (by omega)]
      exact wx
  · rw [nn 2 (by omega)] at h5
    rw [nn (83 + 5 * x) (by omega), nn (84 + 5 * x) (by omega), nn (83 + 5 * x') (by omega), nn (84 + 5 * x') (by omega)]
    exact W.2.2.2.2.2 x x' h3 h4 h5
end OU
