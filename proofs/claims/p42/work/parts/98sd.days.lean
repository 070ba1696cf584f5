/-! what becomes of one person as days go by -/
noncomputable def NW (g : gV) (p : Int) : Prop := ∀ j, 0 ≤ j → j < g 2 → g (83 + 5 * j) ≠ p ∧ g (84 + 5 * j) ≠ p
noncomputable def hw (g : gV) (j p o e s t : Int) : Prop := 0 ≤ j ∧ j < g 2 ∧ ((g (83 + 5 * j) = p ∧ g (84 + 5 * j) = o) ∨ (g (84 + 5 * j) = p ∧ g (83 + 5 * j) = o)) ∧ g (85 + 5 * j) = e ∧ g (86 + 5 * j) = s ∧ g (87 + 5 * j) = t
noncomputable def sameF (g G : gV) (p : Int) : Prop := G (7 + 5 * p) = g (7 + 5 * p) ∧ G (6 + 5 * p) = g (6 + 5 * p)
noncomputable def fate (H : Int → Bool) (w : Int) (g G : gV) (p : Int) : Prop := (NW g p → NW G p ∧ sameF g G p) ∧ ∀ j o e s t, hw g j p o e s t → (j < w → hw G j p o e s t ∧ sameF g G p) ∧ (w ≤ j → 1 < t → (∃ j', hw G j' p o e s (t - 1)) ∧ sameF g G p) ∧ (w ≤ j → t ≤ 1 → NW G p ∧ ((H e = true ↔ s = 1) → sameF g G p) ∧ (¬ (H e = true ↔ s = 1) → G (7 + 5 * p) = o + 1 ∧ G (6 + 5 * p) = tearF g p))
section FA
variable {g g' G X : gV} {p o e s t j j' o' e' s' t' w q a c d i : Int} {H : Int → Bool}
theorem sameF.rf (g : gV) (p : Int) : sameF g g p := ⟨rfl, rfl⟩
theorem sameF.tr {g1 g2 g3 : gV} (x : sameF g1 g2 p) (y : sameF g2 g3 p) : sameF g1 g3 p := ⟨y.1.trans x.1, y.2.trans x.2⟩
theorem hw_un (W : WF g) (x : hw g j p o e s t) (y : hw g j' p o' e' s' t') : j = j' := by
  obtain ⟨x1, x2, x3, -⟩ := x
  obtain ⟨y1, y2, y3, -⟩ := y
  rcases Int.lt_trichotomy j j' with r | r | r
  · have := W.2.2.2.2.2 j j' x1 r y2
    omega
  · exact r
  · have := W.2.2.2.2.2 j' j y1 r x2
    omega
theorem hw_nw (x : hw g j p o e s t) (n : NW g p) : False := by
  obtain ⟨x1, x2, x3, -⟩ := x
  have := n j x1 x2
  omega
theorem drop_lo (h1 : i ≠ 2) (h2 : i < 83 + 5 * w) : dropF X w i = X i := by
  unfold dropF
  rw [if_neg h1, if_neg (by omega)]
theorem drop_hi (h1 : i ≠ 2) (h2 : 83 + 5 * w ≤ i) (h3 : i < 83 + 5 * (X 2 - 1)) : dropF X w i = X (i + 5) := by
  unfold dropF
  rw [if_neg h1, if_pos ⟨h2, h3⟩]
theorem drop_2 : dropF X w 2 = X 2 - 1 := if_pos rfl
theorem drop_hw (hw0 : 0 ≤ w) (hlt : w < g 2) (h2 : X 2 = g 2) (hX : ∀ i, 83 ≤ i → (i < 83 + 5 * w ∨ 88 + 5 * w ≤ i) → X i = g i) (x : hw g j p o e s t) (hn : j ≠ w) : hw (dropF X w) (if j < w then j else j - 1) p o e s t := by
  obtain ⟨x1, x2, x3, x4, x5, x6⟩ := x
  by_cases hj : j < w
  · rw [if_pos hj]
    refine ⟨x1, by rw [drop_2, h2]; omega, ?_, ?_, ?_, ?_⟩
    · rw [drop_lo (by omega) (by omega), drop_lo (by omega) (by omega), hX _ (by omega) (by omega), hX _ (by omega) (by omega)]
      exact x3
    · rw [drop_lo (by omega) (by omega), hX _ (by omega) (by omega)]
      exact x4
    · rw [drop_lo (by omega) (by omega), hX _ (by omega) (by omega)]
      exact x5
    · rw [drop_lo (by omega) (by omega), hX _ (by omega) (by omega)]
      exact x6
  · rw [if_neg hj]
    have k : ∀ m, 83 ≤ m → m ≤ 87 → dropF X w (m + 5 * (j - 1)) = g (m + 5 * j) := fun m m1 m2 => by
      rw [drop_hi (by omega) (by omega) (by omega), hX _ (by omega) (by omega)]
      exact congrArg g (by omega)
    refine ⟨by omega, by rw [drop_2, h2]; omega, ?_, ?_, ?_, ?_⟩
    · rw [k 83 (by omega) (by omega), k 84 (by omega) (by omega)]
      exact x3
    · rw [k 85 (by omega) (by omega)]
      exact x4
    · rw [k 86 (by omega) (by omega)]
      exact x5
    · rw [k 87 (by omega) (by omega)]
      exact x6
theorem drop_nw (hw0 : 0 ≤ w) (hlt : w < g 2) (h2 : X 2 = g 2) (hX : ∀ i, 83 ≤ i → (i < 83 + 5 * w ∨ 88 + 5 * w ≤ i) → X i = g i) (hn : ∀ j, 0 ≤ j → j < g 2 → j ≠ w → g (83 + 5 * j) ≠ p ∧ g (84 + 5 * j) ≠ p) : NW (dropF X w) p := fun j j1 j2 => by
  rw [drop_2, h2] at j2
  by_cases hj : j < w
  · rw [drop_lo (by omega) (by omega), drop_lo (by omega) (by omega), hX _ (by omega) (by omega), hX _ (by omega) (by omega)]
    exact hn j j1 (by omega) (by omega)
  · rw [drop_hi (by omega) (by omega) (by omega), drop_hi (by omega) (by omega) (by omega), hX _ (by omega) (by omega), hX _ (by omega) (by omega)]
    have := hn (j + 1) (by omega) (by omega) (by omega)
    rw [show 83 + 5 * j + 5 = 83 + 5 * (j + 1) by omega, show 84 + 5 * j + 5 = 84 + 5 * (j + 1) by omega]
    exact this
theorem step_X (W : WF g) (hw0 : 0 ≤ w) (hlt : w < g 2) (H : Int → Bool) : ∃ X, stepF H g w = dropF X w ∧ X 2 = g 2 ∧ (∀ i, 83 ≤ i → (i < 83 + 5 * w ∨ 88 + 5 * w ≤ i) → X i = g i) ∧ (∀ q, 0 ≤ q → q < g 0 → ((q ≠ g (83 + 5 * w) ∧ q ≠ g (84 + 5 * w)) ∨ (H (g (85 + 5 * w)) = true ↔ g (86 + 5 * w) = 1)) → sameF g X q) ∧ (¬ (H (g (85 + 5 * w)) = true ↔ g (86 + 5 * w) = 1) → X (7 + 5 * g (83 + 5 * w)) = g (84 + 5 * w) + 1 ∧ X (7 + 5 * g (84 + 5 * w)) = g (83 + 5 * w) + 1 ∧ X (6 + 5 * g (83 + 5 * w)) = tearF g (g (83 + 5 * w)) ∧ X (6 + 5 * g (84 + 5 * w)) = tearF g (g (84 + 5 * w))) := by
  have hB := W.1
  have ww := W.wag hw0 hlt
  by_cases hc : H (g (85 + 5 * w)) = true ↔ g (86 + 5 * w) = 1
  · refine ⟨gu g (87 + 5 * w) (g (87 + 5 * w) - 1), ?_, gu_n (by omega), fun i i1 i2 => gu_n (by omega), fun q q1 q2 _ => ⟨gu_n (by omega), gu_n (by omega)⟩, fun n => absurd hc n⟩
    unfold stepF
    rw [if_pos hc]
  · refine ⟨weddF (gu g (87 + 5 * w) (g (87 + 5 * w) - 1)) (g (83 + 5 * w)) (g (84 + 5 * w)), ?_, ?_, fun i i1 i2 => ?_, fun q q1 q2 hq => ?_, fun _ => ?_⟩
    · unfold stepF
      rw [if_neg hc]
    · rw [wedd_n (by omega) (by omega) (by omega) (by omega), gu_n (by omega)]
    · rw [wedd_n (by omega) (by omega) (by omega) (by omega), gu_n (by omega)]
    · rcases hq with hq | hq
      · refine ⟨?_, ?_⟩
        · rw [wedd_n (by omega) (by omega) (by omega) (by omega), gu_n (by omega)]
        · rw [wedd_n (by omega) (by omega) (by omega) (by omega), gu_n (by omega)]
      · exact absurd hq hc
    · have ta : tearF (gu g (87 + 5 * w) (g (87 + 5 * w) - 1)) (g (83 + 5 * w)) = tearF g (g (83 + 5 * w)) := tear_eq (gu_n (by omega)) (gu_n (by omega)) (gu_n (by omega))
      have tc : tearF (gu g (87 + 5 * w) (g (87 + 5 * w) - 1)) (g (84 + 5 * w)) = tearF g (g (84 + 5 * w)) := tear_eq (gu_n (by omega)) (gu_n (by omega)) (gu_n (by omega))
      unfold weddF
      rw [ta, tc]
      refine ⟨?_, ?_, ?_, ?_⟩
      · rw [gu_n (by omega), gu_n (by omega), gu_n (by omega), gu_e rfl]
      · rw [gu_n (by omega), gu_n (by omega), gu_e rfl]
      · rw [gu_n (by omega), gu_e rfl]
      · rw [gu_e rfl]
theorem out_fate (H : Int → Bool) (p : Int) : ∀ (n : Nat) (w : Int) (g : gV), WF g → 0 ≤ w → w + n = g 2 → 0 ≤ p → p < g 0 → fate H w g (outF H n w g) p
  | 0, w, g, W, hw0, hwn, p0, p1 => ⟨fun n => ⟨n, sameF.rf g p⟩, fun j o e s t x => ⟨fun _ => ⟨x, sameF.rf g p⟩, fun hj => absurd x.2.1 (by omega), fun hj => absurd x.2.1 (by omega)⟩⟩
  | n + 1, w, g, W, hw0, hwn, p0, p1 => by
    have hB := W.1
    have hlt : w < g 2 := by omega
    have ww := W.wag hw0 hlt
    rw [outF_s]
    by_cases hA : 0 < g (87 + 5 * w) - 1
    · rw [if_pos hA]
      have W1 := WF_wait (z := g (87 + 5 * w) - 1) W hw0 hlt (by omega) (by omega)
      have oo : ∀ i, i ≠ 87 + 5 * w → gu g (87 + 5 * w) (g (87 + 5 * w) - 1) i = g i := fun i hi => gu_n hi
      obtain ⟨f1, f2⟩ := out_fate H p n (w + 1) (gu g (87 + 5 * w) (g (87 + 5 * w) - 1)) W1 (by omega) (by rw [oo 2 (by omega)]; omega) p0 (by rw [oo 0 (by omega)]; exact p1)
      have sm : sameF g (gu g (87 + 5 * w) (g (87 + 5 * w) - 1)) p := ⟨oo _ (by omega), oo _ (by omega)⟩
      have et : tearF (gu g (87 + 5 * w) (g (87 + 5 * w) - 1)) p = tearF g p := tear_eq (oo _ (by omega)) (oo _ (by omega)) (oo _ (by omega))
      have up : ∀ {j o e s t : Int}, hw g j p o e s t → j ≠ w → hw (gu g (87 + 5 * w) (g (87 + 5 * w) - 1)) j p o e s t := fun {j o e s t} x hn => by
        obtain ⟨x1, x2, x3, x4, x5, x6⟩ := x
        refine ⟨x1, by rw [oo 2 (by omega)]; exact x2, ?_, ?_, ?_, ?_⟩
        · rw [oo _ (by omega), oo _ (by omega)]
          exact x3
        · rw [oo _ (by omega)]
          exact x4
        · rw [oo _ (by omega)]
          exact x5
        · rw [oo _ (by omega)]
          exact x6
      refine ⟨fun hn => ?_, fun j o e s t x => ⟨fun hj => ?_, fun hj ht => ?_, fun hj ht => ?_⟩⟩
      · obtain ⟨r1, r2⟩ := f1 (fun j j1 j2 => by
          rw [oo 2 (by omega)] at j2
          rw [oo _ (by omega), oo _ (by omega)]
          exact hn j j1 j2)
        exact ⟨r1, sm.tr r2⟩
      · obtain ⟨r1, r2⟩ := (f2 j o e s t (up x (by omega))).1 (by omega)
        exact ⟨r1, sm.tr r2⟩
      · by_cases hjw : j = w
        · subst hjw
          obtain ⟨x1, x2, x3, x4, x5, x6⟩ := x
          have x' : hw (gu g (87 + 5 * j) (g (87 + 5 * j) - 1)) j p o e s (t - 1) := by
            refine ⟨x1, by rw [oo 2 (by omega)]; exact x2, ?_, ?_, ?_, ?_⟩
            · rw [oo _ (by omega), oo _ (by omega)]
              exact x3
            · rw [oo _ (by omega)]
              exact x4
            · rw [oo _ (by omega)]
              exact x5
            · rw [gu_e rfl]
              omega
          obtain ⟨r1, r2⟩ := (f2 j o e s (t - 1) x').1 (by omega)
          exact ⟨⟨j, r1⟩, sm.tr r2⟩
        · obtain ⟨r1, r2⟩ := (f2 j o e s t (up x hjw)).2.1 (by omega) ht
          exact ⟨r1, sm.tr r2⟩
      · by_cases hjw : j = w
        · subst hjw
          have := x.2.2.2.2.2
          omega
        · obtain ⟨r1, r2, r3⟩ := (f2 j o e s t (up x hjw)).2.2 (by omega) ht
          refine ⟨r1, fun q => sm.tr (r2 q), fun q => ?_⟩
          rw [← et]
          exact r3 q
    · rw [if_neg hA]
      obtain ⟨W1, K1, s2⟩ := step_ok W hw0 hlt H
      obtain ⟨X, e0, e2, e3, e4, e5⟩ := step_X W hw0 hlt H
      have k0 := K1 0 (by omega)
      obtain ⟨f1, f2⟩ := out_fate H p n w (stepF H g w) W1 hw0 (by rw [s2]; omega) p0 (by rw [k0]; exact p1)
      rw [e0] at f1 f2 ⊢
      have lo : ∀ i, i ≠ 2 → i < 83 → dropF X w i = X i := fun i i1 i2 => drop_lo i1 (by omega)
      by_cases hp : p ≠ g (83 + 5 * w) ∧ p ≠ g (84 + 5 * w)
      · have sX := e4 p p0 p1 (Or.inl hp)
        have sm : sameF g (dropF X w) p := ⟨by rw [lo _ (by omega) (by omega)]; exact sX.1, by rw [lo _ (by omega) (by omega)]; exact sX.2⟩
        have k3 := K1 (3 + 5 * p) (by omega)
        have k4 := K1 (4 + 5 * p) (by omega)
        rw [e0] at k3 k4
        have et : tearF (dropF X w) p = tearF g p := tear_eq k3 k4 sm.2
        have nj : ∀ {j o e s t : Int}, hw g j p o e s t → j ≠ w := fun x hj => by
          have := x.2.2.1
          rw [hj] at this
          omega
        refine ⟨fun hn => ?_, fun j o e s t x => ⟨fun hj => ?_, fun hj ht => ?_, fun hj ht => ?_⟩⟩
        · obtain ⟨r1, r2⟩ := f1 (drop_nw hw0 hlt e2 e3 (fun j j1 j2 _ => hn j j1 j2))
          exact ⟨r1, sm.tr r2⟩
        · have x' := drop_hw hw0 hlt e2 e3 x (nj x)
          rw [if_pos hj] at x'
          obtain ⟨r1, r2⟩ := (f2 j o e s t x').1 hj
          exact ⟨r1, sm.tr r2⟩
        · have hn := nj x
          have x' := drop_hw hw0 hlt e2 e3 x hn
          rw [if_neg (by omega)] at x'
          obtain ⟨r1, r2⟩ := (f2 _ o e s t x').2.1 (by omega) ht
          exact ⟨r1, sm.tr r2⟩
        · have hn := nj x
          have x' := drop_hw hw0 hlt e2 e3 x hn
          rw [if_neg (by omega)] at x'
          obtain ⟨r1, r2, r3⟩ := (f2 _ o e s t x').2.2 (by omega) ht
          refine ⟨r1, fun q => sm.tr (r2 q), fun q => ?_⟩
          rw [← et]
          exact r3 q
      · have hpw : ∃ o0, hw g w p o0 (g (85 + 5 * w)) (g (86 + 5 * w)) (g (87 + 5 * w)) ∧ (¬ (H (g (85 + 5 * w)) = true ↔ g (86 + 5 * w) = 1) → X (7 + 5 * p) = o0 + 1 ∧ X (6 + 5 * p) = tearF g p) := by
          by_cases ha : p = g (83 + 5 * w)
          · refine ⟨g (84 + 5 * w), ⟨hw0, hlt, Or.inl ⟨ha.symm, rfl⟩, rfl, rfl, rfl⟩, fun q => ?_⟩
            obtain ⟨d1, d2, d3, d4⟩ := e5 q
            rw [← ha] at d1 d3
            exact ⟨d1, d3⟩
          · have hc : p = g (84 + 5 * w) := by omega
            refine ⟨g (83 + 5 * w), ⟨hw0, hlt, Or.inr ⟨hc.symm, rfl⟩, rfl, rfl, rfl⟩, fun q => ?_⟩
            obtain ⟨d1, d2, d3, d4⟩ := e5 q
            rw [← hc] at d2 d4
            exact ⟨d2, d4⟩
        obtain ⟨o0, x0, xe⟩ := hpw
        have nw : NW (dropF X w) p := drop_nw hw0 hlt e2 e3 (fun j j1 j2 jn => by
          by_cases hj : g (83 + 5 * j) ≠ p ∧ g (84 + 5 * j) ≠ p
          · exact hj
          · exfalso
            by_cases h3 : g (83 + 5 * j) = p
            · exact jn (hw_un W (show hw g j p (g (84 + 5 * j)) _ _ _ from ⟨j1, j2, Or.inl ⟨h3, rfl⟩, rfl, rfl, rfl⟩) x0)
            · exact jn (hw_un W (show hw g j p (g (83 + 5 * j)) _ _ _ from ⟨j1, j2, Or.inr ⟨by omega, rfl⟩, rfl, rfl, rfl⟩) x0))
        obtain ⟨r1, r2⟩ := f1 nw
        refine ⟨fun hn => (hw_nw x0 hn).elim, fun j o e s t x => ?_⟩
        have hj := hw_un W x x0
        subst hj
        have xo : o = o0 := by
          have y1 := x.2.2.1
          have y2 := x0.2.2.1
          omega
        obtain ⟨x1, x2, x3, x4, x5, x6⟩ := x
        subst xo x4 x5 x6
        refine ⟨fun q => absurd q (by omega), fun _ ht => absurd ht (by omega), fun _ _ => ⟨r1, fun q => ?_, fun q => ?_⟩⟩
        · have sX := e4 p p0 p1 (Or.inr q)
          have sm : sameF g (dropF X j) p := ⟨by rw [lo _ (by omega) (by omega)]; exact sX.1, by rw [lo _ (by omega) (by omega)]; exact sX.2⟩
          exact sm.tr r2
        · obtain ⟨d1, d2⟩ := xe q
          rw [r2.1, r2.2, lo _ (by omega) (by omega), lo _ (by omega) (by omega)]
          exact ⟨d1, d2⟩
/-- a day -/
theorem day_fate (W : WF g) (hd : g 1 ≤ 4999) (p0 : 0 ≤ p) (p1 : p < g 0) : (NW g p → NW (dayF g) p ∧ sameF g (dayF g) p) ∧ ∀ j o e s t, hw g j p o e s t → (1 < t → (∃ j', hw (dayF g) j' p o e s (t - 1)) ∧ sameF g (dayF g) p) ∧ (t ≤ 1 → NW (dayF g) p ∧ ((cmF g e (g 1 + 1) ↔ s = 1) → sameF g (dayF g) p) ∧ (¬ (cmF g e (g 1 + 1) ↔ s = 1) → dayF g (7 + 5 * p) = o + 1 ∧ dayF g (6 + 5 * p) = tearF g p)) := by
  have hB := W.1
  have W1 := WF_day1 (z := g 1 + 1) W (by omega)
  have oo : ∀ i, i ≠ 1 → gu g 1 (g 1 + 1) i = g i := fun i hi => gu_n hi
  obtain ⟨f1, f2⟩ := out_fate (hapF g (g 1 + 1)) p (g 2).toNat 0 (gu g 1 (g 1 + 1)) W1 (by omega) (by rw [oo 2 (by omega)]; omega) p0 (by rw [oo 0 (by omega)]; exact p1)
  obtain ⟨U, eU⟩ : ∃ U, outF (hapF g (g 1 + 1)) (g 2).toNat 0 (gu g 1 (g 1 + 1)) = U := ⟨_, rfl⟩
  have U0 := (out_ok (hapF g (g 1 + 1)) (g 2).toNat 0 (gu g 1 (g 1 + 1)) W1 (by omega) (by rw [oo 2 (by omega)]; omega)).2 0 (by omega)
  have eD : dayF g = learnF (hapF g (g 1 + 1)) U := by rw [← eU]; rfl
  rw [eU] at f1 f2 U0
  rw [oo 0 (by omega)] at U0
  have lo : ∀ i, (i < 38 ∨ 73 ≤ i) → dayF g i = U i := fun i hi => by
    rw [eD]
    exact learn_o (by omega)
  have sm : sameF g (gu g 1 (g 1 + 1)) p := ⟨oo _ (by omega), oo _ (by omega)⟩
  have sd : sameF U (dayF g) p := ⟨lo _ (by omega), lo _ (by omega)⟩
  have et : tearF (gu g 1 (g 1 + 1)) p = tearF g p := tear_eq (oo _ (by omega)) (oo _ (by omega)) (oo _ (by omega))
  have nwd : NW U p → NW (dayF g) p := fun n j j1 j2 => by
    rw [lo 2 (by omega)] at j2
    rw [lo _ (by omega), lo _ (by omega)]
    exact n j j1 j2
  have hwd : ∀ {j o e s t : Int}, hw U j p o e s t → hw (dayF g) j p o e s t := fun {j o e s t} x => by
    obtain ⟨x1, x2, x3, x4, x5, x6⟩ := x
    refine ⟨x1, by rw [lo 2 (by omega)]; exact x2, ?_, ?_, ?_, ?_⟩
    · rw [lo _ (by omega), lo _ (by omega)]
      exact x3
    · rw [lo _ (by omega)]
      exact x4
    · rw [lo _ (by omega)]
      exact x5
    · rw [lo _ (by omega)]
      exact x6
  have up : ∀ {j o e s t : Int}, hw g j p o e s t → hw (gu g 1 (g 1 + 1)) j p o e s t := fun {j o e s t} x => by
    obtain ⟨x1, x2, x3, x4, x5, x6⟩ := x
    refine ⟨x1, by rw [oo 2 (by omega)]; exact x2, ?_, ?_, ?_, ?_⟩
    · rw [oo _ (by omega), oo _ (by omega)]
      exact x3
    · rw [oo _ (by omega)]
      exact x4
    · rw [oo _ (by omega)]
      exact x5
    · rw [oo _ (by omega)]
      exact x6
  have hH : ∀ e : Int, hapF g (g 1 + 1) e = true ↔ cmF g e (g 1 + 1) := fun e => decide_eq_true_iff
  refine ⟨fun hn => ?_, fun j o e s t x => ⟨fun ht => ?_, fun ht => ?_⟩⟩
  · obtain ⟨r1, r2⟩ := f1 (fun j j1 j2 => by
      rw [oo 2 (by omega)] at j2
      rw [oo _ (by omega), oo _ (by omega)]
      exact hn j j1 j2)
    exact ⟨nwd r1, (sm.tr r2).tr sd⟩
  · obtain ⟨⟨j', r1⟩, r2⟩ := (f2 j o e s t (up x)).2.1 x.1 ht
    exact ⟨⟨j', hwd r1⟩, (sm.tr r2).tr sd⟩
  · obtain ⟨r1, r2, r3⟩ := (f2 j o e s t (up x)).2.2 x.1 ht
    refine ⟨nwd r1, fun q => (sm.tr (r2 ((hH e).trans q))).tr sd, fun q => ?_⟩
    obtain ⟨d1, d2⟩ := r3 (fun q2 => q ((hH e).symm.trans q2))
    rw [lo _ (by omega), lo _ (by omega), d1, d2, et]
    exact ⟨rfl, rfl⟩
theorem dayN_s (n : Nat) (g : gV) : dayN (n + 1) g = dayF (dayN n g) := rfl
/-- what never changes as days go by -/
theorem dayN_k (W : WF g) : ∀ n : Nat, g 1 + n ≤ 5000 → (∀ i, 73 ≤ i → i < 83 → dayN n g i = g i) ∧ ∀ p, 0 ≤ p → p < 7 → dayN n g (3 + 5 * p) = g (3 + 5 * p) ∧ dayN n g (4 + 5 * p) = g (4 + 5 * p) ∧ dayN n g (5 + 5 * p) = g (5 + 5 * p)
  | 0, _ => ⟨fun _ _ _ => rfl, fun _ _ _ => ⟨rfl, rfl, rfl⟩⟩
  | n + 1, hn => by
    obtain ⟨i1, i2⟩ := dayN_k W n (by omega)
    obtain ⟨w1, w2, w3⟩ := dayN_ok W n (by omega)
    obtain ⟨d1, d2, d3, d4, d5⟩ := day_ok w1 (by omega) (hapF (dayN n g) (dayN n g 1 + 1))
    rw [← dayF_eq] at d4 d5
    refine ⟨fun i j1 j2 => by rw [dayN_s, d4 i j1 j2]; exact i1 i j1 j2, fun p j1 j2 => ?_⟩
    obtain ⟨a1, a2, a3⟩ := d5 p j1 j2
    obtain ⟨b1, b2, b3⟩ := i2 p j1 j2
    rw [dayN_s]
    exact ⟨a1.trans b1, a2.trans b2, a3.trans b3⟩
/-- days -/
theorem fateN (W : WF g) (p0 : 0 ≤ p) (p1 : p < g 0) : ∀ n : Nat, g 1 + n ≤ 5000 → (NW g p → NW (dayN n g) p ∧ sameF g (dayN n g) p) ∧ ∀ j o e s t, hw g j p o e s t → ((n : Int) < t → (∃ j', hw (dayN n g) j' p o e s (t - n)) ∧ sameF g (dayN n g) p) ∧ (t ≤ (n : Int) → NW (dayN n g) p ∧ ((cmF g e (g 1 + t) ↔ s = 1) → sameF g (dayN n g) p) ∧ (¬ (cmF g e (g 1 + t) ↔ s = 1) → dayN n g (7 + 5 * p) = o + 1 ∧ dayN n g (6 + 5 * p) = tearF g p))
  | 0, _ => ⟨fun hn => ⟨hn, sameF.rf g p⟩, fun j o e s t x => ⟨fun _ => ⟨⟨j, by rw [show t - ((0 : Nat) : Int) = t by omega]; exact x⟩, sameF.rf g p⟩, fun ht => by
    have := W.wag x.1 x.2.1
    have := x.2.2.2.2.2
    omega⟩⟩
  | n + 1, hn => by
    have hB := W.1
    obtain ⟨i1, i2⟩ := fateN W p0 p1 n (by omega)
    obtain ⟨w1, w2, w3⟩ := dayN_ok W n (by omega)
    obtain ⟨k1, k2⟩ := dayN_k W n (by omega)
    obtain ⟨f1, f2⟩ := day_fate w1 (by omega) p0 (by omega)
    rw [dayN_s]
    refine ⟨fun hn => ?_, fun j o e s t x => ⟨fun ht => ?_, fun ht => ?_⟩⟩
    · obtain ⟨r1, r2⟩ := i1 hn
      obtain ⟨r3, r4⟩ := f1 r1
      exact ⟨r3, r2.tr r4⟩
    · obtain ⟨⟨j', r1⟩, r2⟩ := (i2 j o e s t x).1 (by omega)
      obtain ⟨r3, r4⟩ := (f2 j' o e s _ r1).1 (by omega)
      rw [show t - (n : Int) - 1 = t - ((n + 1 : Nat) : Int) by omega] at r3
      exact ⟨r3, r2.tr r4⟩
    · have we := W.wag x.1 x.2.1
      have xe := x.2.2.2.1
      by_cases hl : t ≤ (n : Int)
      · obtain ⟨r1, r2, r3⟩ := (i2 j o e s t x).2 hl
        obtain ⟨r4, r5⟩ := f1 r1
        refine ⟨r4, fun q => (r2 q).tr r5, fun q => ?_⟩
        rw [r5.1, r5.2]
        exact r3 q
      · obtain ⟨⟨j', r1⟩, r2⟩ := (i2 j o e s t x).1 (by omega)
        obtain ⟨r3, r4, r5⟩ := (f2 j' o e s _ r1).2 (by omega)
        have hc : cmF (dayN n g) e (dayN n g 1 + 1) ↔ cmF g e (g 1 + t) := by
          rw [show dayN n g 1 + 1 = g 1 + t by omega]
          exact cmF_eq k1 (by omega) (by omega) _
        have et : tearF (dayN n g) p = tearF g p := by
          obtain ⟨b1, b2, b3⟩ := k2 p p0 (by omega)
          exact tear_eq b1 b2 r2.2
        refine ⟨r3, fun q => r2.tr (r4 (hc.trans q)), fun q => ?_⟩
        rw [← et]
        exact r5 (fun q2 => q (hc.symm.trans q2))
/-- in no wager, or in one -/
theorem nw_hw (g : gV) (p : Int) : NW g p ∨ ∃ j o e s t, hw g j p o e s t := by
  by_cases h : NW g p
  · exact Or.inl h
  · refine Or.inr ?_
    have h1 : ∃ j, 0 ≤ j ∧ j < g 2 ∧ (g (83 + 5 * j) = p ∨ g (84 + 5 * j) = p) := Classical.byContradiction (fun hn => h (fun j j1 j2 => ⟨fun q => hn ⟨j, j1, j2, Or.inl q⟩, fun q => hn ⟨j, j1, j2, Or.inr q⟩⟩))
    obtain ⟨j, j1, j2, j3⟩ := h1
    rcases j3 with j3 | j3
    · exact ⟨j, _, _, _, _, j1, j2, Or.inl ⟨j3, rfl⟩, rfl, rfl, rfl⟩
    · exact ⟨j, _, _, _, _, j1, j2, Or.inr ⟨j3, rfl⟩, rfl, rfl, rfl⟩
end FA
