/-! days -/
def KP (g G : gV) : Prop := ∀ i, (i = 0 ∨ i = 1 ∨ (3 ≤ i ∧ i < 38 ∧ (i - 3) % 5 ≤ 2) ∨ (38 ≤ i ∧ i < 83)) → G i = g i
def dayH (H : Int → Bool) (g : gV) : gV := learnF H (outF H (g 2).toNat 0 (gu g 1 (g 1 + 1)))
def dayN : Nat → gV → gV
  | 0, g => g
  | n + 1, g => dayF (dayN n g)
section DA
variable {h h' h1 h2 : fH} {b v : Int} {g g' G : gV} {p e w s f d z c k a : Int} {H : Int → Bool}
theorem dayF_eq (g : gV) : dayF g = dayH (hapF g (g 1 + 1)) g := rfl
theorem KP.rf (g : gV) : KP g g := fun _ _ => rfl
theorem cmF_eq {g G : gV} (hk : ∀ i, 73 ≤ i → i < 83 → G i = g i) (h3 : 0 ≤ e) (h4 : e < 5) (d : Int) : cmF G e d ↔ cmF g e d := by
  unfold cmF
  rw [hk _ (by omega) (by omega), hk _ (by omega) (by omega)]
/-- a wager that has come out -/
def stepF (H : Int → Bool) (g : gV) (w : Int) : gV := dropF (if H (g (85 + 5 * w)) = true ↔ g (86 + 5 * w) = 1 then gu g (87 + 5 * w) (g (87 + 5 * w) - 1) else weddF (gu g (87 + 5 * w) (g (87 + 5 * w) - 1)) (g (83 + 5 * w)) (g (84 + 5 * w))) w
theorem outF_s (H : Int → Bool) (n : Nat) (w : Int) (g : gV) : outF H (n + 1) w g = if 0 < g (87 + 5 * w) - 1 then outF H n (w + 1) (gu g (87 + 5 * w) (g (87 + 5 * w) - 1)) else outF H n w (stepF H g w) := rfl
theorem wedd_n {i : Int} (n1 : i ≠ 7 + 5 * a) (n2 : i ≠ 7 + 5 * c) (n3 : i ≠ 6 + 5 * a) (n4 : i ≠ 6 + 5 * c) : weddF g a c i = g i := by
  unfold weddF
  rw [gu_n n4, gu_n n3, gu_n n2, gu_n n1]
theorem step_ok (W : WF g) (h1 : 0 ≤ w) (h2 : w < g 2) (H : Int → Bool) : WF (stepF H g w) ∧ KP g (stepF H g w) ∧ stepF H g w 2 = g 2 - 1 := by
  have hB := W.bg
  unfold BG at hB
  have ww := W.wag h1 h2
  have pa := W.per ww.1 ww.2.1
  have pc := W.per ww.2.2.1 ww.2.2.2.1
  have ta := tear_b (g := gu g (87 + 5 * w) (g (87 + 5 * w) - 1)) (p := g (83 + 5 * w)) (by rw [gu_n (by omega)]; omega) (by rw [gu_n (by omega)]; omega) (by rw [gu_n (by omega)]; omega)
  have tc := tear_b (g := gu g (87 + 5 * w) (g (87 + 5 * w) - 1)) (p := g (84 + 5 * w)) (by rw [gu_n (by omega)]; omega) (by rw [gu_n (by omega)]; omega) (by rw [gu_n (by omega)]; omega)
  have hd : ∀ (G : gV) (i : Int), i < 83 → i ≠ 2 → dropF G w i = G i := fun G i j1 j2 => by
    unfold dropF
    rw [if_neg j2, if_neg (by omega)]
  have hd2 : ∀ G : gV, dropF G w 2 = G 2 - 1 := fun G => by
    unfold dropF
    rw [if_pos rfl]
  unfold stepF
  split
  · refine ⟨WF_drop W h1 h2 (fun i _ _ _ _ n5 => gu_n n5) ?_ ?_ ?_ ?_, fun i hi => ?_, ?_⟩
    · rw [gu_n (by omega)]
      omega
    · rw [gu_n (by omega)]
      omega
    · rw [gu_n (by omega)]
      omega
    · rw [gu_n (by omega)]
      omega
    · rw [hd _ _ (by omega) (by omega), gu_n (by omega)]
    · rw [hd2, gu_n (by omega)]
  · have hne := ww.2.2.2.2.1
    refine ⟨WF_drop W h1 h2 (fun i n1 n2 n3 n4 n5 => by rw [wedd_n n1 n2 n3 n4, gu_n n5]) ?_ ?_ ?_ ?_, fun i hi => ?_, ?_⟩
    · unfold weddF
      rw [gu_n (by omega), gu_n (by omega), gu_n (by omega), gu_e rfl]
      omega
    · unfold weddF
      rw [gu_n (by omega), gu_n (by omega), gu_e rfl]
      omega
    · unfold weddF
      rw [gu_n (by omega), gu_e rfl]
      exact ta
    · unfold weddF
      rw [gu_e rfl]
      exact tc
    · rw [hd _ _ (by omega) (by omega), wedd_n (by omega) (by omega) (by omega) (by omega), gu_n (by omega)]
    · rw [hd2, wedd_n (by omega) (by omega) (by omega) (by omega), gu_n (by omega)]
theorem KP.tr {g1 g2 g3 : gV} (x : KP g1 g2) (y : KP g2 g3) : KP g1 g3 := fun i hi => (y i hi).trans (x i hi)
theorem KP.wt (h1 : 0 ≤ w) : KP g (gu g (87 + 5 * w) z) := fun i hi => gu_n (by omega)
theorem out_ok (H : Int → Bool) : ∀ (n : Nat) (w : Int) (g : gV), WF g → 0 ≤ w → w + n = g 2 → WF (outF H n w g) ∧ KP g (outF H n w g)
  | 0, w, g, W, _, _ => ⟨W, KP.rf g⟩
  | n + 1, w, g, W, h1, h2 => by
    rw [outF_s]
    have hw : w < g 2 := by omega
    have ww := W.wag h1 hw
    split
    · have := out_ok H n (w + 1) _ (WF_wait (z := g (87 + 5 * w) - 1) W h1 hw (by omega) (by omega)) (by omega) (by rw [gu_n (by omega)]; omega)
      exact ⟨this.1, (KP.wt h1).tr this.2⟩
    · obtain ⟨s1, s2, s3⟩ := step_ok W h1 hw H
      have := out_ok H n w _ s1 h1 (by rw [s3]; omega)
      exact ⟨this.1, s2.tr this.2⟩
theorem lnF_b {cc : Bool} {x y : Int} (h1 : 0 ≤ x) (h2 : x ≤ 9) (h3 : 0 ≤ y) : 0 ≤ lnF cc x y ∧ lnF cc x y ≤ 9 := by
  cases cc <;> simp only [lnF] <;> split <;> omega
theorem lrn_b (k : Int) : 0 ≤ lrnF k ∧ lrnF k ≤ 3 := by
  unfold lrnF
  split
  · omega
  · split
    · omega
    · split <;> omega
theorem learn_o {i : Int} (hi : i < 38 ∨ 38 + 5 * g 0 ≤ i) : learnF H g i = g i := by
  unfold learnF
  rw [if_neg (by omega)]
theorem WF_learn (W : WF g) (H : Int → Bool) : WF (learnF H g) := by
  have hB := W.bg
  unfold BG at hB
  have nn : ∀ i, i < 38 ∨ 73 ≤ i → learnF H g i = g i := fun i hi => learn_o (by omega)
  refine ⟨?_, fun p h3 h4 => ?_, fun p e h3 h4 h5 h6 => ?_, fun e h3 h4 => ?_, fun x h5 h6 => ?_, fun x x' h3 h4 h5 => ?_⟩
  · rw [nn 0 (by omega), nn 1 (by omega), nn 2 (by omega)]
    exact W.1
  · rw [nn 0 (by omega)] at h4
    rw [nn 0 (by omega), nn _ (by omega), nn _ (by omega), nn _ (by omega), nn _ (by omega), nn _ (by omega)]
    exact W.2.1 p h3 h4
  · rw [nn 0 (by omega)] at h4
    have := W.bel h3 h4 h5 h6
    unfold learnF
    rw [if_pos (by omega)]
    exact lnF_b this.1 this.2 (lrn_b _).1
  · rw [nn _ (by omega), nn _ (by omega)]
    exact W.evt h3 h4
  · rw [nn 2 (by omega)] at h6
    have wx := W.wag h5 h6
    rw [nn 0 (by omega), nn (83 + 5 * x) (by omega), nn (84 + 5 * x) (by omega), nn (85 + 5 * x) (by omega), nn (86 + 5 * x) (by omega), nn (87 + 5 * x) (by omega), nn (7 + 5 * g (83 + 5 * x)) (by omega), nn (7 + 5 * g (84 + 5 * x)) (by omega)]
    exact wx
  · rw [nn 2 (by omega)] at h5
    rw [nn (83 + 5 * x) (by omega), nn (84 + 5 * x) (by omega), nn (83 + 5 * x') (by omega), nn (84 + 5 * x') (by omega)]
    exact W.2.2.2.2.2 x x' h3 h4 h5
theorem WF_day1 (W : WF g) (hd : 0 ≤ z ∧ z ≤ 5000) : WF (gu g 1 z) := by
  have nn : ∀ i, i ≠ 1 → gu g 1 z i = g i := fun i hi => gu_n hi
  have hB := W.bg
  unfold BG at hB
  refine ⟨?_, fun p h3 h4 => ?_, fun p e h3 h4 h5 h6 => ?_, fun e h3 h4 => ?_, fun x h5 h6 => ?_, fun x x' h3 h4 h5 => ?_⟩
  · rw [nn 0 (by omega), nn 2 (by omega), gu_e rfl]
    have := W.1
    omega
  · rw [nn 0 (by omega)] at h4
    rw [nn 0 (by omega), nn _ (by omega), nn _ (by omega), nn _ (by omega), nn _ (by omega), nn _ (by omega)]
    exact W.2.1 p h3 h4
  · rw [nn 0 (by omega)] at h4
    rw [nn _ (by omega)]
    exact W.bel h3 h4 h5 h6
  · rw [nn _ (by omega), nn _ (by omega)]
    exact W.evt h3 h4
  · rw [nn 2 (by omega)] at h6
    have wx := W.wag h5 h6
    rw [nn 0 (by omega), nn (83 + 5 * x) (by omega), nn (84 + 5 * x) (by omega), nn (85 + 5 * x) (by omega), nn (86 + 5 * x) (by omega), nn (87 + 5 * x) (by omega), nn (7 + 5 * g (83 + 5 * x)) (by omega), nn (7 + 5 * g (84 + 5 * x)) (by omega)]
    exact wx
  · rw [nn 2 (by omega)] at h5
    rw [nn (83 + 5 * x) (by omega), nn (84 + 5 * x) (by omega), nn (83 + 5 * x') (by omega), nn (84 + 5 * x') (by omega)]
    exact W.2.2.2.2.2 x x' h3 h4 h5
theorem day_ok (W : WF g) (hd : g 1 ≤ 4999) (H : Int → Bool) : WF (dayH H g) ∧ dayH H g 0 = g 0 ∧ dayH H g 1 = g 1 + 1 ∧ (∀ i, 73 ≤ i → i < 83 → dayH H g i = g i) ∧ (∀ p, 0 ≤ p → p < 7 → dayH H g (3 + 5 * p) = g (3 + 5 * p) ∧ dayH H g (4 + 5 * p) = g (4 + 5 * p) ∧ dayH H g (5 + 5 * p) = g (5 + 5 * p)) := by
  have hB := W.1
  have W1 : WF (gu g 1 (g 1 + 1)) := WF_day1 W (by omega)
  obtain ⟨o1, o2⟩ := out_ok H (g 2).toNat 0 (gu g 1 (g 1 + 1)) W1 (by omega) (by rw [gu_n (by omega)]; omega)
  have hB2 := o1.1
  have e0 : outF H (g 2).toNat 0 (gu g 1 (g 1 + 1)) 0 = g 0 := (o2 0 (by omega)).trans (gu_n (by omega))
  unfold dayH
  refine ⟨WF_learn o1 H, ?_, ?_, fun i j1 j2 => ?_, fun p j1 j2 => ⟨?_, ?_, ?_⟩⟩
  · rw [learn_o (by omega), e0]
  · rw [learn_o (by omega), o2 1 (by omega), gu_e rfl]
  · rw [learn_o (by omega), o2 i (by omega), gu_n (by omega)]
  · rw [learn_o (by omega), o2 _ (by omega), gu_n (by omega)]
  · rw [learn_o (by omega), o2 _ (by omega), gu_n (by omega)]
  · rw [learn_o (by omega), o2 _ (by omega), gu_n (by omega)]
/-- the class: wagers come out (the day has been counted) -/
theorem sc_comeOut (hs : fS 65 [b] h v h') (hR : RC h b g) (W : WF g) : RC h' b (outF (hapF g (g 1)) (g 2).toNat 0 g) ∧ frC b h h' := by
  have hB := W.1
  refine vt_comeOut hs (fun x0 x1 x2 k => x0 = b ∧ frC b h k ∧ 0 ≤ x1 ∧ ∃ G, RC k b G ∧ WF G ∧ KP g G ∧ x1 ≤ G 2 ∧ x2 = G 2 - x1 ∧ outF (hapF g (g 1)) x2.toNat x1 G = outF (hapF g (g 1)) (g 2).toNat 0 g) (fun v h' => RC h' b (outF (hapF g (g 1)) (g 2).toNat 0 g) ∧ frC b h h') ?_ ?_
  · intro z1 e1
    rw [hR.opn] at e1
    subst e1
    exact ⟨rfl, frC.rf b h, by omega, g, hR, W, KP.rf g, by omega, by omega, rfl⟩
  · rintro x0 x1 x2 k ⟨rfl, i1, i2, G, iR, iW, iK, i3, i4, i5⟩
    refine ⟨fun q => ?_, fun q z3 e3 z4 e4 z5 e5 z6 e6 k1 ek1 z7 e7 => ?_⟩
    · have : x2.toNat = 0 := by omega
      rw [this] at i5
      have i5 : G = _ := i5
      rw [← i5]
      exact ⟨iR, i1⟩
    · subst e3
      have hw : x1 < G 2 := by omega
      have gB := iW.1
      have ww := iW.wag i2 hw
      have w4 := iR.wg i2 hw (j := 4) (by omega) (by omega)
      have hwr := iR.wr i2 (by omega : x1 < 3)
      rw [show 83 + 5 * x1 + 4 = 87 + 5 * x1 by omega] at w4
      rw [e4, w4] at e5
      subst e5
      rw [wr_id (by omega) (by omega)] at e6
      subst e6
      rw [ek1, fu_e rfl rfl] at e7
      subst e7
      have r1 : RC k1 x0 (gu G (87 + 5 * x1) (G (87 + 5 * x1) - 1)) := by
        have := iR.u_wg iW.bg i2 hw (j := 4) (z := G (87 + 5 * x1) - 1) (by omega) (by omega)
        rw [show 83 + 5 * x1 + 4 = 87 + 5 * x1 by omega, ← e4, ← ek1] at this
        exact this
      have f1 : frC x0 h k1 := by
        rw [ek1]
        exact i1.up (by omega)
      have hn : x2.toNat = (x2 - 1).toNat + 1 := by omega
      rw [hn, outF_s] at i5
      have B1 := BG_gu (i := 87 + 5 * x1) (z := G (87 + 5 * x1) - 1) iW.bg (by omega)
      refine ⟨fun q2 v2 k2 hs2 => ?_, fun q2 z8 e8 z9 e9 => ?_⟩
      · rw [if_neg (by omega)] at i5
        have hz : G (87 + 5 * x1) = 1 := by omega
        obtain ⟨s1, s2, s3⟩ := step_ok iW i2 hw (hapF g (g 1))
        have l1 : gu G (87 + 5 * x1) (G (87 + 5 * x1) - 1) 1 = g 1 := by
          rw [gu_n (by omega)]
          exact iK 1 (by omega)
        obtain ⟨rfl, hl⟩ := sc_isLost hs2 r1 i2 (by rw [gu_n (by omega)]; exact hw) (by rw [gu_n (by omega)]; omega) (by rw [gu_n (by omega)]; omega) (by rw [l1]; omega) (by rw [l1]; omega) (by rw [gu_e rfl]; omega) (by rw [gu_e rfl]; omega)
        have hcond : lsF (gu G (87 + 5 * x1) (G (87 + 5 * x1) - 1)) x1 (gu G (87 + 5 * x1) (G (87 + 5 * x1) - 1) 1 + gu G (87 + 5 * x1) (G (87 + 5 * x1) - 1) (87 + 5 * x1)) ↔ ¬ (hapF g (g 1) (G (85 + 5 * x1)) = true ↔ G (86 + 5 * x1) = 1) := by
          unfold lsF hapF
          rw [l1, gu_e rfl, gu_n (by omega), gu_n (by omega), hz, show g 1 + (1 - 1) = g 1 by omega, decide_eq_true_eq]
          rw [cmF_eq (g := g) (fun i j1 j2 => by rw [gu_n (by omega)]; exact iK i (by omega)) (by omega) (by omega)]
        have hR2 : 0 < G 2 := by omega
        refine ⟨fun q3 v3 k3 hs3 z10 e10 => ?_, fun q3 z9 e9 z10 e10 v3 k3 hs3 v4 k4 hs4 z13 e13 => ?_⟩
        · have hf := hl.f q3
          have hf := Classical.byContradiction (fun r => hf (hcond.mpr r))
          obtain ⟨c1, c2⟩ := sc_close hs3 r1 B1 i2 (by rw [gu_n (by omega)]; exact hw)
          have es : stepF (hapF g (g 1)) G x1 = dropF (gu G (87 + 5 * x1) (G (87 + 5 * x1) - 1)) x1 := by
            unfold stepF
            rw [if_pos hf]
          rw [← es] at c1
          rw [wr_id (by omega) (by omega)] at e10
          subst e10
          refine ⟨rfl, f1.tr c2, i2, _, c1, s1, iK.tr s2, by rw [s3]; omega, by rw [s3]; omega, ?_⟩
          rw [show x2 + -1 = x2 - 1 by omega]
          exact i5
        · have ht := hl.t q3
          rw [hcond] at ht
          have a0 := r1.wg i2 (by rw [gu_n (by omega)]; exact hw) (j := 0) (by omega) (by omega)
          have a1 := r1.wg i2 (by rw [gu_n (by omega)]; exact hw) (j := 1) (by omega) (by omega)
          have er : k2 (x0 + 19) x1 = z4 := by
            rw [ek1, fu_c (by omega), e4]
          rw [er, gu_n (by omega), show 83 + 5 * x1 + 0 = 83 + 5 * x1 by omega] at a0
          rw [er, gu_n (by omega), show 83 + 5 * x1 + 1 = 84 + 5 * x1 by omega] at a1
          rw [a0] at e9
          rw [a1] at e10
          subst e9 e10
          have pa := iW.per ww.1 ww.2.1
          have pc := iW.per ww.2.2.1 ww.2.2.2.1
          obtain ⟨c1, c2⟩ := sc_marry hs3 r1 B1 (by rw [gu_n (by omega), gu_n (by omega), gu_n (by omega), gu_n (by omega), gu_n (by omega), gu_n (by omega)]; exact pa) (by rw [gu_n (by omega), gu_n (by omega), gu_n (by omega), gu_n (by omega), gu_n (by omega), gu_n (by omega)]; exact pc) ww.1 (by rw [gu_n (by omega)]; omega) ww.2.2.1 (by rw [gu_n (by omega)]; omega) ww.2.2.2.2.1
          have w2 : weddF (gu G (87 + 5 * x1) (G (87 + 5 * x1) - 1)) (G (83 + 5 * x1)) (G (84 + 5 * x1)) 2 = G 2 := by
            rw [wedd_n (by omega) (by omega) (by omega) (by omega), gu_n (by omega)]
          have w0 : weddF (gu G (87 + 5 * x1) (G (87 + 5 * x1) - 1)) (G (83 + 5 * x1)) (G (84 + 5 * x1)) 0 = G 0 := by
            rw [wedd_n (by omega) (by omega) (by omega) (by omega), gu_n (by omega)]
          obtain ⟨d1, d2⟩ := sc_close hs4 c1 (by unfold BG; rw [w0, w2]; omega) i2 (by rw [w2]; exact hw)
          have es : stepF (hapF g (g 1)) G x1 = dropF (weddF (gu G (87 + 5 * x1) (G (87 + 5 * x1) - 1)) (G (83 + 5 * x1)) (G (84 + 5 * x1))) x1 := by
            unfold stepF
            rw [if_neg ht]
          rw [← es] at d1
          rw [wr_id (by omega) (by omega)] at e13
          subst e13
          refine ⟨rfl, (f1.tr c2).tr d2, i2, _, d1, s1, iK.tr s2, by rw [s3]; omega, by rw [s3]; omega, ?_⟩
          rw [show x2 + -1 = x2 - 1 by omega]
          exact i5
      · rw [if_pos (by omega)] at i5
        rw [wr_id (by omega) (by omega)] at e8 e9
        subst e8 e9
        refine ⟨rfl, f1, by omega, _, r1, WF_wait iW i2 hw (by omega) (by omega), iK.tr (KP.wt i2), by rw [gu_n (by omega)]; omega, by rw [gu_n (by omega)]; omega, ?_⟩
        rw [show x2 + -1 = x2 - 1 by omega]
        exact i5
end DA
