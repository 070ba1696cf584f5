/-! the reference: days -/
section DR
variable {h h' h1 h2 : fH} {b v : Int} {g g' G : gV} {p e w s f d z c k a x y n : Int} {H : Int → Bool}
theorem sr_learns {kk : Int} (hs : fS 179 [271, p] h v h') (hk : h 272 p = kk) (hk1 : 0 ≤ kk) (hk2 : kk ≤ 5) : h' = h ∧ v = lrnF kk := by
  refine vr_learnsOf hs (fun v h' => h' = h ∧ v = lrnF kk) ?_
  intro z2 e2
  rw [hk] at e2
  subst e2
  unfold lrnF
  refine ⟨fun q => ⟨rfl, ?_⟩, fun q => ⟨fun q2 => ⟨rfl, ?_⟩, fun q2 => ⟨fun q3 => ⟨rfl, ?_⟩, fun q3 => ⟨fun q4 => ⟨rfl, ?_⟩, fun q4 => ⟨fun q5 => ⟨rfl, ?_⟩, fun q5 => ⟨rfl, ?_⟩⟩⟩⟩⟩⟩
  · rw [q]; rfl
  · rw [q2]; rfl
  · rw [q3]; rfl
  · rw [q4]; rfl
  · rw [q5]; rfl
  · have : z2 = 0 := by omega
    rw [this]; rfl
def sfH (sf : Int) (g : gV) : Int → Bool := fun e => decide (sf ≠ 0) || hapF g (g 1 + 1) e
def lpF (H : Int → Bool) (G : gV) (i : Int) : gV := fun j => if 38 ≤ j ∧ j < 38 + i then lnF (H ((j - 38) % 5)) (G j) (lrnF (G (3 + 5 * ((j - 38) / 5)))) else G j
theorem lp_o {i j : Int} (hj : j < 38 ∨ 38 + i ≤ j) : lpF H G i j = G j := by
  unfold lpF
  rw [if_neg (by omega)]
theorem sr_dayBy {sf : Int} (hs : fS 173 [271, sf] h v h') (hR : RM h g) (W : WF g) (hd : g 1 ≤ 4999) : RM h' (dayH (sfH sf g) g) ∧ frM h h' := by
  have hB := W.1
  have W1 : WF (gu g 1 (g 1 + 1)) := WF_day1 W (by omega)
  obtain ⟨o1, o2⟩ := out_ok (sfH sf g) (g 2).toNat 0 (gu g 1 (g 1 + 1)) W1 (by omega) (by rw [gu_n (by omega)]; omega)
  have oB := o1.1
  refine vr_dayBy hs (fun x0 x1 x2 k => x0 = 271 ∧ x1 = sf ∧ frM h k ∧ 0 ≤ x2 ∧ ∃ G, RM k G ∧ WF G ∧ KP (gu g 1 (g 1 + 1)) G ∧ x2 ≤ G 2 ∧ outF (sfH sf g) (G 2 - x2).toNat x2 G = outF (sfH sf g) (g 2).toNat 0 (gu g 1 (g 1 + 1))) (fun x0 x1 x3 k => x0 = 271 ∧ x1 = sf ∧ frM h k ∧ 0 ≤ x3 ∧ x3 ≤ 5 * g 0 ∧ RM k (lpF (sfH sf g) (outF (sfH sf g) (g 2).toNat 0 (gu g 1 (g 1 + 1))) x3)) (fun v h' => RM h' (dayH (sfH sf g) g) ∧ frM h h') ?_ ?_ ?_
  · intro z2 e2 z3 e3 k1 ek1
    rw [hR.day] at e2
    subst e2
    rw [wr_id (by omega) (by omega)] at e3
    subst e3
    subst ek1
    refine ⟨rfl, rfl, (frM.rf h).up (by omega), by omega, _, hR.u_day, W1, KP.rf _, by rw [gu_n (by omega)]; omega, ?_⟩
    rw [gu_n (by omega), show g 2 - 0 = g 2 by omega]
  · rintro x0 x1 x2 k ⟨rfl, rfl, i1, i2, G, iR, iW, iK, i3, i5⟩ z3 e3
    rw [iR.opn] at e3
    subst e3
    have gB := iW.1
    refine ⟨fun q => ?_, fun q z4 e4 z5 e5 k1 ek1 z6 e6 => ?_⟩
    · have : (G 2 - x2).toNat = 0 := by omega
      rw [this] at i5
      have i5 : G = _ := i5
      refine ⟨rfl, rfl, i1, by omega, by omega, RM_ext iR (fun i j1 j2 => ?_)⟩
      rw [lp_o (by omega), ← i5]
    · have ww := iW.wag i2 q
      have pa := iW.per ww.1 ww.2.1
      have pc := iW.per ww.2.2.1 ww.2.2.2.1
      rw [iR.w4 i2 (by omega)] at e4
      subst e4
      rw [wr_id (by omega) (by omega)] at e5
      subst e5
      have r1 : RM k1 (gu G (87 + 5 * x2) (G (87 + 5 * x2) - 1)) := by
        rw [ek1]
        exact iR.u_w4 i2 (by omega)
      have f1 : frM h k1 := by
        rw [ek1]
        exact i1.up (by omega)
      rw [r1.w4 i2 (by omega), gu_e rfl] at e6
      subst e6
      have B1 := BG_gu (i := 87 + 5 * x2) (z := G (87 + 5 * x2) - 1) iW.bg (by omega)
      have hn : (G 2 - x2).toNat = (G 2 - x2 - 1).toNat + 1 := by omega
      rw [hn, outF_s] at i5
      obtain ⟨s1, s2, s3⟩ := step_ok iW i2 q (sfH x1 g)
      refine ⟨fun q2 => ?_, fun q2 z7 e7 => ?_⟩
      · rw [if_neg (by omega)] at i5
        have hdrop : ∀ v2 k2, fS 178 [271, x2] k1 v2 k2 → (sfH x1 g (G (85 + 5 * x2)) = true ↔ G (86 + 5 * x2) = 1) → ((271 : Int) = 271 ∧ x1 = x1 ∧ frM h k2 ∧ 0 ≤ x2 ∧ ∃ G, RM k2 G ∧ WF G ∧ KP (gu g 1 (g 1 + 1)) G ∧ x2 ≤ G 2 ∧ outF (sfH x1 g) (G 2 - x2).toNat x2 G = outF (sfH x1 g) (g 2).toNat 0 (gu g 1 (g 1 + 1))) := by
          intro v2 k2 hs2 hc
          obtain ⟨c1, c2⟩ := sr_dropWager hs2 r1 i2 (by rw [gu_n (by omega)]; exact q) (by rw [gu_n (by omega)]; omega)
          have es : stepF (sfH x1 g) G x2 = dropF (gu G (87 + 5 * x2) (G (87 + 5 * x2) - 1)) x2 := by
            unfold stepF
            rw [if_pos hc]
          rw [← es] at c1
          refine ⟨rfl, rfl, f1.tr c2, i2, _, c1, s1, iK.tr s2, by rw [s3]; omega, ?_⟩
          rw [s3, show G 2 - 1 - x2 = G 2 - x2 - 1 by omega]
          exact i5
        have hwed : ∀ v2 k2 v3 k3, fS 175 [271, G (83 + 5 * x2), G (84 + 5 * x2)] k1 v2 k2 → fS 178 [271, x2] k2 v3 k3 → ¬ (sfH x1 g (G (85 + 5 * x2)) = true ↔ G (86 + 5 * x2) = 1) → ((271 : Int) = 271 ∧ x1 = x1 ∧ frM h k3 ∧ 0 ≤ x2 ∧ ∃ G, RM k3 G ∧ WF G ∧ KP (gu g 1 (g 1 + 1)) G ∧ x2 ≤ G 2 ∧ outF (sfH x1 g) (G 2 - x2).toNat x2 G = outF (sfH x1 g) (g 2).toNat 0 (gu g 1 (g 1 + 1))) := by
          intro v2 k2 v3 k3 hs2 hs3 hc
          obtain ⟨c1, c2⟩ := sr_wed hs2 r1 B1 (by rw [gu_n (by omega), gu_n (by omega), gu_n (by omega), gu_n (by omega), gu_n (by omega), gu_n (by omega)]; exact pa) (by rw [gu_n (by omega), gu_n (by omega), gu_n (by omega), gu_n (by omega), gu_n (by omega), gu_n (by omega)]; exact pc) ww.1 (by rw [gu_n (by omega)]; omega) ww.2.2.1 (by rw [gu_n (by omega)]; omega) ww.2.2.2.2.1
          have w2 : weddF (gu G (87 + 5 * x2) (G (87 + 5 * x2) - 1)) (G (83 + 5 * x2)) (G (84 + 5 * x2)) 2 = G 2 := by
            rw [wedd_n (by omega) (by omega) (by omega) (by omega), gu_n (by omega)]
          obtain ⟨d1, d2⟩ := sr_dropWager hs3 c1 i2 (by rw [w2]; exact q) (by rw [w2]; omega)
          have es : stepF (sfH x1 g) G x2 = dropF (weddF (gu G (87 + 5 * x2) (G (87 + 5 * x2) - 1)) (G (83 + 5 * x2)) (G (84 + 5 * x2))) x2 := by
            unfold stepF
            rw [if_neg hc]
          rw [← es] at d1
          refine ⟨rfl, rfl, (f1.tr c2).tr d2, i2, _, d1, s1, iK.tr s2, by rw [s3]; omega, ?_⟩
          rw [s3, show G 2 - 1 - x2 = G 2 - x2 - 1 by omega]
          exact i5
        have m0 : k1 280 x2 = G (83 + 5 * x2) := by
          rw [r1.w0 i2 (by omega), gu_n (by omega)]
        have m1 : k1 281 x2 = G (84 + 5 * x2) := by
          rw [r1.w1 i2 (by omega), gu_n (by omega)]
        have m2 : k1 282 x2 = G (85 + 5 * x2) := by
          rw [r1.w2 i2 (by omega), gu_n (by omega)]
        have m3 : k1 283 x2 = G (86 + 5 * x2) := by
          rw [r1.w3 i2 (by omega), gu_n (by omega)]
        refine ⟨fun q3 z7 e7 => ?_, fun q3 z7 e7 z8 e8 z9 e9 z10 e10 z11 e11 z12 e12 => ?_⟩
        · have hH : sfH x1 g (G (85 + 5 * x2)) = true := by
            unfold sfH
            rw [decide_eq_true q3]
            rfl
          rw [m3] at e7
          subst e7
          refine ⟨fun q4 z8 e8 z9 e9 v2 k2 hs2 v3 k3 hs3 => ?_, fun q4 v2 k2 hs2 => ?_⟩
          · rw [m0] at e8
            rw [m1] at e9
            subst e8 e9
            exact hwed v2 k2 v3 k3 hs2 hs3 (fun r => q4 (r.mp hH))
          · exact hdrop v2 k2 hs2 ⟨fun _ => q4, fun _ => hH⟩
        · rw [m2] at e7
          subst e7
          rw [r1.day, gu_n (by omega), iK 1 (by omega), gu_e rfl] at e8
          have ee : ∀ i, 73 ≤ i → i < 83 → gu G (87 + 5 * x2) (G (87 + 5 * x2) - 1) i = g i := fun i j1 j2 => by
            rw [gu_n (by omega), iK i (by omega), gu_n (by omega)]
          rw [r1.on (by omega) (by omega), ee _ (by omega) (by omega)] at e9
          rw [r1.ev (by omega) (by omega), ee _ (by omega) (by omega)] at e11
          subst e8 e9 e10 e11
          have hH : z12 = 0 ↔ sfH x1 g (G (85 + 5 * x2)) = true := by
            unfold sfH hapF cmF
            rw [decide_eq_false (by omega : ¬ x1 ≠ 0), Bool.false_or, decide_eq_true_eq, e12]
          refine ⟨fun q4 z13 e13 => ?_, fun q4 z13 e13 => ?_⟩
          · rw [m3] at e13
            subst e13
            refine ⟨fun q5 v2 k2 hs2 => ?_, fun q5 z14 e14 z15 e15 v2 k2 hs2 v3 k3 hs3 => ?_⟩
            · exact hdrop v2 k2 hs2 ⟨fun r => absurd (hH.mpr r) q4, fun r => absurd r q5⟩
            · rw [m0] at e14
              rw [m1] at e15
              subst e14 e15
              exact hwed v2 k2 v3 k3 hs2 hs3 (fun r => q4 (hH.mpr (r.mpr q5)))
          · rw [m3] at e13
            subst e13
            refine ⟨fun q5 z14 e14 z15 e15 v2 k2 hs2 v3 k3 hs3 => ?_, fun q5 v2 k2 hs2 => ?_⟩
            · rw [m0] at e14
              rw [m1] at e15
              subst e14 e15
              exact hwed v2 k2 v3 k3 hs2 hs3 (fun r => q5 (r.mp (hH.mp q4)))
            · exact hdrop v2 k2 hs2 ⟨fun _ => q5, fun _ => hH.mp q4⟩
      · rw [if_pos (by omega)] at i5
        rw [wr_id (by omega) (by omega)] at e7
        subst e7
        refine ⟨rfl, rfl, f1, by omega, _, r1, WF_wait iW i2 q (by omega) (by omega), iK.tr (KP.wt i2), by rw [gu_n (by omega)]; omega, ?_⟩
        rw [gu_n (by omega), show G 2 - (x2 + 1) = G 2 - x2 - 1 by omega]
        exact i5
  · rintro x0 x1 x3 k ⟨rfl, rfl, i1, i2, i3, i4⟩ z3 e3 z4 e4
    have o0 : outF (sfH x1 g) (g 2).toNat 0 (gu g 1 (g 1 + 1)) 0 = g 0 := by rw [o2 0 (by omega), gu_n (by omega)]
    have o11 : outF (sfH x1 g) (g 2).toNat 0 (gu g 1 (g 1 + 1)) 1 = g 1 + 1 := by rw [o2 1 (by omega), gu_e rfl]
    have oe : ∀ i, 73 ≤ i → i < 83 → outF (sfH x1 g) (g 2).toNat 0 (gu g 1 (g 1 + 1)) i = g i := fun i j1 j2 => by rw [o2 i (by omega), gu_n (by omega)]
    rw [i4.many, lp_o (by omega), o0] at e3
    subst e3
    rw [wr_id (by omega) (by omega)] at e4
    subst e4
    generalize hG : outF (sfH x1 g) (g 2).toNat 0 (gu g 1 (g 1 + 1)) = G at *
    refine ⟨fun q => ⟨RM_ext i4 (fun i j1 j2 => ?_), i1⟩, fun q z5 e5 v1 k1 hs1 z7 e7 => ?_⟩
    · unfold dayH
      rw [hG]
      have : x3 = 5 * g 0 := by omega
      subst this
      unfold learnF lpF
      rw [o0]
    · rw [xdiv_nn i2 (by omega) (by omega)] at e5
      subst e5
      have pp := o1.per (p := x3 / 5) (by omega) (by omega)
      obtain ⟨rfl, rfl⟩ := sr_learns hs1 (by rw [i4.kind (by omega) (by omega), lp_o (by omega)]) pp.1 pp.2.1
      rw [i4.bel i2 (by omega), lp_o (by omega)] at e7
      have hb := o1.bel (p := x3 / 5) (e := x3 % 5) (by omega) (by omega) (by omega) (by omega)
      rw [show 38 + 5 * (x3 / 5) + x3 % 5 = 38 + x3 by omega] at hb
      have hl := lrn_b (G (3 + 5 * (x3 / 5)))
      subst e7
      -- what is behind, once the value is known
      have fin : ∀ (vv : Int) (k3 : fH) (z10 : Int), vv = lnF (sfH x1 g (x3 % 5)) (G (38 + x3)) (lrnF (G (3 + 5 * (x3 / 5)))) → k3 = fu k1 277 x3 vv → z10 = wr (x3 + 1) → ((271 : Int) = 271 ∧ x1 = x1 ∧ frM h k3 ∧ 0 ≤ z10 ∧ z10 ≤ 5 * g 0 ∧ RM k3 (lpF (sfH x1 g) G z10)) := by
        intro vv k3 z10 hv ek3 e10
        rw [wr_id (by omega) (by omega)] at e10
        subst e10
        have r3 : RM k3 (gu (lpF (sfH x1 g) G x3) (38 + x3) vv) := by
          rw [ek3]
          exact i4.u_bel i2 (by omega)
        refine ⟨rfl, rfl, ?_, by omega, by omega, RM_ext r3 (fun i j1 j2 => ?_)⟩
        · rw [ek3]
          exact i1.up (by omega)
        · by_cases hi : i = 38 + x3
          · subst hi
            rw [gu_e rfl, hv]
            unfold lpF
            rw [if_pos (by omega), show 38 + x3 - 38 = x3 by omega]
          · rw [gu_n hi]
            unfold lpF
            by_cases hc : 38 ≤ i ∧ i < 38 + x3
            · rw [if_pos hc, if_pos (by omega)]
            · rw [if_neg hc, if_neg (by omega)]
      refine ⟨fun q3 z8 e8 v2 k2 hs2 k3 ek3 z10 e10 => ?_, fun q3 z8 e8 z9 e9 z10 e10 z11 e11 z12 e12 z13 e13 => ?_⟩
      · rw [wr_id (by omega) (by omega)] at e8
        subst e8
        obtain ⟨rfl, ev⟩ := sr_held hs2
        refine fin v2 k3 z10 ?_ ek3 e10
        rw [ev]
        have : sfH x1 g (x3 % 5) = true := by
          unfold sfH
          rw [decide_eq_true q3]
          rfl
        rw [this]
        simp only [lnF]
        split <;> split <;> omega
      · rw [xrem_nn i2 (by omega) (by omega)] at e8
        subst e8
        rw [i4.day, lp_o (by omega), o11] at e9
        rw [i4.on (by omega) (by omega), lp_o (by omega), oe _ (by omega) (by omega)] at e10
        rw [i4.ev (by omega) (by omega), lp_o (by omega), oe _ (by omega) (by omega)] at e12
        subst e9 e10 e11 e12
        have hH : z13 = 0 ↔ sfH x1 g (x3 % 5) = true := by
          unfold sfH hapF cmF
          rw [decide_eq_false (by omega : ¬ x1 ≠ 0), Bool.false_or, decide_eq_true_eq, e13]
        refine ⟨fun q4 z14 e14 z15 e15 v2 k2 hs2 k3 ek3 z17 e17 => ?_, fun q4 z14 e14 v2 k2 hs2 k3 ek3 z16 e16 => ?_⟩
        · rw [wr_id (by omega) (by omega)] at e14
          subst e14
          rw [wr_id (by omega) (by omega)] at e15
          subst e15
          obtain ⟨rfl, ev⟩ := sr_held hs2
          refine fin v2 k3 z17 ?_ ek3 e17
          rw [ev]
          have : sfH x1 g (x3 % 5) = false := by
            cases hc : sfH x1 g (x3 % 5)
            · rfl
            · exact absurd (hH.mpr hc) q4
          rw [this]
          simp only [lnF]
          split
          · split <;> omega
          · split
            · omega
            · split <;> omega
        · rw [wr_id (by omega) (by omega)] at e14
          subst e14
          obtain ⟨rfl, ev⟩ := sr_held hs2
          refine fin v2 k3 z16 ?_ ek3 e16
          rw [ev, hH.mp q4]
          simp only [lnF]
          split <;> split <;> omega
theorem sr_day0 (hs : fS 173 [271, 0] h v h') (hR : RM h g) (W : WF g) (hd : g 1 ≤ 4999) : RM h' (dayF g) ∧ frM h h' := by
  have := sr_dayBy hs hR W hd
  have e : sfH 0 g = hapF g (g 1 + 1) := by
    funext e
    unfold sfH
    rw [decide_eq_false (by omega), Bool.false_or]
  rw [e] at this
  exact this
theorem sr_goDays (hs : fS 172 [271, n] h v h') (hR : RM h g) (W : WF g) (hn : 0 ≤ n) (hd : g 1 + n ≤ 5000) : RM h' (dayN n.toNat g) ∧ frM h h' := by
  have hB := W.1
  refine vr_goDays hs (fun x0 x1 x2 k => x0 = 271 ∧ x1 = n ∧ 0 ≤ x2 ∧ x2 ≤ n ∧ RM k (dayN x2.toNat g) ∧ frM h k) (fun v h' => RM h' (dayN n.toNat g) ∧ frM h h') ⟨rfl, rfl, by omega, hn, hR, frM.rf h⟩ ?_
  rintro x0 x1 x2 k ⟨rfl, rfl, i1, i2, i3, i4⟩
  refine ⟨fun q => ?_, fun q v1 k1 hs1 z4 e4 => ?_⟩
  · have : x2 = x1 := by omega
    subst this
    exact ⟨i3, i4⟩
  · obtain ⟨w1, w2, w3⟩ := dayN_ok W x2.toNat (by omega)
    obtain ⟨r1, f1⟩ := sr_day0 hs1 i3 w1 (by omega)
    rw [wr_id (by omega) (by omega)] at e4
    subst e4
    refine ⟨rfl, rfl, by omega, by omega, ?_, i4.tr f1⟩
    rw [show (x2 + 1).toNat = x2.toNat + 1 by omega]
    exact r1
end DR
