/-! beliefs learn; days whole -/
section LE
variable {h h' h1 h2 : fH} {b v : Int} {g g' G : gV} {p e w s f d z c k a x y n : Int} {H : Int → Bool}
theorem sc_learned (hs : fS 72 [x, y, c] h v h') (h1 : 0 ≤ x) (h2 : x ≤ 9) (h3 : 0 ≤ y) (h4 : y ≤ 3) : h' = h ∧ v = lnF (decide (c ≠ 0)) x y := by
  refine vt_learned hs (fun v h' => h' = h ∧ v = lnF (decide (c ≠ 0)) x y) ⟨fun q z3 e3 z4 e4 => ?_, fun q z3 e3 z4 e4 => ?_⟩
  · rw [wr_id (by omega) (by omega)] at e3
    subst e3
    refine ⟨rfl, ?_⟩
    rw [e4, decide_eq_false (by omega)]
    unfold xmax
    simp only [lnF]
    split <;> split <;> omega
  · rw [wr_id (by omega) (by omega)] at e3
    subst e3
    refine ⟨rfl, ?_⟩
    rw [e4, decide_eq_true q]
    unfold xmin
    simp only [lnF]
    split <;> split <;> omega
/-- learned as far as event e, person p -/
def lgF (H : Int → Bool) (G : gV) (e p : Int) : gV := fun i => if 38 ≤ i ∧ i < 38 + 5 * G 0 ∧ ((i - 38) % 5 < e ∨ ((i - 38) % 5 = e ∧ (i - 38) / 5 < p)) then lnF (H ((i - 38) % 5)) (G i) (lrnF (G (3 + 5 * ((i - 38) / 5)))) else G i
theorem lg_o {i : Int} (hi : i < 38 ∨ 38 + 5 * G 0 ≤ i) : lgF H G e p i = G i := by
  unfold lgF
  rw [if_neg (by omega)]
theorem sc_learn (hs : fS 71 [b] h v h') (hR : RC h b G) (W : WF G) : RC h' b (learnF (hapF G (G 1)) G) ∧ frC b h h' := by
  have hB := W.1
  have gB := W.bg
  refine vt_learn hs (fun x0 x1 k => x0 = b ∧ frC b h k ∧ 0 ≤ x1 ∧ x1 ≤ 5 ∧ RC k b (lgF (hapF G (G 1)) G x1 0)) (fun x0 x1 x2 x3 k => x0 = b ∧ frC b h k ∧ 0 ≤ x1 ∧ x1 < 5 ∧ decide (x2 ≠ 0) = hapF G (G 1) x1 ∧ 0 ≤ x3 ∧ x3 ≤ G 0 ∧ RC k b (lgF (hapF G (G 1)) G x1 x3)) (fun v h' => RC h' b (learnF (hapF G (G 1)) G) ∧ frC b h h') ?_ ?_ ?_
  · refine ⟨rfl, frC.rf b h, by omega, by omega, RC_ext hR gB (lg_o (by omega)) (lg_o (by omega)) (lg_o (by omega)) (fun i j1 j2 => lg_o (by omega)) (fun i j1 j2 => ?_) (fun i j1 j2 => lg_o (by omega)) (fun i j1 j2 => lg_o (by omega))⟩
    unfold lgF
    rw [if_neg (by omega)]
  · rintro x0 x1 k ⟨rfl, i1, i2, i3, i4⟩
    have B4 : BG (lgF (hapF G (G 1)) G x1 0) := by
      unfold BG
      rw [lg_o (by omega), lg_o (by omega)]
      exact gB
    refine ⟨fun q => ⟨RC_ext i4 B4 ?_ ?_ ?_ (fun i j1 j2 => ?_) (fun i j1 j2 => ?_) (fun i j1 j2 => ?_) (fun i j1 j2 => ?_), i1⟩, fun q z2 e2 z3 e3 z4 e4 z5 e5 z6 e6 z7 e7 z8 e8 => ?_⟩
    · rw [learn_o (by omega), lg_o (by omega)]
    · rw [learn_o (by omega), lg_o (by omega)]
    · rw [learn_o (by omega), lg_o (by omega)]
    · rw [lg_o (by omega)] at j2
      rw [learn_o (by omega), lg_o (by omega)]
    · rw [lg_o (by omega)] at j2
      unfold learnF lgF
      rw [if_pos (by omega), if_pos (by omega)]
    · rw [learn_o (by omega), lg_o (by omega)]
    · rw [learn_o (by omega), lg_o (by omega)]
    · subst e3 e6
      rw [i4.day, lg_o (by omega)] at e2
      rw [i4.on i2 q, lg_o (by omega)] at e4
      rw [i4.ev i2 q, lg_o (by omega)] at e7
      subst e2 e4 e5 e7
      have hh : (z8 = 0 ↔ hapF G (G 1) x1 = true) := by
        unfold hapF cmF
        rw [decide_eq_true_eq, e8]
      refine ⟨fun q2 => ⟨rfl, i1, i2, q, ?_, by omega, by omega, i4⟩, fun q2 => ⟨rfl, i1, i2, q, ?_, by omega, by omega, i4⟩⟩
      · have : hapF G (G 1) x1 = false := by
          cases hc : hapF G (G 1) x1
          · rfl
          · exact absurd (hh.mpr hc) q2
        rw [this]
        rfl
      · rw [hh.mp q2]
        rfl
  · rintro x0 x1 x2 x3 k ⟨rfl, i1, i2, i3, i4, i5, i6, i7⟩ z4 e4
    have l0 : lgF (hapF G (G 1)) G x1 x3 0 = G 0 := lg_o (by omega)
    have B7 : BG (lgF (hapF G (G 1)) G x1 x3) := by
      unfold BG
      rw [lg_o (by omega), lg_o (by omega)]
      exact gB
    rw [i7.many, l0] at e4
    subst e4
    refine ⟨fun q z5 e5 => ?_, fun q z5 e5 z6 e6 z7 e7 z8 e8 z9 e9 z10 e10 z11 e11 v1 k1 hs1 k2 ek2 z13 e13 => ?_⟩
    · rw [wr_id (by omega) (by omega)] at e5
      subst e5
      refine ⟨rfl, i1, by omega, by omega, RC_ext i7 B7 ?_ ?_ ?_ (fun i j1 j2 => ?_) (fun i j1 j2 => ?_) (fun i j1 j2 => ?_) (fun i j1 j2 => ?_)⟩
      · rw [lg_o (by omega), lg_o (by omega)]
      · rw [lg_o (by omega), lg_o (by omega)]
      · rw [lg_o (by omega), lg_o (by omega)]
      · rw [l0] at j2
        rw [lg_o (by omega), lg_o (by omega)]
      · rw [l0] at j2
        unfold lgF
        by_cases hc : (i - 38) % 5 < x1 ∨ ((i - 38) % 5 = x1 ∧ (i - 38) / 5 < x3)
        · rw [if_pos (by omega), if_pos (by omega)]
        · rw [if_neg (by omega), if_neg (by omega)]
      · rw [lg_o (by omega), lg_o (by omega)]
      · rw [lg_o (by omega), lg_o (by omega)]
    · subst e5 e7
      subst e6 e8
      rw [ofm9] at e9 ek2
      have hb := W.bel i5 q i2 i3
      have lb : lgF (hapF G (G 1)) G x1 x3 (38 + 5 * x3 + x1) = G (38 + 5 * x3 + x1) := by
        unfold lgF
        rw [if_neg (by omega)]
      rw [i7.bel i5 (by rw [l0]; exact q) i2 i3, lb] at e9
      subst e10
      rw [i7.lrn i5 (by rw [l0]; exact q), lg_o (by omega)] at e11
      subst e9 e11
      have hl := lrn_b (G (3 + 5 * x3))
      obtain ⟨rfl, ev⟩ := sc_learned hs1 hb.1 hb.2 hl.1 hl.2
      rw [i4] at ev
      rw [wr_id (by omega) (by omega)] at e13
      subst e13
      have r2 : RC k2 x0 (gu (lgF (hapF G (G 1)) G x1 x3) (38 + 5 * x3 + x1) v1) := by
        rw [ek2]
        exact i7.u_bel B7 i5 (by rw [l0]; exact q) i2 i3
      have f2 : frC x0 h k2 := by
        rw [ek2]
        exact i1.up (by omega)
      have B8 := BG_gu (i := 38 + 5 * x3 + x1) (z := v1) B7 (by omega)
      refine ⟨rfl, f2, i2, i3, i4, by omega, by omega, RC_ext r2 B8 ?_ ?_ ?_ (fun i j1 j2 => ?_) (fun i j1 j2 => ?_) (fun i j1 j2 => ?_) (fun i j1 j2 => ?_)⟩
      · rw [gu_n (by omega), lg_o (by omega), lg_o (by omega)]
      · rw [gu_n (by omega), lg_o (by omega), lg_o (by omega)]
      · rw [gu_n (by omega), lg_o (by omega), lg_o (by omega)]
      · rw [gu_n (by omega), l0] at j2
        rw [gu_n (by omega), lg_o (by omega), lg_o (by omega)]
      · rw [gu_n (by omega), l0] at j2
        by_cases hi : i = 38 + 5 * x3 + x1
        · subst hi
          rw [gu_e rfl, ev]
          unfold lgF
          rw [if_pos (by omega), show (38 + 5 * x3 + x1 - 38) % 5 = x1 by omega, show (38 + 5 * x3 + x1 - 38) / 5 = x3 by omega]
        · rw [gu_n hi]
          unfold lgF
          by_cases hc : (i - 38) % 5 < x1 ∨ ((i - 38) % 5 = x1 ∧ (i - 38) / 5 < x3)
          · rw [if_pos (by omega), if_pos (by omega)]
          · rw [if_neg (by omega), if_neg (by omega)]
      · rw [gu_n (by omega), lg_o (by omega), lg_o (by omega)]
      · rw [gu_n (by omega), lg_o (by omega), lg_o (by omega)]
theorem hap_eq {g G : gV} (hk : ∀ i, 73 ≤ i → i < 83 → G i = g i) (d : Int) {e : Int} (h3 : 0 ≤ e) (h4 : e < 5) : hapF G d e = hapF g d e := by
  unfold hapF
  exact decide_eq_decide.mpr (cmF_eq hk h3 h4 d)
theorem learn_H {H H' : Int → Bool} (hH : ∀ e, 0 ≤ e → e < 5 → H e = H' e) (G : gV) : learnF H G = learnF H' G := by
  funext i
  unfold learnF
  split
  · rw [hH _ (by omega) (by omega)]
  · rfl
theorem out_H {H H' : Int → Bool} (hH : ∀ e, 0 ≤ e → e < 5 → H e = H' e) : ∀ (n : Nat) (w : Int) (g : gV), WF g → 0 ≤ w → w + n = g 2 → outF H n w g = outF H' n w g
  | 0, _, _, _, _, _ => rfl
  | n + 1, w, g, W, h1, h2 => by
    rw [outF_s, outF_s]
    have hw : w < g 2 := by omega
    have ww := W.wag h1 hw
    have hs : stepF H g w = stepF H' g w := by
      unfold stepF
      rw [hH _ (by omega) (by omega)]
    split
    · exact out_H hH n (w + 1) _ (WF_wait (z := g (87 + 5 * w) - 1) W h1 hw (by omega) (by omega)) (by omega) (by rw [gu_n (by omega)]; omega)
    · obtain ⟨s1, s2, s3⟩ := step_ok W h1 hw H
      rw [← hs]
      exact out_H hH n w _ s1 h1 (by rw [s3]; omega)
/-- the class: a day -/
theorem sc_day {k1 k2 : fH} {v2 v3 : Int} (hR : RC h b g) (W : WF g) (hd : g 1 ≤ 4999) (ek : h1 = fu h b 15 (g 1 + 1)) (hs2 : fS 65 [b] h1 v2 k1) (hs3 : fS 71 [b] k1 v3 k2) : RC k2 b (dayF g) ∧ frC b h k2 := by
  have hB := W.1
  have W1 : WF (gu g 1 (g 1 + 1)) := WF_day1 W (by omega)
  have r1 : RC h1 b (gu g 1 (g 1 + 1)) := by
    rw [ek]
    exact hR.u_day W.bg
  obtain ⟨r2, f2⟩ := sc_comeOut hs2 r1 W1
  rw [gu_e rfl, gu_n (by omega)] at r2
  have hH : ∀ e, 0 ≤ e → e < 5 → hapF (gu g 1 (g 1 + 1)) (g 1 + 1) e = hapF g (g 1 + 1) e := fun e j1 j2 => hap_eq (fun i j3 j4 => gu_n (by omega)) _ j1 j2
  obtain ⟨o1, o2⟩ := out_ok (hapF g (g 1 + 1)) (g 2).toNat 0 (gu g 1 (g 1 + 1)) W1 (by omega) (by rw [gu_n (by omega)]; omega)
  rw [out_H hH _ _ _ W1 (by omega) (by rw [gu_n (by omega)]; omega)] at r2
  obtain ⟨r3, f3⟩ := sc_learn hs3 r2 o1
  have e1 : outF (hapF g (g 1 + 1)) (g 2).toNat 0 (gu g 1 (g 1 + 1)) 1 = g 1 + 1 := by
    rw [o2 1 (by omega), gu_e rfl]
  rw [e1, learn_H (fun e j1 j2 => hap_eq (g := g) (fun i j3 j4 => by rw [o2 i (by omega), gu_n (by omega)]) _ j1 j2)] at r3
  refine ⟨r3, ?_⟩
  refine frC.tr ?_ (f2.tr f3)
  rw [ek]
  exact (frC.rf b h).up (by omega)
theorem dayN_ok (W : WF g) : ∀ n : Nat, g 1 + n ≤ 5000 → WF (dayN n g) ∧ dayN n g 0 = g 0 ∧ dayN n g 1 = g 1 + n
  | 0, _ => ⟨W, rfl, by simp [dayN]⟩
  | n + 1, hd => by
    obtain ⟨w1, w2, w3⟩ := dayN_ok W n (by omega)
    obtain ⟨d1, d2, d3, -⟩ := day_ok w1 (by omega) (hapF (dayN n g) (dayN n g 1 + 1))
    rw [← dayF_eq] at d1 d2 d3
    refine ⟨d1, d2.trans w2, ?_⟩
    show dayF (dayN n g) 1 = _
    rw [d3, w3]
    omega
theorem sc_goOn (hs : fS 64 [b, n] h v h') (hR : RC h b g) (W : WF g) (hn : 0 ≤ n) (hd : g 1 + n ≤ 5000) : RC h' b (dayN n.toNat g) ∧ frC b h h' := by
  have hB := W.1
  refine vt_goOn hs (fun x0 x1 x2 k => x0 = b ∧ x1 = n ∧ 0 ≤ x2 ∧ x2 ≤ n ∧ RC k b (dayN x2.toNat g) ∧ frC b h k) (fun v h' => RC h' b (dayN n.toNat g) ∧ frC b h h') ⟨rfl, rfl, by omega, hn, hR, frC.rf b h⟩ ?_
  rintro x0 x1 x2 k ⟨rfl, rfl, i1, i2, i3, i4⟩
  refine ⟨fun q => ?_, fun q z3 e3 z4 e4 k1 ek1 v2 k2 hs2 v3 k3 hs3 z7 e7 => ?_⟩
  · have : x2 = x1 := by omega
    subst this
    exact ⟨i3, i4⟩
  · obtain ⟨w1, w2, w3⟩ := dayN_ok W x2.toNat (by omega)
    rw [i3.day] at e3
    subst e3
    rw [wr_id (by omega) (by omega)] at e4
    subst e4
    obtain ⟨r1, f1⟩ := sc_day i3 w1 (by omega) ek1 hs2 hs3
    rw [wr_id (by omega) (by omega)] at e7
    subst e7
    refine ⟨rfl, rfl, by omega, by omega, ?_, i4.tr f1⟩
    rw [show (x2 + 1).toNat = x2.toNat + 1 by omega]
    exact r1
end LE
