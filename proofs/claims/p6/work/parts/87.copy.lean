/-! towns laid over towns -/
theorem fcp_e {h : fH} {i j n c k : Int} (h1 : c = j) (h2 : 0 ≤ k) (h3 : k < n) : fcp h i j n c k = h i k := if_pos ⟨h1, h2, h3⟩
theorem fcp_c {h : fH} {i j n c k : Int} (h1 : c ≠ j) : fcp h i j n c k = h c k := if_neg (fun q => h1 q.1)
/-- the objects of the class's towns -/
def tw (b : Int) : Prop := b = 11 ∨ b = 34 ∨ b = 57 ∨ b = 82 ∨ b = 105 ∨ b = 128 ∨ b = 151 ∨ b = 174 ∨ b = 197 ∨ b = 220 ∨ b = 243
/-- the wagers of a town, one behind the other in some order -/
def RW (h : fH) (b : Int) : Prop := (∀ w, 0 ≤ w → w < 3 → b + 20 ≤ h (b + 19) w ∧ h (b + 19) w ≤ b + 22) ∧ (∀ w w', 0 ≤ w → w < w' → w' < 3 → h (b + 19) w ≠ h (b + 19) w')
section CP
variable {h h' h1 h2 : fH} {b b2 v : Int} {g g' G : gV} {p e w s f d z c k a x y n i : Int}
theorem tw_len (hb : tw b) : f_len (b + 1) = 7 ∧ f_len (b + 2) = 7 ∧ f_len (b + 3) = 7 ∧ f_len (b + 4) = 7 ∧ f_len (b + 5) = 7 ∧ f_len (b + 6) = 7 ∧ f_len (b + 7) = 7 ∧ f_len (b + 8) = 7 ∧ f_len (b + 17) = 5 ∧ f_len (b + 18) = 5 := by
  rcases hb with rfl | rfl | rfl | rfl | rfl | rfl | rfl | rfl | rfl | rfl | rfl <;> decide +kernel
theorem tw_row (hb : tw b) (h1 : 0 ≤ p) (h2 : p < 7) : f_len (b + 10 + p) = 5 := by
  have hp : p = 0 ∨ p = 1 ∨ p = 2 ∨ p = 3 ∨ p = 4 ∨ p = 5 ∨ p = 6 := by omega
  rcases hb with rfl | rfl | rfl | rfl | rfl | rfl | rfl | rfl | rfl | rfl | rfl <;> rcases hp with rfl | rfl | rfl | rfl | rfl | rfl | rfl <;> decide +kernel
theorem tw_b (hb : tw b) : 11 ≤ b ∧ b ≤ 243 := by
  unfold tw at hb
  omega
theorem RC.rw' (hR : RC h b g) : RW h b := hR.2.2.2.2.2
theorem RW.at (hR : RW h b) (h1 : 0 ≤ w) (h2 : w < 3) : b + 20 ≤ h (b + 19) w ∧ h (b + 19) w ≤ b + 22 := hR.1 w h1 h2
theorem RW.ne (hR : RW h b) (h1 : 0 ≤ w) (h2 : w < 3) (h3 : 0 ≤ i) (h4 : i < 3) (h5 : w ≠ i) : h (b + 19) w ≠ h (b + 19) i := by
  rcases Int.lt_or_gt_of_ne h5 with q | q
  · exact hR.2 w i h1 q h4
  · exact (hR.2 i w h3 q h2).symm
theorem RW_frC {b' : Int} (hR : RW h b) (hf : frC b' h h') (hb : b + 22 < b' ∨ b' + 22 < b) : RW h' b := by
  have e : ∀ w, h' (b + 19) w = h (b + 19) w := fun w => hf _ _ (by omega)
  exact ⟨fun w j1 j2 => by rw [e]; exact hR.1 w j1 j2, fun w w' j1 j2 j3 => by rw [e, e]; exact hR.2 w w' j1 j2 j3⟩
theorem sc_copy (hs : fS 24 [a, c] h v h') : h' = fcp h a c (f_len c) := by
  refine vt_copy hs (fun v h' => h' = fcp h a c (f_len c)) ?_
  intro z2 e2 k1 ek1
  rw [ek1, e2]
theorem sc_beLike (hs : fS 25 [a, c] h v h') (hne : a ≠ c) : h' = fcp h c a 5 := by
  refine vg_beLike hs (fun v h' => h' = fcp h c a 5) ?_
  intro z2 e2 k1 ek1 z3 e3 k2 ek2 z4 e4 k3 ek3 z5 e5 k4 ek4 z6 e6 k5 ek5
  rw [ek1, fu_c (Ne.symm hne)] at e3
  rw [ek2, fu_c (Ne.symm hne), ek1, fu_c (Ne.symm hne)] at e4
  rw [ek3, fu_c (Ne.symm hne), ek2, fu_c (Ne.symm hne), ek1, fu_c (Ne.symm hne)] at e5
  rw [ek4, fu_c (Ne.symm hne), ek3, fu_c (Ne.symm hne), ek2, fu_c (Ne.symm hne), ek1, fu_c (Ne.symm hne)] at e6
  funext x j
  by_cases hx : x = a
  · subst hx
    by_cases hj : 0 ≤ j ∧ j < 5
    · rw [fcp_e rfl hj.1 hj.2, ek5]
      by_cases j4 : j = 4
      · rw [fu_e rfl j4, e6, j4]
      · rw [fu_k j4, ek4]
        by_cases j3 : j = 3
        · rw [fu_e rfl j3, e5, j3]
        · rw [fu_k j3, ek3]
          by_cases j2 : j = 2
          · rw [fu_e rfl j2, e4, j2]
          · rw [fu_k j2, ek2]
            by_cases j1 : j = 1
            · rw [fu_e rfl j1, e3, j1]
            · have j0 : j = 0 := by omega
              rw [fu_k j1, ek1, fu_e rfl j0, e2, j0]
    · unfold fcp
      rw [if_neg (by omega), ek5, fu_k (by omega), ek4, fu_k (by omega), ek3, fu_k (by omega), ek2, fu_k (by omega), ek1, fu_k (by omega)]
  · rw [fcp_c hx, ek5, fu_c hx, ek4, fu_c hx, ek3, fu_c hx, ek2, fu_c hx, ek1, fu_c hx]
theorem sc_copyFrom (hs : fS 23 [b, b2] h v h') (hR : RC h b2 g) (hB : BG g) (hW : RW h b) (hb : tw b) (hb2 : tw b2) (hne : b + 22 < b2 ∨ b2 + 22 < b) : RC h' b g ∧ frC b h h' := by
  unfold BG at hB
  obtain ⟨l1, l2, l3, l4, l5, l6, l7, l8, l9, l10⟩ := tw_len hb
  -- the town's cells but rows of beliefs and wagers
  refine vt_copyFrom hs (fun x0 x1 x2 k => x0 = b ∧ x1 = b2 ∧ 0 ≤ x2 ∧ x2 ≤ g 0 ∧ frC b h k ∧ (k b 1 = g 0 ∧ k b 15 = g 1 ∧ k b 14 = g 2) ∧ (∀ p, 0 ≤ p → p < 7 → k (b + 1) p = h (b2 + 1) p ∧ k (b + 2) p = h (b2 + 2) p ∧ k (b + 3) p = h (b2 + 3) p ∧ k (b + 4) p = h (b2 + 4) p ∧ k (b + 5) p = h (b2 + 5) p ∧ k (b + 6) p = h (b2 + 6) p ∧ k (b + 7) p = h (b2 + 7) p ∧ k (b + 8) p = h (b2 + 8) p) ∧ (∀ e, 0 ≤ e → e < 5 → k (b + 17) e = h (b2 + 17) e ∧ k (b + 18) e = h (b2 + 18) e) ∧ (∀ c j, b + 19 ≤ c → c ≤ b + 22 → k c j = h c j) ∧ (∀ q e, 0 ≤ q → q < x2 → 0 ≤ e → e < 5 → k (b + 10 + q) e = h (b2 + 10 + q) e)) (fun x0 x1 x2 k => x0 = b ∧ x1 = b2 ∧ 0 ≤ x2 ∧ x2 ≤ g 2 ∧ frC b h k ∧ (k b 1 = g 0 ∧ k b 15 = g 1 ∧ k b 14 = g 2) ∧ (∀ p, 0 ≤ p → p < 7 → k (b + 1) p = h (b2 + 1) p ∧ k (b + 2) p = h (b2 + 2) p ∧ k (b + 3) p = h (b2 + 3) p ∧ k (b + 4) p = h (b2 + 4) p ∧ k (b + 5) p = h (b2 + 5) p ∧ k (b + 6) p = h (b2 + 6) p ∧ k (b + 7) p = h (b2 + 7) p ∧ k (b + 8) p = h (b2 + 8) p) ∧ (∀ e, 0 ≤ e → e < 5 → k (b + 17) e = h (b2 + 17) e ∧ k (b + 18) e = h (b2 + 18) e) ∧ (∀ j, k (b + 19) j = h (b + 19) j) ∧ (∀ q e, 0 ≤ q → q < g 0 → 0 ≤ e → e < 5 → k (b + 10 + q) e = h (b2 + 10 + q) e) ∧ (∀ w j, 0 ≤ w → w < x2 → 0 ≤ j → j < 5 → k (h (b + 19) w) j = h (h (b2 + 19) w) j)) (fun v h' => RC h' b g ∧ frC b h h') ?_ ?_ ?_
  · intro z2 e2 k1 ek1 z3 e3 k2 ek2 z4 e4 k3 ek3 z5 e5 z6 e6 v4 k4 hs4 z8 e8 z9 e9 v5 k5 hs5 z11 e11 z12 e12 v6 k6 hs6 z14 e14 z15 e15 v7 k7 hs7 z17 e17 z18 e18 v8 k8 hs8 z20 e20 z21 e21 v9 k9 hs9 z23 e23 z24 e24 v10 k10 hs10 z26 e26 z27 e27 v11 k11 hs11 z29 e29 z30 e30 v12 k12 hs12 z32 e32 z33 e33 v13 k13 hs13
    subst e5 e6 e8 e9 e11 e12 e14 e15 e17 e18 e20 e21 e23 e24 e26 e27 e29 e30 e32 e33
    have q4 := sc_copy hs4
    have q5 := sc_copy hs5
    have q6 := sc_copy hs6
    have q7 := sc_copy hs7
    have q8 := sc_copy hs8
    have q9 := sc_copy hs9
    have q10 := sc_copy hs10
    have q11 := sc_copy hs11
    have q12 := sc_copy hs12
    have q13 := sc_copy hs13
    rw [l1] at q4
    rw [l2] at q5
    rw [l3] at q6
    rw [l4] at q7
    rw [l5] at q8
    rw [l6] at q9
    rw [l7] at q10
    rw [l8] at q11
    rw [l9] at q12
    rw [l10] at q13
    rw [hR.many] at e2
    rw [ek1, fu_c (by omega), hR.opn] at e3
    rw [ek2, fu_c (by omega), ek1, fu_c (by omega), hR.day] at e4
    subst e2 e3 e4
    have hO : ∀ c j, c ≠ b → c ≠ b + 1 → c ≠ b + 2 → c ≠ b + 3 → c ≠ b + 4 → c ≠ b + 5 → c ≠ b + 6 → c ≠ b + 7 → c ≠ b + 8 → c ≠ b + 17 → c ≠ b + 18 → k13 c j = h c j := by
      intro c j n0 n1 n2 n3 n4 n5 n6 n7 n8 n9 n10
      rw [q13, fcp_c n10, q12, fcp_c n9, q11, fcp_c n8, q10, fcp_c n7, q9, fcp_c n6, q8, fcp_c n5, q7, fcp_c n4, q6, fcp_c n3, q5, fcp_c n2, q4, fcp_c n1, ek3, fu_c n0, ek2, fu_c n0, ek1, fu_c n0]
    refine ⟨rfl, rfl, by omega, by omega, fun c j hc => hO c j (by omega) (by omega) (by omega) (by omega) (by omega) (by omega) (by omega) (by omega) (by omega) (by omega) (by omega), ⟨?_, ?_, ?_⟩, fun p j1 j2 => ⟨?_, ?_, ?_, ?_, ?_, ?_, ?_, ?_⟩, fun e j1 j2 => ⟨?_, ?_⟩, fun c j j1 j2 => hO c j (by omega) (by omega) (by omega) (by omega) (by omega) (by omega) (by omega) (by omega) (by omega) (by omega) (by omega), fun q e j1 j2 => by omega⟩
    · simp (disch := omega) only [q13, q12, q11, q10, q9, q8, q7, q6, q5, q4, ek3, ek2, ek1, fcp_c, fcp_e, fu_c, fu_e, fu_k]
    · simp (disch := omega) only [q13, q12, q11, q10, q9, q8, q7, q6, q5, q4, ek3, ek2, ek1, fcp_c, fcp_e, fu_c, fu_e, fu_k]
    · simp (disch := omega) only [q13, q12, q11, q10, q9, q8, q7, q6, q5, q4, ek3, ek2, ek1, fcp_c, fcp_e, fu_c, fu_e, fu_k]
    · simp (disch := omega) only [q13, q12, q11, q10, q9, q8, q7, q6, q5, q4, ek3, ek2, ek1, fcp_c, fcp_e, fu_c, fu_e, fu_k]
    · simp (disch := omega) only [q13, q12, q11, q10, q9, q8, q7, q6, q5, q4, ek3, ek2, ek1, fcp_c, fcp_e, fu_c, fu_e, fu_k]
    · simp (disch := omega) only [q13, q12, q11, q10, q9, q8, q7, q6, q5, q4, ek3, ek2, ek1, fcp_c, fcp_e, fu_c, fu_e, fu_k]
    · simp (disch := omega) only [q13, q12, q11, q10, q9, q8, q7, q6, q5, q4, ek3, ek2, ek1, fcp_c, fcp_e, fu_c, fu_e, fu_k]
    · simp (disch := omega) only [q13, q12, q11, q10, q9, q8, q7, q6, q5, q4, ek3, ek2, ek1, fcp_c, fcp_e, fu_c, fu_e, fu_k]
    · simp (disch := omega) only [q13, q12, q11, q10, q9, q8, q7, q6, q5, q4, ek3, ek2, ek1, fcp_c, fcp_e, fu_c, fu_e, fu_k]
    · simp (disch := omega) only [q13, q12, q11, q10, q9, q8, q7, q6, q5, q4, ek3, ek2, ek1, fcp_c, fcp_e, fu_c, fu_e, fu_k]
    · simp (disch := omega) only [q13, q12, q11, q10, q9, q8, q7, q6, q5, q4, ek3, ek2, ek1, fcp_c, fcp_e, fu_c, fu_e, fu_k]
    · simp (disch := omega) only [q13, q12, q11, q10, q9, q8, q7, q6, q5, q4, ek3, ek2, ek1, fcp_c, fcp_e, fu_c, fu_e, fu_k]
    · simp (disch := omega) only [q13, q12, q11, q10, q9, q8, q7, q6, q5, q4, ek3, ek2, ek1, fcp_c, fcp_e, fu_c, fu_e, fu_k]
  · rintro x0 x1 x2 k ⟨rfl, rfl, i1, i2, i3, i4, i5, i6, i7, i8⟩ z3 e3
    rw [i4.1] at e3
    subst e3
    refine ⟨fun q => ?_, fun q z4 e4 z5 e5 z6 e6 z7 e7 v1 k1 hs1 z9 e9 => ?_⟩
    · refine ⟨rfl, rfl, by omega, by omega, i3, i4, i5, i6, fun j => i7 _ _ (by omega) (by omega), fun q e j1 j2 j3 j4 => i8 q e j1 (by omega) j3 j4, fun w j j1 j2 => by omega⟩
    · subst e4 e6
      subst e5 e7
      rw [ofm9, ofm9] at hs1
      have q1 := sc_copy hs1
      rw [tw_row hb i1 (by omega)] at q1
      rw [wr_id (by omega) (by omega)] at e9
      subst e9
      have hO : ∀ c j, c ≠ x0 + 10 + x2 → k1 c j = k c j := fun c j hc => by rw [q1, fcp_c hc]
      refine ⟨rfl, rfl, by omega, by omega, fun c j hc => by rw [hO _ _ (by omega)]; exact i3 c j hc, ?_, fun p j1 j2 => ?_, fun e j1 j2 => ?_, fun c j j1 j2 => ?_, fun q e j1 j2 j3 j4 => ?_⟩
      · rw [hO _ _ (by omega), hO _ _ (by omega), hO _ _ (by omega)]
        exact i4
      · rw [hO (x0 + 1) _ (by omega), hO (x0 + 2) _ (by omega), hO (x0 + 3) _ (by omega), hO (x0 + 4) _ (by omega), hO (x0 + 5) _ (by omega), hO (x0 + 6) _ (by omega), hO (x0 + 7) _ (by omega), hO (x0 + 8) _ (by omega)]
        exact i5 p j1 j2
      · rw [hO (x0 + 17) _ (by omega), hO (x0 + 18) _ (by omega)]
        exact i6 e j1 j2
      · rw [hO _ _ (by omega)]
        exact i7 c j j1 j2
      · by_cases hq : q = x2
        · subst hq
          rw [q1, fcp_e rfl j3 j4]
          exact i3 _ _ (by omega)
        · rw [hO _ _ (by omega)]
          exact i8 q e j1 (by omega) j3 j4
  · rintro x0 x1 x2 k ⟨rfl, rfl, i1, i2, i3, i4, i5, i6, i7, i8, i9⟩ z3 e3
    rw [i4.2.2] at e3
    subst e3
    refine ⟨fun q => ⟨⟨i4, fun p j1 j2 => ?_, fun p e j1 j2 j3 j4 => ?_, fun e j1 j2 => ?_, fun w j j1 j2 j3 j4 => ?_, fun w j1 j2 => ?_, fun w w' j1 j2 j3 => ?_⟩, i3⟩, fun q z4 e4 z5 e5 z6 e6 z7 e7 v1 k1 hs1 z9 e9 => ?_⟩
    · obtain ⟨c1, c2, c3, c4, c5, c6, c7, c8⟩ := i5 p j1 (by omega)
      rw [c1, c2, c3, c4, c5, c6, c7, c8]
      exact hR.2.1 p j1 j2
    · rw [i8 p e j1 j2 j3 j4]
      exact hR.bel j1 j2 j3 j4
    · rw [(i6 e j1 j2).1, (i6 e j1 j2).2]
      exact hR.2.2.2.1 e j1 j2
    · rw [i7, i9 w j j1 (by omega) j3 j4]
      exact hR.wg j1 j2 j3 j4
    · rw [i7]
      exact hW.1 w j1 j2
    · rw [i7, i7]
      exact hW.2 w w' j1 j2 j3
    · subst e4 e6
      have r1 := hW.at i1 (by omega : x2 < 3)
      have r2 := hR.wr i1 (by omega : x2 < 3)
      rw [i7] at e5
      rw [i3 _ _ (by omega)] at e7
      subst e5 e7
      have q1 := sc_beLike hs1 (by omega)
      rw [wr_id (by omega) (by omega)] at e9
      subst e9
      have hO : ∀ c j, c ≠ h (x0 + 19) x2 → k1 c j = k c j := fun c j hc => by rw [q1, fcp_c hc]
      refine ⟨rfl, rfl, by omega, by omega, fun c j hc => by rw [hO _ _ (by omega)]; exact i3 c j hc, ?_, fun p j1 j2 => ?_, fun e j1 j2 => ?_, fun j => ?_, fun q e j1 j2 j3 j4 => ?_, fun w j j1 j2 j3 j4 => ?_⟩
      · rw [hO _ _ (by omega), hO _ _ (by omega), hO _ _ (by omega)]
        exact i4
      · rw [hO (x0 + 1) _ (by omega), hO (x0 + 2) _ (by omega), hO (x0 + 3) _ (by omega), hO (x0 + 4) _ (by omega), hO (x0 + 5) _ (by omega), hO (x0 + 6) _ (by omega), hO (x0 + 7) _ (by omega), hO (x0 + 8) _ (by omega)]
        exact i5 p j1 j2
      · rw [hO (x0 + 17) _ (by omega), hO (x0 + 18) _ (by omega)]
        exact i6 e j1 j2
      · rw [hO _ _ (by omega)]
        exact i7 j
      · rw [hO _ _ (by omega)]
        exact i8 q e j1 j2 j3 j4
      · by_cases hw : w = x2
        · subst hw
          rw [q1, fcp_e rfl j3 j4]
          exact i3 _ _ (by omega)
        · have := hW.ne j1 (by omega) i1 (by omega) hw
          rw [hO _ _ this]
          exact i9 w j j1 (by omega) j3 j4
end CP
