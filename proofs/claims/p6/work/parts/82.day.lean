/-! a day: wagers come out, beliefs learn -/
def dropF (g : gV) (w : Int) : gV := fun i => if i = 2 then g 2 - 1 else if 83 + 5 * w ≤ i ∧ i < 83 + 5 * (g 2 - 1) then g (i + 5) else g i
def tearF (g : gV) (p : Int) : Int := if 99 < g (6 + 5 * p) + weeF (g (3 + 5 * p)) (g (4 + 5 * p)) then 99 else g (6 + 5 * p) + weeF (g (3 + 5 * p)) (g (4 + 5 * p))
def weddF (g : gV) (a c : Int) : gV := gu (gu (gu (gu g (7 + 5 * a) (c + 1)) (7 + 5 * c) (a + 1)) (6 + 5 * a) (tearF g a)) (6 + 5 * c) (tearF g c)
def lnF (c : Bool) (x y : Int) : Int := match c with
  | true => if 9 < x + y then 9 else x + y
  | false => if x - y < 0 then 0 else x - y
def outF (H : Int → Bool) : Nat → Int → gV → gV
  | 0, _, g => g
  | n + 1, w, g => if 0 < g (87 + 5 * w) - 1 then outF H n (w + 1) (gu g (87 + 5 * w) (g (87 + 5 * w) - 1)) else outF H n w (dropF (if H (g (85 + 5 * w)) = true ↔ g (86 + 5 * w) = 1 then gu g (87 + 5 * w) (g (87 + 5 * w) - 1) else weddF (gu g (87 + 5 * w) (g (87 + 5 * w) - 1)) (g (83 + 5 * w)) (g (84 + 5 * w))) w)
def learnF (H : Int → Bool) (g : gV) : gV := fun i => if 38 ≤ i ∧ i < 38 + 5 * g 0 then lnF (H ((i - 38) % 5)) (g i) (lrnF (g (3 + 5 * ((i - 38) / 5)))) else g i
def hapF (g : gV) (d : Int) : Int → Bool := fun e => decide (cmF g e d)
def dayF (g : gV) : gV := learnF (hapF g (g 1 + 1)) (outF (hapF g (g 1 + 1)) (g 2).toNat 0 (gu g 1 (g 1 + 1)))
/-- only the reference's town has changed -/
def frM (h h' : fH) : Prop := ∀ c k, (c < 271 ∨ 284 < c ∨ (c = 271 ∧ k ≠ 0 ∧ k ≠ 15 ∧ k ≠ 9)) → h' c k = h c k
/-- only the town at b has changed -/
def frC (b : Int) (h h' : fH) : Prop := ∀ c k, (c < b ∨ b + 22 < c) → h' c k = h c k
section DY
variable {h h' h1 h2 : fH} {b v : Int} {g g' : gV} {p e w s f d z c k : Int} {H : Int → Bool}
theorem frM.rf (h : fH) : frM h h := fun _ _ _ => rfl
theorem frM.tr (a : frM h h1) (b : frM h1 h2) : frM h h2 := fun c k q => (b c k q).trans (a c k q)
theorem frM.up (a : frM h h1) (hc : 271 ≤ c ∧ c ≤ 284 ∧ (c = 271 → k = 0 ∨ k = 15 ∨ k = 9)) : frM h (fu h1 c k z) := fun c' k' q => by
  rw [← a c' k' q]
  unfold fu
  rw [if_neg]
  omega
theorem frC.rf (b : Int) (h : fH) : frC b h h := fun _ _ _ => rfl
theorem frC.tr (a : frC b h h1) (c : frC b h1 h2) : frC b h h2 := fun x k q => (c x k q).trans (a x k q)
theorem frC.up (a : frC b h h1) (hc : b ≤ c ∧ c ≤ b + 22) : frC b h (fu h1 c k z) := fun c' k' q => by
  rw [← a c' k' q]
  exact fu_c (by omega)
theorem RM_ext (hR : RM h g) (he : ∀ i, 0 ≤ i → i < 113 → g i = g' i) : RM h g' := fun i h1 h2 => (hR i h1 h2).trans (he i h1 h2)
theorem RM_frC (hR : RM h g) (hf : frC b h h') (hb : b + 22 < 271) : RM h' g := RM_cg hR (fun c k h1 h2 h3 => hf c k (by omega))
theorem RC_frC {b' : Int} (hR : RC h b g) (hB : BG g) (hf : frC b' h h') (hb : b + 22 < b' ∨ b' + 22 < b) : RC h' b g := RC_cg hR hB (fun c k h1 h2 => hf c k (by omega))
theorem RC_frM (hR : RC h b g) (hB : BG g) (hf : frM h h') (hb : b + 22 < 271) : RC h' b g := RC_cg hR hB (fun c k h1 h2 => hf c k (by omega))
/-- a town of the class speaks only of what there is -/
theorem RC_ext (hR : RC h b g) (hB : BG g) (e0 : g' 0 = g 0) (e1 : g' 1 = g 1) (e2 : g' 2 = g 2) (hp : ∀ i, 3 ≤ i → i < 3 + 5 * g 0 → g' i = g i) (hb : ∀ i, 38 ≤ i → i < 38 + 5 * g 0 → g' i = g i) (he : ∀ i, 73 ≤ i → i < 83 → g' i = g i) (hw : ∀ i, 83 ≤ i → i < 83 + 5 * g 2 → g' i = g i) : RC h b g' := by
  unfold BG at hB
  refine ⟨⟨by rw [e0]; exact hR.many, by rw [e1]; exact hR.day, by rw [e2]; exact hR.opn⟩, fun q h3 h4 => ?_, fun q e h3 h4 h5 h6 => ?_, fun e h3 h4 => ?_, fun w j h3 h4 h5 h6 => ?_, hR.2.2.2.2.2.1, hR.2.2.2.2.2.2⟩
  · rw [e0] at h4
    rw [hp _ (by omega) (by omega), hp _ (by omega) (by omega), hp _ (by omega) (by omega), hp _ (by omega) (by omega), hp _ (by omega) (by omega)]
    exact hR.2.1 q h3 h4
  · rw [e0] at h4
    rw [hb _ (by omega) (by omega)]
    exact hR.bel h3 h4 h5 h6
  · rw [he _ (by omega) (by omega), he _ (by omega) (by omega)]
    exact hR.2.2.2.1 e h3 h4
  · rw [e2] at h4
    rw [hw _ (by omega) (by omega)]
    exact hR.wg h3 h4 h5 h6
theorem sr_dropWager (hs : fS 178 [271, w] h v h') (hR : RM h g) (h1 : 0 ≤ w) (h2 : w < g 2) (h3 : g 2 ≤ 6) : RM h' (dropF g w) ∧ frM h h' := by
  refine vr_dropWager hs (fun x0 x2 k => x0 = 271 ∧ w ≤ x2 ∧ x2 ≤ g 2 - 1 ∧ RM k (fun i => if i = 2 then g 2 - 1 else if 83 + 5 * w ≤ i ∧ i < 83 + 5 * x2 then g (i + 5) else g i) ∧ frM h k) (fun v h' => RM h' (dropF g w) ∧ frM h h') ?_ ?_
  · intro z2 e2 z3 e3 k1 ek
    rw [hR.opn] at e2
    subst e2
    rw [wr_id (by omega) (by omega)] at e3
    subst e3
    subst ek
    refine ⟨rfl, by omega, by omega, RM_ext hR.u_open (fun i i1 i2 => ?_), (frM.rf h).up (by omega)⟩
    by_cases hi : i = 2
    · subst hi
      rw [gu_e rfl, if_pos rfl]
    · rw [gu_n hi, if_neg hi, if_neg (by omega)]
  · rintro x0 x2 k ⟨rfl, i1, i2, i3, i4⟩ z2 e2
    have e0 := i3.opn
    rw [if_pos rfl] at e0
    rw [e0] at e2
    subst e2
    refine ⟨fun q => ⟨RM_ext i3 (fun i j1 j2 => ?_), i4⟩, fun q => ?_⟩
    · have : x2 = g 2 - 1 := by omega
      subst this
      rfl
    · intro z3 e3 z4 e4 k1 ek1 z5 e5 z6 e6 k2 ek2 z7 e7 z8 e8 k3 ek3 z9 e9 z10 e10 k4 ek4 z11 e11 z12 e12 k5 ek5 z13 e13
      rw [wr_id (by omega) (by omega)] at e3 e5 e7 e9 e11 e13
      subst e3 e5 e7 e9 e11 e13
      rw [i3.w0 (by omega) (by omega)] at e4
      have r1 := i3.u_w0 (w := x2) (z := z4) (by omega) (by omega)
      rw [← ek1] at r1
      rw [r1.w1 (by omega) (by omega)] at e6
      have r2 := r1.u_w1 (w := x2) (z := z6) (by omega) (by omega)
      rw [← ek2] at r2
      rw [r2.w2 (by omega) (by omega)] at e8
      have r3 := r2.u_w2 (w := x2) (z := z8) (by omega) (by omega)
      rw [← ek3] at r3
      rw [r3.w3 (by omega) (by omega)] at e10
      have r4 := r3.u_w3 (w := x2) (z := z10) (by omega) (by omega)
      rw [← ek4] at r4
      rw [r4.w4 (by omega) (by omega)] at e12
      have r5 := r4.u_w4 (w := x2) (z := z12) (by omega) (by omega)
      rw [← ek5] at r5
      refine ⟨rfl, by omega, by omega, RM_ext r5 (fun i j1 j2 => ?_), ?_⟩
      · simp (disch := omega) only [gu_n, if_neg] at e4 e6 e8 e10 e12
        by_cases c0 : i = 83 + 5 * x2
        · subst c0
          simp (disch := omega) only [gu_n, gu_e, if_neg, if_pos]
          rw [e4]
          exact congrArg g (by omega)
        · by_cases c1 : i = 84 + 5 * x2
          · subst c1
            simp (disch := omega) only [gu_n, gu_e, if_neg, if_pos]
            rw [e6]
            exact congrArg g (by omega)
          · by_cases c2 : i = 85 + 5 * x2
            · subst c2
              simp (disch := omega) only [gu_n, gu_e, if_neg, if_pos]
              rw [e8]
              exact congrArg g (by omega)
            · by_cases c3 : i = 86 + 5 * x2
              · subst c3
                simp (disch := omega) only [gu_n, gu_e, if_neg, if_pos]
                rw [e10]
                exact congrArg g (by omega)
              · by_cases c4 : i = 87 + 5 * x2
                · subst c4
                  simp (disch := omega) only [gu_n, gu_e, if_neg, if_pos]
                  rw [e12]
                  exact congrArg g (by omega)
                · simp (disch := omega) only [gu_n]
                  by_cases d0 : i = 2
                  · rw [if_pos d0, if_pos d0]
                  · rw [if_neg d0, if_neg d0]
                    by_cases d1 : 83 + 5 * w ≤ i ∧ i < 83 + 5 * x2
                    · rw [if_pos d1, if_pos (by omega)]
                    · rw [if_neg d1, if_neg (by omega)]
      · rw [ek5, ek4, ek3, ek2, ek1]
        exact ((((i4.up (by omega)).up (by omega)).up (by omega)).up (by omega)).up (by omega)
theorem sc_close (hs : fS 70 [b, w] h v h') (hR : RC h b g) (hB : BG g) (h1 : 0 ≤ w) (h2 : w < g 2) : RC h' b (dropF g w) ∧ frC b h h' := by
  unfold BG at hB
  have e19 : b + 19 ≠ b := by omega
  refine vt_close hs (fun x0 x2 x3 k => x0 = b ∧ x2 = h (b + 19) w ∧ w + 1 ≤ x3 ∧ x3 ≤ g 2 ∧ (∀ c j, c ≠ b + 19 → k c j = h c j) ∧ (∀ j, k (b + 19) j = if w ≤ j ∧ j < x3 - 1 then h (b + 19) (j + 1) else h (b + 19) j)) (fun v h' => RC h' b (dropF g w) ∧ frC b h h') ?_ ?_
  · intro z2 e2 z3 e3 z4 e4
    subst e2
    rw [wr_id (by omega) (by omega)] at e4
    subst e4
    refine ⟨rfl, e3, by omega, by omega, fun _ _ _ => rfl, fun j => ?_⟩
    rw [if_neg (by omega)]
  · rintro x0 x2 x3 k ⟨rfl, i1, i2, i3, i4, i5⟩ z3 e3
    rw [i4 _ _ (Ne.symm e19), hR.opn] at e3
    subst e3
    refine ⟨fun q z4 e4 z5 e5 k1 ek1 z6 e6 z7 e7 k2 ek2 => ?_, fun q z4 e4 z5 e5 z6 e6 z7 e7 k1 ek1 z8 e8 => ?_⟩
    · have hx : x3 = g 2 := by omega
      subst hx
      rw [i4 _ _ (Ne.symm e19), hR.opn] at e4
      subst e4
      rw [wr_id (by omega) (by omega)] at e5
      subst e5
      subst e6
      rw [ek1, fu_e rfl rfl] at e7
      subst e7
      -- the cells behind
      have hA : ∀ j, k2 (x0 + 19) j = h (x0 + 19) (if w ≤ j ∧ j < g 2 - 1 then j + 1 else if j = g 2 - 1 then w else j) := fun j => by
        rw [ek2]
        by_cases hj : j = g 2 - 1
        · rw [fu_e rfl hj, i1, if_neg (by omega), if_pos hj]
        · rw [fu_k hj, ek1, fu_c e19, i5]
          by_cases hj2 : w ≤ j ∧ j < g 2 - 1
          · rw [if_pos hj2, if_pos hj2]
          · rw [if_neg hj2, if_neg hj2, if_neg hj]
      have hO : ∀ c j, c ≠ x0 + 19 → (c = x0 → j ≠ 14) → k2 c j = h c j := fun c j c1 c2 => by
        rw [ek2, fu_c c1, ek1]
        by_cases hc : c = x0
        · rw [fu_k (c2 hc), i4 _ _ c1]
        · rw [fu_c hc, i4 _ _ c1]
      have h14 : k2 x0 14 = g 2 - 1 := by
        rw [ek2, fu_c (by omega), ek1, fu_e rfl rfl]
      have hin : ∀ j, 0 ≤ j → j < 3 → 0 ≤ (if w ≤ j ∧ j < g 2 - 1 then j + 1 else if j = g 2 - 1 then w else j) ∧ (if w ≤ j ∧ j < g 2 - 1 then j + 1 else if j = g 2 - 1 then w else j) < 3 := fun j j1 j2 => by
        split
        · omega
        · split <;> omega
      refine ⟨⟨⟨?_, ?_, ?_⟩, fun q h3 h4 => ?_, fun q e h3 h4 h5 h6 => ?_, fun e h3 h4 => ?_, fun x j h3 h4 h5 h6 => ?_, fun x h3 h4 => ?_, fun x x' h3 h4 h5 => ?_⟩, fun c j hc => hO c j (by omega) (by omega)⟩
      · rw [hO _ _ (by omega) (by omega), hR.many]
        unfold dropF
        rw [if_neg (by omega), if_neg (by omega)]
      · rw [hO _ _ (by omega) (by omega), hR.day]
        unfold dropF
        rw [if_neg (by omega), if_neg (by omega)]
      · rw [h14]
        unfold dropF
        rw [if_pos rfl]
      · have d0 : dropF g w 0 = g 0 := by
          unfold dropF
          rw [if_neg (by omega), if_neg (by omega)]
        rw [d0] at h4
        have dd : ∀ i, 3 ≤ i → i < 83 → dropF g w i = g i := fun i j1 j2 => by
          unfold dropF
          rw [if_neg (by omega), if_neg (by omega)]
        rw [dd _ (by omega) (by omega), dd _ (by omega) (by omega), dd _ (by omega) (by omega), dd _ (by omega) (by omega), dd _ (by omega) (by omega)]
        rw [hO (x0 + 1) _ (by omega) (by omega), hO (x0 + 2) _ (by omega) (by omega), hO (x0 + 3) _ (by omega) (by omega), hO (x0 + 4) _ (by omega) (by omega), hO (x0 + 5) _ (by omega) (by omega), hO (x0 + 6) _ (by omega) (by omega), hO (x0 + 7) _ (by omega) (by omega), hO (x0 + 8) _ (by omega) (by omega)]
        exact hR.2.1 q h3 h4
      · have d0 : dropF g w 0 = g 0 := by
          unfold dropF
          rw [if_neg (by omega), if_neg (by omega)]
        rw [d0] at h4
        rw [hO _ _ (by omega) (by omega), hR.bel h3 h4 h5 h6]
        unfold dropF
        rw [if_neg (by omega), if_neg (by omega)]
      · have dd : ∀ i, 3 ≤ i → i < 83 → dropF g w i = g i := fun i j1 j2 => by
          unfold dropF
          rw [if_neg (by omega), if_neg (by omega)]
        rw [hO (x0 + 17) _ (by omega) (by omega), hO (x0 + 18) _ (by omega) (by omega), dd _ (by omega) (by omega), dd _ (by omega) (by omega)]
        exact hR.2.2.2.1 e h3 h4
      · have d2 : dropF g w 2 = g 2 - 1 := by
          unfold dropF
          rw [if_pos rfl]
        rw [d2] at h4
        rw [hA]
        by_cases hx : w ≤ x ∧ x < g 2 - 1
        · rw [if_pos hx]
          have hw := hR.wr (w := x + 1) (by omega) (by omega)
          rw [hO _ _ (by omega) (by omega), hR.wg (by omega) (by omega) h5 h6]
          unfold dropF
          rw [if_neg (by omega), if_pos (by omega)]
          exact congrArg g (by omega)
        · rw [if_neg hx, if_neg (by omega)]
          have hw := hR.wr (w := x) (by omega) (by omega)
          rw [hO _ _ (by omega) (by omega), hR.wg (by omega) (by omega) h5 h6]
          unfold dropF
          rw [if_neg (by omega), if_neg (by omega)]
      · rw [hA]
        obtain ⟨n1, n2⟩ := hin x h3 h4
        exact hR.wr n1 n2
      · rw [hA, hA]
        obtain ⟨n1, n2⟩ := hin x h3 (by omega)
        obtain ⟨n3, n4⟩ := hin x' (by omega) h5
        refine hR.wn n1 n2 n3 n4 ?_
        clear n1 n2 n3 n4 hin hA
        repeat' (first | omega | split)
    · subst e4
      subst e6
      rw [wr_id (by omega) (by omega)] at e5 e8
      subst e5
      subst e8
      refine ⟨rfl, i1, by omega, by omega, fun c j hc => ?_, fun j => ?_⟩
      · rw [ek1, fu_c hc]
        exact i4 c j hc
      · rw [ek1]
        rw [i5, if_neg (by omega)] at e7
        by_cases hj : j = x3 - 1
        · rw [fu_e rfl hj, e7, if_pos (by omega), hj]
          exact congrArg _ (by omega)
        · rw [fu_k hj, i5]
          by_cases hj2 : w ≤ j ∧ j < x3 - 1
          · rw [if_pos hj2, if_pos (by omega)]
          · rw [if_neg hj2, if_neg (by omega)]
end DY
