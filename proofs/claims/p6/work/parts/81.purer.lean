/-! what small methods of the reference answer; days, weddings, learning -/
section PR
variable {h h' : fH} {b v : Int} {g g' : gV} {p e w s f d : Int}
theorem sr_asksOf (hs : fS 170 [271, p] h v h') (hR : RM h g) (W : WF g) (h1 : 0 ≤ p) (h2 : p < g 0) : h' = h ∧ v = askF (g (3 + 5 * p)) (g (4 + 5 * p)) := by
  have hn := W.bg
  unfold BG at hn
  have hp := W.per h1 h2
  have hk := hR.kind h1 (by omega : p < 7)
  have hf := hR.fig h1 (by omega : p < 7)
  refine vr_asksOf hs (fun v h' => h' = h ∧ v = askF (g (3 + 5 * p)) (g (4 + 5 * p))) ?_
  intro z2 e2
  rw [hk] at e2
  subst e2
  unfold askF
  refine ⟨fun q => ⟨rfl, ?_⟩, fun q => ⟨fun q2 z3 e3 => ⟨rfl, ?_⟩, fun q2 => ⟨fun q3 => ⟨rfl, ?_⟩, fun q3 => ⟨fun q4 z3 e3 z4 e4 z5 e5 => ⟨rfl, ?_⟩, fun q4 => ⟨fun q5 => ⟨rfl, ?_⟩, fun q5 => ⟨rfl, ?_⟩⟩⟩⟩⟩⟩
  · rw [q]; rfl
  · rw [e3, hf, q2]; rfl
  · rw [q3]; rfl
  · rw [hf] at e3
    subst e3
    rw [xdiv_nn (by omega) (by omega) (by omega)] at e4
    subst e4
    rw [wr_id (by omega) (by omega)] at e5
    rw [e5, q4]
    rfl
  · rw [q5]; rfl
  · have : g (3 + 5 * p) = 0 := by omega
    rw [this]; rfl
theorem sr_weeps {kk ff : Int} (hs : fS 176 [271, p] h v h') (hk : h 272 p = kk) (hf : h 273 p = ff) (hk1 : 0 ≤ kk) (hk2 : kk ≤ 5) : h' = h ∧ v = weeF kk ff := by
  refine vr_weepsOf hs (fun v h' => h' = h ∧ v = weeF kk ff) ?_
  intro z2 e2
  rw [hk] at e2
  subst e2
  unfold weeF
  refine ⟨fun q => ⟨rfl, ?_⟩, fun q => ⟨fun q2 => ⟨rfl, ?_⟩, fun q2 => ⟨fun q3 => ⟨rfl, ?_⟩, fun q3 => ⟨fun q4 => ⟨rfl, ?_⟩, fun q4 => ⟨fun q5 z3 e3 => ⟨rfl, ?_⟩, fun q5 => ⟨rfl, ?_⟩⟩⟩⟩⟩⟩
  · rw [q]; rfl
  · rw [q2]; rfl
  · rw [q3]; rfl
  · rw [q4]; rfl
  · rw [e3, hf, q5]; rfl
  · have : z2 = 0 := by omega
    rw [this]; rfl
theorem sr_weepsOf (hs : fS 176 [271, p] h v h') (hR : RM h g) (W : WF g) (h1 : 0 ≤ p) (h2 : p < g 0) : h' = h ∧ v = weeF (g (3 + 5 * p)) (g (4 + 5 * p)) := by
  have hn := W.bg
  unfold BG at hn
  have hp := W.per h1 h2
  exact sr_weeps hs (hR.kind h1 (by omega)) (hR.fig h1 (by omega)) (by omega) (by omega)
theorem sr_learnsOf (hs : fS 179 [271, p] h v h') (hR : RM h g) (W : WF g) (h1 : 0 ≤ p) (h2 : p < g 0) : h' = h ∧ v = lrnF (g (3 + 5 * p)) := by
  have hn := W.bg
  unfold BG at hn
  have hp := W.per h1 h2
  have hk := hR.kind h1 (by omega : p < 7)
  refine vr_learnsOf hs (fun v h' => h' = h ∧ v = lrnF (g (3 + 5 * p))) ?_
  intro z2 e2
  rw [hk] at e2
  subst e2
  unfold lrnF
  refine ⟨fun q => ⟨rfl, ?_⟩, fun q => ⟨fun q2 => ⟨rfl, ?_⟩, fun q2 => ⟨fun q3 => ⟨rfl, ?_⟩, fun q3 => ⟨fun q4 => ⟨rfl, ?_⟩, fun q4 => ⟨fun q5 => ⟨rfl, ?_⟩, fun q5 => ⟨rfl, ?_⟩⟩⟩⟩⟩⟩
  · rw [q]; rfl
  · rw [q2]; rfl
  · rw [q3]; rfl
  · rw [q4]; rfl
  · rw [q5]; rfl
  · have : g (3 + 5 * p) = 0 := by omega
    rw [this]; rfl
theorem sr_isTaking (hs : fS 169 [271, p, f, e, s] h v h') (hR : RM h g) (W : WF g) (h1 : 0 ≤ p) (h2 : p < g 0) (h3 : 0 ≤ e) (h4 : e < 5) : h' = h ∧ bR v (tkF g p f e s) := by
  have hn := W.bg
  unfold BG at hn
  refine vr_isTaking hs (fun v h' => h' = h ∧ bR v (tkF g p f e s)) ?_
  intro z5 e5
  rw [hR.wish h1 (by omega)] at e5
  subst e5
  refine ⟨fun q => ⟨rfl, Or.inl ⟨rfl, Or.inl q⟩⟩, fun q v1 k1 hs1 v2 k2 hs2 => ?_⟩
  obtain ⟨rfl, rfl⟩ := sr_trustOf hs1 hR W h1 h2 h3 h4
  obtain ⟨rfl, rfl⟩ := sr_asksOf hs2 hR W h1 h2
  refine ⟨fun q2 => ⟨rfl, Or.inr ⟨rfl, ?_⟩⟩, fun q2 => ⟨rfl, Or.inl ⟨rfl, Or.inr q2⟩⟩⟩
  rintro (q3 | q3)
  · exact q q3
  · omega
theorem sr_isFree (hs : fS 167 [271, p] h v h') (hR : RM h g) (W : WF g) (h1 : 0 ≤ p) (h2 : p < g 0) : h' = h ∧ bR v (frF g p) := by
  have hn := W.bg
  unfold BG at hn
  refine vr_isFree hs (fun x0 x1 x2 x3 k => x0 = 271 ∧ x1 = p ∧ k = h ∧ 0 ≤ x3 ∧ x3 ≤ g 2 ∧ bR x2 (g (7 + 5 * p) = 0 ∧ ∀ w, 0 ≤ w → w < x3 → g (83 + 5 * w) ≠ p ∧ g (84 + 5 * w) ≠ p)) (fun v h' => h' = h ∧ bR v (frF g p)) ?_ ?_
  · intro z2 e2
    rw [hR.wed h1 (by omega)] at e2
    subst e2
    exact ⟨fun q => ⟨rfl, rfl, rfl, by omega, by omega, Or.inr ⟨rfl, fun q2 => q q2.1⟩⟩, fun q => ⟨rfl, rfl, rfl, by omega, by omega, Or.inl ⟨rfl, q, fun w h1 h2 => by omega⟩⟩⟩
  · rintro x0 x1 x2 x3 k ⟨rfl, rfl, rfl, i1, i2, i3⟩ z4 e4
    rw [hR.opn] at e4
    subst e4
    have hup : ∀ w, 0 ≤ w → w < x3 + 1 → w < x3 ∨ w = x3 := fun w _ _ => by omega
    refine ⟨fun q => ⟨rfl, ?_⟩, fun q => ⟨fun q2 z5 e5 => ?_, fun q2 z5 e5 => ?_⟩⟩
    · have : x3 = g 2 := by omega
      subst this
      exact i3
    · rw [wr_id (by omega) (by omega)] at e5
      subst e5
      exact ⟨rfl, rfl, rfl, by omega, by omega, Or.inr ⟨rfl, fun q3 => i3.f q2 ⟨q3.1, fun w h1 h2 => q3.2 w h1 (by omega)⟩⟩⟩
    · rw [hR.w0 i1 (by omega)] at e5
      subst e5
      refine ⟨fun q3 z6 e6 => ?_, fun q3 z6 e6 => ?_⟩
      · rw [wr_id (by omega) (by omega)] at e6
        subst e6
        exact ⟨rfl, rfl, rfl, by omega, by omega, Or.inr ⟨rfl, fun q4 => (q4.2 x3 i1 (by omega)).1 q3⟩⟩
      · rw [hR.w1 i1 (by omega)] at e6
        subst e6
        refine ⟨fun q4 z7 e7 => ?_, fun q4 z7 e7 => ?_⟩
        · rw [wr_id (by omega) (by omega)] at e7
          subst e7
          exact ⟨rfl, rfl, rfl, by omega, by omega, Or.inr ⟨rfl, fun q5 => (q5.2 x3 i1 (by omega)).2 q4⟩⟩
        · rw [wr_id (by omega) (by omega)] at e7
          subst e7
          have i4 := i3.t q2
          refine ⟨rfl, rfl, rfl, by omega, by omega, Or.inl ⟨rfl, i4.1, fun w h1 h2 => ?_⟩⟩
          rcases hup w h1 h2 with r | r
          · exact i4.2 w h1 r
          · rw [r]
            exact ⟨q3, q4⟩
theorem sr_couldBe {a c : Int} (hs : fS 166 [271, a, c, e, s] h v h') (hR : RM h g) (W : WF g) (h1 : 0 ≤ a) (h2 : a < g 0) (h3 : 0 ≤ c) (h4 : c < g 0) (h5 : 0 ≤ e) (h6 : e < 5) : h' = h ∧ bR v (cbF g a c e s) := by
  refine vr_couldBe hs (fun v h' => h' = h ∧ bR v (cbF g a c e s)) ?_
  intro v1 k1 hs1
  obtain ⟨rfl, r1⟩ := sr_isFree hs1 hR W h1 h2
  refine ⟨fun q => ⟨rfl, Or.inr ⟨rfl, fun q2 => r1.f q q2.1⟩⟩, fun q v2 k2 hs2 => ?_⟩
  obtain ⟨rfl, r2⟩ := sr_isFree hs2 hR W h3 h4
  refine ⟨fun q2 => ⟨rfl, Or.inr ⟨rfl, fun q3 => r2.f q2 q3.2.1⟩⟩, fun q2 v3 k3 hs3 => ?_⟩
  obtain ⟨rfl, rfl⟩ := sr_trustOf hs3 hR W h1 h2 h5 h6
  refine ⟨fun q3 => ⟨rfl, Or.inr ⟨rfl, fun q4 => absurd q4.2.2.1 (by omega)⟩⟩, fun q3 v4 k4 hs4 => ?_⟩
  obtain ⟨rfl, r4⟩ := sr_isTaking hs4 hR W h3 h4 h5 h6
  exact ⟨fun q4 => ⟨rfl, Or.inr ⟨rfl, fun q5 => r4.f q4 q5.2.2.2⟩⟩, fun q4 => ⟨rfl, Or.inl ⟨rfl, r1.t q, r2.t q2, q3, r4.t q4⟩⟩⟩
theorem sr_held {a c : Int} (hs : fS 177 [a, c] h v h') : h' = h ∧ v = (if a < 0 then 0 else if c < a then c else a) := by
  refine vr_held hs (fun v h' => h' = h ∧ v = (if a < 0 then 0 else if c < a then c else a)) ⟨fun q => ⟨fun q2 => ⟨rfl, ?_⟩, fun q2 => ⟨rfl, ?_⟩⟩, fun q => ⟨rfl, ?_⟩⟩
  · rw [if_neg (by omega), if_neg (by omega)]
  · rw [if_neg (by omega), if_pos q2]
  · rw [if_pos q]
end PR
