/-! the reference lays its town down, or up again -/
/-- it has come to place P: kp is whether it lays down, T the cell, g the town before, G the row -/
def CY (kp T : Int) (g G : gV) (h0 : fH) (P : Int) (h : fH) : Prop :=
  h 271 29 = P ∧ h 271 30 = kp ∧ h 271 31 = T ∧
  (∀ i, 0 ≤ i → i < 113 → h (mc i) (ms i) = if i < P then G i else g i) ∧
  (∀ i, 0 ≤ i → i < 113 → (i < P ∨ kp = 0) → h T i = G i) ∧
  (∀ c k, c ≠ T → (c < 271 ∨ 284 < c ∨ (c = 271 ∧ k ≠ 0 ∧ k ≠ 15 ∧ k ≠ 9 ∧ k ≠ 29 ∧ k ≠ 30 ∧ k ≠ 31)) → h c k = h0 c k)
section CA
variable {h h' h1 h0 : fH} {v z c k kp T P : Int} {g G : gV}
theorem mc_b {i : Int} (h1 : 0 ≤ i) (h2 : i < 113) : 271 ≤ mc i ∧ mc i ≤ 284 ∧ (mc i = 271 → ms i = 0 ∨ ms i = 15 ∨ ms i = 9) := by
  unfold mc ms
  omega
theorem sr_carry (hs : fS 160 [271, z] h v h1) (hC : CY kp T g G h0 P h) (hT : 284 < T) (hP : 0 ≤ P ∧ P < 113) (ec : mc P = c) (ek : ms P = k) (hz : z = h c k) (hg : kp ≠ 0 → ∀ i, 0 ≤ i → i < 113 → g i = G i) : CY kp T g G h0 (P + 1) (fu h1 c k v) := by
  obtain ⟨a1, a2, a3, a4, a5, a6⟩ := hC
  have hb := mc_b hP.1 hP.2
  have zg : z = g P := by
    rw [hz, ← ec, ← ek, a4 P hP.1 hP.2, if_neg (by omega)]
  have key : v = G P ∧ h1 271 29 = P + 1 ∧ (∀ i, 0 ≤ i → i < 113 → (i < P + 1 ∨ kp = 0) → h1 T i = G i) ∧ (∀ c k, c ≠ T → (c ≠ 271 ∨ k ≠ 29) → h1 c k = h c k) := by
    refine vr_carry hs (fun v h1 => v = G P ∧ h1 271 29 = P + 1 ∧ (∀ i, 0 ≤ i → i < 113 → (i < P + 1 ∨ kp = 0) → h1 T i = G i) ∧ (∀ c k, c ≠ T → (c ≠ 271 ∨ k ≠ 29) → h1 c k = h c k)) ?_
    intro z2 e2
    rw [a2] at e2
    subst e2
    refine ⟨fun q z3 e3 z4 e4 k1 ek1 z5 e5 z6 e6 z7 e7 z8 e8 => ?_, fun q z3 e3 z4 e4 k1 ek1 z5 e5 z6 e6 k2 ek2 z7 e7 z8 e8 z9 e9 z10 e10 => ?_⟩
    · rw [a1] at e3
      subst e3
      rw [wr_id (by omega) (by omega)] at e4
      subst e4
      rw [ek1, fu_k (by omega), a3] at e5
      rw [ek1, fu_e rfl rfl] at e6
      subst e5 e6
      rw [wr_id (by omega) (by omega)] at e7
      have e7 : z7 = z3 := by omega
      subst e7
      have hO : ∀ c k, (c ≠ 271 ∨ k ≠ 29) → k1 c k = h c k := fun c k hc => by
        rw [ek1]
        rcases hc with r | r
        · exact fu_c r
        · exact fu_k r
      refine ⟨?_, ?_, fun i j1 j2 j3 => ?_, fun c k _ hc => hO c k hc⟩
      · rw [e8, hO _ _ (by omega)]
        exact a5 z7 hP.1 hP.2 (Or.inr q)
      · rw [ek1, fu_e rfl rfl]
      · rw [hO _ _ (by omega)]
        exact a5 i j1 j2 (Or.inr q)
    · rw [a3] at e3
      rw [a1] at e4
      subst e3 e4
      rw [ek1, fu_c (by omega), a1] at e5
      rw [wr_id (by omega) (by omega)] at e6
      subst e5
      subst e6
      rw [ek2, fu_k (by omega), ek1, fu_c (by omega), a3] at e7
      rw [ek2, fu_e rfl rfl] at e8
      subst e7 e8
      rw [wr_id (by omega) (by omega)] at e9
      have hg := hg q
      have e9' : z9 = z5 := by omega
      subst e9'
      have hT2 : ∀ i, 0 ≤ i → i < 113 → (i < z9 + 1 ∨ z2 = 0) → k2 z7 i = G i := fun i j1 j2 j3 => by
        rw [ek2, fu_c (by omega), ek1]
        by_cases hi : i = z9
        · rw [fu_e rfl hi, zg, hi]
          exact hg z9 hP.1 hP.2
        · rw [fu_k hi]
          exact a5 i j1 j2 (by omega)
      refine ⟨?_, ?_, hT2, fun c k hc1 hc => ?_⟩
      · rw [e10]
        exact hT2 z9 hP.1 hP.2 (by omega)
      · rw [ek2, fu_e rfl rfl]
      · rw [ek2]
        rcases hc with r | r
        · rw [fu_c r, ek1, fu_c hc1]
        · rw [fu_k r, ek1, fu_c hc1]
  obtain ⟨b1, b2, b3, b4⟩ := key
  subst ec
  subst ek
  refine ⟨?_, ?_, ?_, fun i j1 j2 => ?_, fun i j1 j2 j3 => ?_, fun c k hc1 hc => ?_⟩
  · unfold fu
    rw [if_neg (by omega)]
    exact b2
  · unfold fu
    rw [if_neg (by omega), b4 _ _ (by omega) (by omega)]
    exact a2
  · unfold fu
    rw [if_neg (by omega), b4 _ _ (by omega) (by omega)]
    exact a3
  · have hb2 := mc_b j1 j2
    by_cases hi : i = P
    · subst hi
      rw [fu_e rfl rfl, if_pos (by omega), b1]
    · unfold fu
      rw [if_neg (fun q => hi (m_inj j1 j2 hP.1 hP.2 q.1 q.2)), b4 _ _ (by omega) (by omega), a4 i j1 j2]
      by_cases hi2 : i < P
      · rw [if_pos hi2, if_pos (by omega)]
      · rw [if_neg hi2, if_neg (by omega)]
  · unfold fu
    rw [if_neg (by omega)]
    exact b3 i j1 j2 j3
  · unfold fu
    rw [if_neg (by omega), b4 _ _ hc1 (by omega)]
    exact a6 c k hc1 hc
theorem sr_carryAll (hs : fS 159 [271, T, kp] h v h') (hR : RM h g) (hT : 284 < T) (hg : kp ≠ 0 → ∀ i, 0 ≤ i → i < 113 → g i = G i) (hG : kp = 0 → ∀ i, 0 ≤ i → i < 113 → h T i = G i) : CY kp T g G h 113 h' := by
  refine vr_carryAll hs (fun x0 x3 q => x0 = 271 ∧ 0 ≤ x3 ∧ x3 ≤ 7 ∧ CY kp T g G h (3 + 5 * x3) q) (fun x0 x3 q => x0 = 271 ∧ 0 ≤ x3 ∧ x3 ≤ 35 ∧ CY kp T g G h (38 + x3) q) (fun x0 x3 q => x0 = 271 ∧ 0 ≤ x3 ∧ x3 ≤ 5 ∧ CY kp T g G h (73 + 2 * x3) q) (fun x0 x3 q => x0 = 271 ∧ 0 ≤ x3 ∧ x3 ≤ 6 ∧ CY kp T g G h (83 + 5 * x3) q) (fun _ q => CY kp T g G h 113 q) ?_ ?_ ?_ ?_ ?_
  · intro k1 ek1 k2 ek2 k3 ek3 z3 e3 v4 k4 hs4 k5 ek5 z5 e5 v6 k6 hs6 k7 ek7 z7 e7 v8 k8 hs8 k9 ek9
    have hO : ∀ c k, (c ≠ 271 ∨ (k ≠ 29 ∧ k ≠ 30 ∧ k ≠ 31)) → k3 c k = h c k := fun c k hc => by
      rw [ek3, ek2, ek1]
      rcases hc with r | r
      · rw [fu_c r, fu_c r, fu_c r]
      · rw [fu_k r.1, fu_k r.2.1, fu_k r.2.2]
    have c0 : CY kp T g G h 0 k3 := by
      refine ⟨?_, ?_, ?_, fun i j1 j2 => ?_, fun i j1 j2 j3 => ?_, fun c k hc1 hc => hO c k (by omega)⟩
      · rw [ek3, fu_e rfl rfl]
      · rw [ek3, fu_k (by omega), ek2, fu_e rfl rfl]
      · rw [ek3, fu_k (by omega), ek2, fu_k (by omega), ek1, fu_e rfl rfl]
      · have := mc_b j1 j2
        rw [if_neg (by omega), hO _ _ (by omega)]
        exact hR i j1 j2
      · rw [hO _ _ (by omega)]
        exact hG (by omega) i j1 j2
    have c1 := sr_carry hs4 c0 hT (by omega) (c := 271) (k := 0) (by decide) (by decide) e3 hg
    rw [← ek5] at c1
    have c2 := sr_carry hs6 c1 hT (by omega) (c := 271) (k := 15) (by decide) (by decide) e5 hg
    rw [← ek7] at c2
    have c3 := sr_carry hs8 c2 hT (by omega) (c := 271) (k := 9) (by decide) (by decide) e7 hg
    rw [← ek9] at c3
    exact ⟨rfl, by omega, by omega, c3⟩
  · rintro x0 x3 q ⟨rfl, i1, i2, c0⟩
    refine ⟨fun r => ⟨rfl, by omega, by omega, ?_⟩, fun r z2 e2 v1 k1 hs1 k2 ek2 z4 e4 v3 k3 hs3 k4 ek4 z6 e6 v5 k5 hs5 k6 ek6 z8 e8 v7 k7 hs7 k8 ek8 z10 e10 v9 k9 hs9 k10 ek10 z12 e12 => ?_⟩
    · rw [show (38 + 0 : Int) = 3 + 5 * x3 by omega]
      exact c0
    · have c1 := sr_carry hs1 c0 hT (by omega) (c := 272) (k := x3) (by unfold mc; omega) (by unfold ms; omega) e2 hg
      rw [← ek2] at c1
      have c2 := sr_carry hs3 c1 hT (by omega) (c := 273) (k := x3) (by unfold mc; omega) (by unfold ms; omega) e4 hg
      rw [← ek4] at c2
      have c3 := sr_carry hs5 c2 hT (by omega) (c := 274) (k := x3) (by unfold mc; omega) (by unfold ms; omega) e6 hg
      rw [← ek6] at c3
      have c4 := sr_carry hs7 c3 hT (by omega) (c := 275) (k := x3) (by unfold mc; omega) (by unfold ms; omega) e8 hg
      rw [← ek8] at c4
      have c5 := sr_carry hs9 c4 hT (by omega) (c := 276) (k := x3) (by unfold mc; omega) (by unfold ms; omega) e10 hg
      rw [← ek10] at c5
      rw [wr_id (by omega) (by omega)] at e12
      subst e12
      rw [show 3 + 5 * x3 + 1 + 1 + 1 + 1 + 1 = 3 + 5 * (x3 + 1) by omega] at c5
      exact ⟨rfl, by omega, by omega, c5⟩
  · rintro x0 x3 q ⟨rfl, i1, i2, c0⟩
    refine ⟨fun r => ⟨rfl, by omega, by omega, ?_⟩, fun r z2 e2 v1 k1 hs1 k2 ek2 z4 e4 => ?_⟩
    · rw [show (73 + 2 * 0 : Int) = 38 + x3 by omega]
      exact c0
    · have c1 := sr_carry hs1 c0 hT (by omega) (c := 277) (k := x3) (by unfold mc; omega) (by unfold ms; omega) e2 hg
      rw [← ek2] at c1
      rw [wr_id (by omega) (by omega)] at e4
      subst e4
      rw [show 38 + x3 + 1 = 38 + (x3 + 1) by omega] at c1
      exact ⟨rfl, by omega, by omega, c1⟩
  · rintro x0 x3 q ⟨rfl, i1, i2, c0⟩
    refine ⟨fun r => ⟨rfl, by omega, by omega, ?_⟩, fun r z2 e2 v1 k1 hs1 k2 ek2 z4 e4 v3 k3 hs3 k4 ek4 z6 e6 => ?_⟩
    · rw [show (83 + 5 * 0 : Int) = 73 + 2 * x3 by omega]
      exact c0
    · have c1 := sr_carry hs1 c0 hT (by omega) (c := 278) (k := x3) (by unfold mc; omega) (by unfold ms; omega) e2 hg
      rw [← ek2] at c1
      have c2 := sr_carry hs3 c1 hT (by omega) (c := 279) (k := x3) (by unfold mc; omega) (by unfold ms; omega) e4 hg
      rw [← ek4] at c2
      rw [wr_id (by omega) (by omega)] at e6
      subst e6
      rw [show 73 + 2 * x3 + 1 + 1 = 73 + 2 * (x3 + 1) by omega] at c2
      exact ⟨rfl, by omega, by omega, c2⟩
  · rintro x0 x3 q ⟨rfl, i1, i2, c0⟩
    refine ⟨fun r => ?_, fun r z2 e2 v1 k1 hs1 k2 ek2 z4 e4 v3 k3 hs3 k4 ek4 z6 e6 v5 k5 hs5 k6 ek6 z8 e8 v7 k7 hs7 k8 ek8 z10 e10 v9 k9 hs9 k10 ek10 z12 e12 => ?_⟩
    · rw [show (113 : Int) = 83 + 5 * x3 by omega]
      exact c0
    · have c1 := sr_carry hs1 c0 hT (by omega) (c := 280) (k := x3) (by unfold mc; omega) (by unfold ms; omega) e2 hg
      rw [← ek2] at c1
      have c2 := sr_carry hs3 c1 hT (by omega) (c := 281) (k := x3) (by unfold mc; omega) (by unfold ms; omega) e4 hg
      rw [← ek4] at c2
      have c3 := sr_carry hs5 c2 hT (by omega) (c := 282) (k := x3) (by unfold mc; omega) (by unfold ms; omega) e6 hg
      rw [← ek6] at c3
      have c4 := sr_carry hs7 c3 hT (by omega) (c := 283) (k := x3) (by unfold mc; omega) (by unfold ms; omega) e8 hg
      rw [← ek8] at c4
      have c5 := sr_carry hs9 c4 hT (by omega) (c := 284) (k := x3) (by unfold mc; omega) (by unfold ms; omega) e10 hg
      rw [← ek10] at c5
      rw [wr_id (by omega) (by omega)] at e12
      subst e12
      rw [show 83 + 5 * x3 + 1 + 1 + 1 + 1 + 1 = 83 + 5 * (x3 + 1) by omega] at c5
      exact ⟨rfl, by omega, by omega, c5⟩
/-- what neither laying down nor laying up touches -/
def frK (T : Int) (h h' : fH) : Prop := ∀ c k, c ≠ T → (c < 271 ∨ 284 < c ∨ (c = 271 ∧ k ≠ 0 ∧ k ≠ 15 ∧ k ≠ 9 ∧ k ≠ 29 ∧ k ≠ 30 ∧ k ≠ 31)) → h' c k = h c k
theorem CY_RM (hC : CY kp T g G h0 113 h) : RM h G := fun i j1 j2 => by
  rw [hC.2.2.2.1 i j1 j2, if_pos j2]
theorem sr_down (hs : fS 159 [271, T, 1] h v h') (hR : RM h g) (hT : 284 < T) : RM h' g ∧ (∀ i, 0 ≤ i → i < 113 → h' T i = g i) ∧ frK T h h' := by
  have c := sr_carryAll (G := g) hs hR hT (fun _ i _ _ => rfl) (fun q => by omega)
  exact ⟨CY_RM c, fun i j1 j2 => c.2.2.2.2.1 i j1 j2 (Or.inl j2), c.2.2.2.2.2⟩
theorem sr_up (hs : fS 159 [271, T, 0] h v h') (hG : ∀ i, 0 ≤ i → i < 113 → h T i = G i) (hT : 284 < T) : RM h' G ∧ (∀ i, 0 ≤ i → i < 113 → h' T i = G i) ∧ frK T h h' := by
  have c := sr_carryAll (g := fun i => h (mc i) (ms i)) (G := G) hs (fun i _ _ => rfl) hT (fun q => absurd rfl q) (fun _ => hG)
  exact ⟨CY_RM c, fun i j1 j2 => c.2.2.2.2.1 i j1 j2 (Or.inl j2), c.2.2.2.2.2⟩
end CA
