/-! bets, wooers -/
noncomputable def okB (g : gV) (a c d e s : Int) : Prop := cbF g a c e s ∧ ¬ (cmF g e (g 1 + d) ↔ s = 1)
noncomputable def rgB (d e s : Int) : Prop := 1 ≤ d ∧ d ≤ 9 ∧ 0 ≤ e ∧ e < 5 ∧ 0 ≤ s ∧ s ≤ 1
noncomputable def betE (g : gV) (a c : Int) : Prop := ∃ d e s, rgB d e s ∧ okB g a c d e s
noncomputable def betR (g : gV) (a c v : Int) : Prop := (v = -9 ∧ ¬ betE g a c) ∨ (∃ d e s, rgB d e s ∧ okB g a c d e s ∧ v = 100 * e + 10 * s + d ∧ ∀ d' e' s', rgB d' e' s' → (d' < d ∨ (d' = d ∧ e' < e)) → ¬ okB g a c d' e' s')
section BE
variable {h h' : fH} {g g' : gV} {p o e s t j w q a b c d i v x y n : Int} {m k : Nat}
theorem betR.ne (x : betR g a c v) : (v ≠ -9 ↔ betE g a c) ∧ (0 ≤ v ↔ betE g a c) := by
  rcases x with ⟨x1, x2⟩ | ⟨d, e, s, x1, x2, x3, x4⟩
  · exact ⟨⟨fun q => absurd x1 q, fun q => absurd q x2⟩, ⟨fun q => by omega, fun q => absurd q x2⟩⟩
  · have hb : betE g a c := ⟨d, e, s, x1, x2⟩
    unfold rgB at x1
    exact ⟨⟨fun _ => hb, fun _ => by omega⟩, ⟨fun _ => hb, fun _ => by omega⟩⟩
theorem sc_bestBet (hs : fS 107 [b, a, c] h v h') (R : RC h b g) (W : WF g) (hd : g 1 ≤ 4900) (a0 : 0 ≤ a) (a1 : a < g 0) (c0 : 0 ≤ c) (c1 : c < g 0) : h' = h ∧ betR g a c v := by
  have hB := W.1
  refine vt_bestBet hs (fun x0 x1 x2 x3 q => x0 = b ∧ x1 = a ∧ x2 = c ∧ q = h ∧ 1 ≤ x3 ∧ x3 ≤ 10 ∧ ∀ d' e' s', rgB d' e' s' → d' < x3 → ¬ okB g a c d' e' s') (fun x0 x1 x2 x3 x4 q => x0 = b ∧ x1 = a ∧ x2 = c ∧ q = h ∧ 1 ≤ x3 ∧ x3 ≤ 9 ∧ 0 ≤ x4 ∧ x4 ≤ 5 ∧ ∀ d' e' s', rgB d' e' s' → (d' < x3 ∨ (d' = x3 ∧ e' < x4)) → ¬ okB g a c d' e' s') (fun v h' => h' = h ∧ betR g a c v) ?_ ?_ ?_
  · exact ⟨rfl, rfl, rfl, rfl, by omega, by omega, fun d' e' s' r q => by unfold rgB at r; omega⟩
  · rintro x0 x1 x2 x3 q ⟨rfl, rfl, rfl, rfl, i1, i2, i3⟩
    refine ⟨fun q1 => ⟨rfl, Or.inl ⟨rfl, fun ⟨d, e, s, r1, r2⟩ => i3 d e s r1 (by unfold rgB at r1; omega) r2⟩⟩, fun q1 => ⟨rfl, rfl, rfl, rfl, i1, q1, by omega, by omega, fun d' e' s' r q => i3 d' e' s' r (by unfold rgB at r; omega)⟩⟩
  · rintro x0 x1 x2 x3 x4 q ⟨rfl, rfl, rfl, rfl, i1, i2, i3, i4, i5⟩
    refine ⟨fun q1 z5 e5 => ?_, fun q1 z5 e5 z6 e6 z7 e7 z8 e8 z9 e9 z10 e10 z11 e11 z12 e12 => ?_⟩
    · have f5 := wr_d e5 (by omega) (by omega)
      exact ⟨rfl, rfl, rfl, rfl, by omega, by omega, fun d' e' s' r q => i5 d' e' s' r (by unfold rgB at r; omega)⟩
    · have e5 := e5.trans R.day
      have f6 := wr_d e6 (by omega) (by omega)
      rw [e7] at e8
      have e8 := e8.trans (R.on i3 q1)
      rw [e10] at e11
      have e11 := e11.trans (R.ev i3 q1)
      rw [e9, f6, e5, e8, e11] at e12
      have nx : ∀ {k1 : fH} {v1 z14 s0 : Int}, fS 56 [x0, x1, x2, x4, s0] q v1 k1 → v1 = 0 → (¬ (cmF g x4 (g 1 + x3) ↔ 1 - s0 = 1) → False) → 0 ≤ s0 → s0 ≤ 1 → z14 = wr (x4 + 1) → x0 = x0 ∧ x1 = x1 ∧ x2 = x2 ∧ k1 = q ∧ 1 ≤ x3 ∧ x3 ≤ 9 ∧ 0 ≤ z14 ∧ z14 ≤ 5 ∧ ∀ d' e' s', rgB d' e' s' → (d' < x3 ∨ (d' = x3 ∧ e' < z14)) → ¬ okB g x1 x2 d' e' s' := fun {k1 v1 z14 s0} hs1 hv hn s00 s01 e14 => by
        obtain ⟨r0, r1⟩ := sc_canBe hs1 R W a0 a1 c0 c1 i3 q1
        have f14 := wr_d e14 (by omega) (by omega)
        refine ⟨rfl, rfl, rfl, r0, i1, i2, by omega, by omega, fun d' e' s' r q => ?_⟩
        by_cases hh : d' = x3 ∧ e' = x4
        · intro ok
          rw [hh.1, hh.2] at ok
          unfold rgB at r
          by_cases hs0 : s' = s0
          · rw [hs0] at ok
            exact r1.f hv ok.1
          · rw [show s' = 1 - s0 by omega] at ok
            exact hn ok.2
        · exact i5 d' e' s' r (by omega)
      have yes : ∀ {k1 : fH} {v1 z14 z15 z16 z17 s0 : Int}, fS 56 [x0, x1, x2, x4, s0] q v1 k1 → v1 ≠ 0 → ¬ (cmF g x4 (g 1 + x3) ↔ s0 = 1) → 0 ≤ s0 → s0 ≤ 1 → z14 = wr (100 * x4) → z15 = wr (10 * s0) → z16 = wr (z14 + z15) → z17 = wr (z16 + x3) → k1 = q ∧ betR g x1 x2 z17 := fun {k1 v1 z14 z15 z16 z17 s0} hs1 hv hn s00 s01 e14 e15 e16 e17 => by
        obtain ⟨r0, r1⟩ := sc_canBe hs1 R W a0 a1 c0 c1 i3 q1
        have f14 := wr_d e14 (by omega) (by omega)
        have f15 := wr_d e15 (by omega) (by omega)
        have f16 := wr_d e16 (by omega) (by omega)
        have f17 := wr_d e17 (by omega) (by omega)
        exact ⟨r0, Or.inr ⟨x3, x4, s0, ⟨i1, i2, i3, q1, s00, s01⟩, ⟨r1.t hv, hn⟩, by omega, fun d' e' s' r q => i5 d' e' s' r q⟩⟩
      refine ⟨fun q2 v1 k1 hs1 => ?_, fun q2 v1 k1 hs1 => ?_⟩
      · have nc : ¬ cmF g x4 (g 1 + x3) := fun q => q2 (e12.trans q)
        exact ⟨fun q3 z14 e14 => nx hs1 q3 (fun q => q ⟨fun q4 => absurd q4 nc, fun q4 => by omega⟩) (by omega) (by omega) e14, fun q3 z14 e14 z15 e15 z16 e16 z17 e17 => yes hs1 q3 (fun q => nc (q.mpr rfl)) (by omega) (by omega) e14 e15 e16 e17⟩
      · have nc : cmF g x4 (g 1 + x3) := e12.symm.trans q2
        exact ⟨fun q3 z14 e14 => nx hs1 q3 (fun q => q ⟨fun q4 => by omega, fun q4 => nc⟩) (by omega) (by omega) e14, fun q3 z14 e14 z15 e15 z16 e16 z17 e17 => yes hs1 q3 (fun q => absurd (q.mp nc) (by omega)) (by omega) (by omega) e14 e15 e16 e17⟩
theorem sr_isLost (hs : fS 210 [271, e, s, d] h v h') (R : RM h g) (e0 : 0 ≤ e) (e1 : e < 5) : h' = h ∧ bR v (¬ (cmF g e d ↔ s = 1)) := by
  refine vr_isLost hs (fun v h' => h' = h ∧ bR v (¬ (cmF g e d ↔ s = 1))) ?_
  intro z4 e4 z5 e5 z6 e6 z7 e7
  have e4 := e4.trans (R.on e0 e1)
  have e6 := e6.trans (R.ev e0 e1)
  rw [e5, e4, e6] at e7
  refine ⟨fun q1 => ?_, fun q1 => ?_⟩
  · have nc : ¬ cmF g e d := fun q => q1 (e7.trans q)
    exact ⟨fun q2 => ⟨rfl, Or.inr ⟨rfl, fun q => q ⟨fun q3 => absurd q3 nc, fun q3 => absurd q3 q2⟩⟩⟩, fun q2 => ⟨rfl, Or.inl ⟨rfl, fun q => nc (q.mpr q2)⟩⟩⟩
  · have nc : cmF g e d := e7.symm.trans q1
    exact ⟨fun q2 => ⟨rfl, Or.inl ⟨rfl, fun q => q2 (q.mp nc)⟩⟩, fun q2 => ⟨rfl, Or.inr ⟨rfl, fun q => q ⟨fun _ => q2, fun _ => nc⟩⟩⟩⟩
theorem sr_betOf (hs : fS 209 [271, a, c] h v h') (R : RM h g) (W : WF g) (hd : g 1 ≤ 4900) (a0 : 0 ≤ a) (a1 : a < g 0) (c0 : 0 ≤ c) (c1 : c < g 0) : h' = h ∧ betR g a c v := by
  have hB := W.1
  refine vr_betOf hs (fun x0 x1 x2 x3 q => x0 = 271 ∧ x1 = a ∧ x2 = c ∧ q = h ∧ 1 ≤ x3 ∧ x3 ≤ 10 ∧ ∀ d' e' s', rgB d' e' s' → d' < x3 → ¬ okB g a c d' e' s') (fun x0 x1 x2 x3 x4 q => x0 = 271 ∧ x1 = a ∧ x2 = c ∧ q = h ∧ 1 ≤ x3 ∧ x3 ≤ 9 ∧ 0 ≤ x4 ∧ x4 ≤ 10 ∧ ∀ d' e' s', rgB d' e' s' → (d' < x3 ∨ (d' = x3 ∧ 2 * e' + s' < x4)) → ¬ okB g a c d' e' s') (fun v h' => h' = h ∧ betR g a c v) ?_ ?_ ?_
  · exact ⟨rfl, rfl, rfl, rfl, by omega, by omega, fun d' e' s' r q => by unfold rgB at r; omega⟩
  · rintro x0 x1 x2 x3 q ⟨rfl, rfl, rfl, rfl, i1, i2, i3⟩
    refine ⟨fun q1 => ⟨rfl, Or.inl ⟨rfl, fun ⟨d, e, s, r1, r2⟩ => i3 d e s r1 (by unfold rgB at r1; omega) r2⟩⟩, fun q1 => ⟨rfl, rfl, rfl, rfl, i1, by omega, by omega, by omega, fun d' e' s' r q => i3 d' e' s' r (by unfold rgB at r; omega)⟩⟩
  · rintro x0 x1 x2 x3 x4 q ⟨rfl, rfl, rfl, rfl, i1, i2, i3, i4, i5⟩
    refine ⟨fun q1 z5 e5 => ?_, fun q1 z5 e5 z6 e6 v1 k1 hs1 => ?_⟩
    · have f5 := wr_d e5 (by omega) (by omega)
      exact ⟨rfl, rfl, rfl, rfl, by omega, by omega, fun d' e' s' r q => i5 d' e' s' r (by unfold rgB at r; omega)⟩
    · rw [xdiv_nn i3 (by omega) (by omega)] at e5
      rw [xrem_nn i3 (by omega) (by omega)] at e6
      obtain ⟨r0, r1⟩ := sr_couldBe hs1 R W a0 a1 c0 c1 (by omega) (by omega)
      rw [r0]
      have nx : ¬ okB g x1 x2 x3 z5 z6 → ∀ {z : Int}, z = wr (x4 + 1) → (271 : Int) = 271 ∧ x1 = x1 ∧ x2 = x2 ∧ q = q ∧ 1 ≤ x3 ∧ x3 ≤ 9 ∧ 0 ≤ z ∧ z ≤ 10 ∧ ∀ d' e' s', rgB d' e' s' → (d' < x3 ∨ (d' = x3 ∧ 2 * e' + s' < z)) → ¬ okB g x1 x2 d' e' s' := fun hn {z} ez => by
        have fz := wr_d ez (by omega) (by omega)
        refine ⟨rfl, rfl, rfl, rfl, i1, i2, by omega, by omega, fun d' e' s' r q => ?_⟩
        by_cases hh : d' = x3 ∧ 2 * e' + s' = x4
        · unfold rgB at r
          rw [hh.1, show e' = z5 by omega, show s' = z6 by omega]
          exact hn
        · exact i5 d' e' s' r (by omega)
      refine ⟨fun q2 z8 e8 => nx (fun ok => r1.f q2 ok.1) e8, fun q2 z8 e8 z9 e9 z10 e10 z11 e11 v2 k2 hs2 => ?_⟩
      rw [xdiv_nn i3 (by omega) (by omega)] at e8
      rw [xrem_nn i3 (by omega) (by omega)] at e9
      have e10 := e10.trans R.day
      have f11 := wr_d e11 (by omega) (by omega)
      obtain ⟨s0, s1⟩ := sr_isLost hs2 R (by omega) (by omega)
      rw [f11, e10, show z8 = z5 by omega, show z9 = z6 by omega] at s1
      rw [s0]
      refine ⟨fun q3 z13 e13 => nx (fun ok => s1.f q3 ok.2) e13, fun q3 z13 e13 z14 e14 z15 e15 z16 e16 z17 e17 z18 e18 => ⟨rfl, ?_⟩⟩
      rw [xdiv_nn i3 (by omega) (by omega)] at e13
      rw [xrem_nn i3 (by omega) (by omega)] at e15
      have f14 := wr_d e14 (by omega) (by omega)
      have f16 := wr_d e16 (by omega) (by omega)
      have f17 := wr_d e17 (by omega) (by omega)
      have f18 := wr_d e18 (by omega) (by omega)
      refine Or.inr ⟨x3, z5, z6, ⟨i1, i2, by omega, by omega, by omega, by omega⟩, ⟨r1.t q2, s1.t q3⟩, by omega, fun d' e' s' r q => i5 d' e' s' r ?_⟩
      unfold rgB at r
      omega
theorem sc_wooerBits (hs : fS 110 [b, p] h v h') (R : RC h b g) (W : WF g) (hd : g 1 ≤ 4900) (p0 : 0 ≤ p) (p1 : p < g 0) : h' = h ∧ v = btF (fun o => o ≠ p ∧ betE g o p) (g 0).toNat := by
  have hB := W.1
  have jm := R.many
  refine vt_wooerBits hs (fun x0 x1 x2 x3 q => x0 = b ∧ x1 = p ∧ q = h ∧ ∃ k : Nat, x3 = (k : Int) ∧ (k : Int) ≤ g 0 ∧ BT (fun o => o ≠ p ∧ betE g o p) k x2) (fun v h' => h' = h ∧ v = btF (fun o => o ≠ p ∧ betE g o p) (g 0).toNat) ?_ ?_
  · exact ⟨rfl, rfl, rfl, 0, rfl, by omega, rfl⟩
  · rintro x0 x1 x2 x3 q ⟨rfl, rfl, rfl, k, j1, j2, j3⟩ z4 e4
    rw [jm] at e4
    refine ⟨fun q1 => ⟨rfl, ?_⟩, fun q1 => ⟨fun q2 z5 e5 => ?_, fun q2 v1 k1 hs1 => ?_⟩⟩
    · rw [toN (show g 0 = (k : Int) by omega)]
      exact j3.eq
    · have f5 := wr_d e5 (by omega) (by omega)
      exact ⟨rfl, rfl, rfl, k + 1, by omega, by omega, j3.n j1 (fun q => q.1 q2)⟩
    · obtain ⟨r0, r1⟩ := sc_bestBet hs1 R W hd (by omega) (by omega) p0 p1
      have r2 := r1.ne.1
      rw [r0]
      refine ⟨fun q3 z6 e6 => ?_, fun q3 z6 e6 z7 e7 z8 e8 => ?_⟩
      · have f6 := wr_d e6 (by omega) (by omega)
        exact ⟨rfl, rfl, rfl, k + 1, by omega, by omega, j3.n j1 (fun q => r2.mpr q.2 q3)⟩
      · have f8 := wr_d e8 (by omega) (by omega)
        exact ⟨rfl, rfl, rfl, k + 1, by omega, by omega, j3.y j1 ⟨q2, r2.mp q3⟩ e6 e7⟩
theorem sr_wooersOf (hs : fS 213 [271, p] h v h') (R : RM h g) (W : WF g) (hd : g 1 ≤ 4900) (p0 : 0 ≤ p) (p1 : p < g 0) : h' = h ∧ v = btF (fun o => o ≠ p ∧ betE g o p) (g 0).toNat := by
  have hB := W.1
  refine vr_wooersOf hs (fun x0 x1 x2 x3 q => x0 = 271 ∧ x1 = p ∧ q = h ∧ ∃ k : Nat, x3 = (k : Int) ∧ (k : Int) ≤ g 0 ∧ BT (fun o => o ≠ p ∧ betE g o p) k x2) (fun v h' => h' = h ∧ v = btF (fun o => o ≠ p ∧ betE g o p) (g 0).toNat) ?_ ?_
  · exact ⟨rfl, rfl, rfl, 0, rfl, by omega, rfl⟩
  · rintro x0 x1 x2 x3 q ⟨rfl, rfl, rfl, k, j1, j2, j3⟩ z4 e4
    rw [R.many] at e4
    refine ⟨fun q1 => ⟨rfl, ?_⟩, fun q1 => ⟨fun q2 z5 e5 z6 e6 => ?_, fun q2 v1 k1 hs1 => ?_⟩⟩
    · rw [toN (show g 0 = (k : Int) by omega)]
      exact j3.eq
    · have f6 := wr_d e6 (by omega) (by omega)
      exact ⟨rfl, rfl, rfl, k + 1, by omega, by omega, j3.n0 j1 (fun q => q.1 q2) e5⟩
    · obtain ⟨r0, r1⟩ := sr_betOf hs1 R W hd (by omega) (by omega) p0 p1
      have r2 := r1.ne.2
      rw [r0]
      refine ⟨fun q3 z6 e6 z7 e7 => ?_, fun q3 z6 e6 z7 e7 z8 e8 => ?_⟩
      · have f7 := wr_d e7 (by omega) (by omega)
        exact ⟨rfl, rfl, rfl, k + 1, by omega, by omega, j3.n0 j1 (fun q => absurd (r2.mpr q.2) (by omega)) e6⟩
      · have f8 := wr_d e8 (by omega) (by omega)
        exact ⟨rfl, rfl, rfl, k + 1, by omega, by omega, j3.y j1 ⟨q2, r2.mp q3⟩ e6 e7⟩
end BE
