/-! what small methods answer -/
def bR (v : Int) (P : Prop) : Prop := (v = 1 ∧ P) ∨ (v = 0 ∧ ¬ P)
theorem bR.eq {v w : Int} {P R : Prop} (h : bR v P) (h2 : bR w R) (hPR : P ↔ R) : v = w := by
  rcases h with ⟨q1, q2⟩ | ⟨q1, q2⟩ <;> rcases h2 with ⟨q3, q4⟩ | ⟨q3, q4⟩
  · omega
  · exact absurd (hPR.mp q2) q4
  · exact absurd (hPR.mpr q4) q2
  · omega
theorem bR.t {v : Int} {P : Prop} (h : bR v P) (hv : v ≠ 0) : P := by
  rcases h with ⟨q1, q2⟩ | ⟨q1, q2⟩
  · exact q2
  · exact absurd q1 hv
theorem bR.f {v : Int} {P : Prop} (h : bR v P) (hv : v = 0) : ¬ P := by
  rcases h with ⟨q1, q2⟩ | ⟨q1, q2⟩
  · omega
  · exact q2
def trF (g : gV) (p e s : Int) : Int := if s = 1 then g (38 + 5 * p + e) else 9 - g (38 + 5 * p + e)
def tkF (g : gV) (p f e s : Int) : Prop := g (5 + 5 * p) = f ∨ askF (g (3 + 5 * p)) (g (4 + 5 * p)) ≤ trF g p e s
def frF (g : gV) (p : Int) : Prop := g (7 + 5 * p) = 0 ∧ ∀ w, 0 ≤ w → w < g 2 → g (83 + 5 * w) ≠ p ∧ g (84 + 5 * w) ≠ p
def cbF (g : gV) (a b e s : Int) : Prop := frF g a ∧ frF g b ∧ trF g a e s ≤ 4 ∧ tkF g b a e s
def wwR (g : gV) (p v : Int) : Prop := (v = -9 ∧ ∀ w, 0 ≤ w → w < g 2 → g (83 + 5 * w) ≠ p ∧ g (84 + 5 * w) ≠ p) ∨ (0 ≤ v ∧ v < g 2 ∧ (g (83 + 5 * v) = p ∨ g (84 + 5 * v) = p) ∧ ∀ w, 0 ≤ w → w < v → g (83 + 5 * w) ≠ p ∧ g (84 + 5 * w) ≠ p)
abbrev cmF (g : gV) (e d : Int) : Prop := xrem (wr (d + g (74 + 2 * e))) (g (73 + 2 * e)) = 0
section PU
variable {h h' : fH} {b v : Int} {g g' : gV} {p e w s f d : Int}
theorem WF.per (W : WF g) (h1 : 0 ≤ p) (h2 : p < g 0) : 0 ≤ g (3 + 5 * p) ∧ g (3 + 5 * p) ≤ 5 ∧ 0 ≤ g (4 + 5 * p) ∧ g (4 + 5 * p) ≤ 9 ∧ 0 ≤ g (5 + 5 * p) ∧ g (5 + 5 * p) ≤ 6 ∧ 0 ≤ g (6 + 5 * p) ∧ g (6 + 5 * p) ≤ 99 ∧ 0 ≤ g (7 + 5 * p) ∧ g (7 + 5 * p) ≤ g 0 := W.2.1 p h1 h2
theorem WF.bel (W : WF g) (h1 : 0 ≤ p) (h2 : p < g 0) (h3 : 0 ≤ e) (h4 : e < 5) : 0 ≤ g (38 + 5 * p + e) ∧ g (38 + 5 * p + e) ≤ 9 := W.2.2.1 p e h1 h2 h3 h4
theorem WF.evt (W : WF g) (h3 : 0 ≤ e) (h4 : e < 5) : 1 ≤ g (73 + 2 * e) ∧ g (73 + 2 * e) ≤ 9 ∧ 0 ≤ g (74 + 2 * e) ∧ g (74 + 2 * e) ≤ 8 := W.2.2.2.1 e h3 h4
theorem WF.wag (W : WF g) (h1 : 0 ≤ w) (h2 : w < g 2) : 0 ≤ g (83 + 5 * w) ∧ g (83 + 5 * w) < g 0 ∧ 0 ≤ g (84 + 5 * w) ∧ g (84 + 5 * w) < g 0 ∧ g (83 + 5 * w) ≠ g (84 + 5 * w) ∧ 0 ≤ g (85 + 5 * w) ∧ g (85 + 5 * w) < 5 ∧ 0 ≤ g (86 + 5 * w) ∧ g (86 + 5 * w) ≤ 1 ∧ 1 ≤ g (87 + 5 * w) ∧ g (87 + 5 * w) ≤ 9 ∧ g (7 + 5 * g (83 + 5 * w)) = 0 ∧ g (7 + 5 * g (84 + 5 * w)) = 0 := W.2.2.2.2.1 w h1 h2
theorem xdiv_nn {a c : Int} (h1 : 0 ≤ a) (h2 : a ≤ 2147483647) (h3 : 0 < c) : xdiv a c = a / c := by
  unfold xdiv
  rw [Int.tdiv_eq_ediv_of_nonneg h1]
  have h4 : a / c ≤ a := Int.ediv_le_self c h1
  have h5 : 0 ≤ a / c := Int.ediv_nonneg h1 (by omega)
  exact wr_id (by omega) (by omega)
theorem xrem_nn {a c : Int} (h1 : 0 ≤ a) (h2 : a ≤ 2147483647) (h3 : 0 < c) : xrem a c = a % c := by
  unfold xrem
  rw [Int.tdiv_eq_ediv_of_nonneg h1]
  have h4 : a / c ≤ a := Int.ediv_le_self c h1
  have h5 : 0 ≤ a / c := Int.ediv_nonneg h1 (by omega)
  rw [wr_id (z := a / c) (by omega) (by omega)]
  have h6 : a / c * c + a % c = a := Int.ediv_mul_add_emod a c
  have h7 : 0 ≤ a % c := Int.emod_nonneg a (by omega)
  have h8 : 0 ≤ a / c * c := Int.mul_nonneg h5 (by omega)
  rw [wr_id (z := a / c * c) (by omega) (by omega), wr_id (by omega) (by omega)]
  omega
theorem sc_trust (hs : fS 60 [b, p, e, s] h v h') (hR : RC h b g) (W : WF g) (h1 : 0 ≤ p) (h2 : p < g 0) (h3 : 0 ≤ e) (h4 : e < 5) : h' = h ∧ v = trF g p e s := by
  have hb := W.bel h1 h2 h3 h4
  refine vt_trust hs (fun v h' => h' = h ∧ v = trF g p e s) ⟨?_, ?_⟩
  · intro q z4 e4 z5 e5 z6 e6 z7 e7
    subst e4 e5 e6 e7
    rw [ofm9, hR.bel h1 h2 h3 h4, wr_id (by omega) (by omega)]
    exact ⟨rfl, (if_neg q).symm⟩
  · intro q z4 e4 z5 e5 z6 e6
    subst e4 e5 e6
    rw [ofm9, hR.bel h1 h2 h3 h4]
    exact ⟨rfl, (if_pos q).symm⟩
theorem sr_trustOf (hs : fS 168 [271, p, e, s] h v h') (hR : RM h g) (W : WF g) (h1 : 0 ≤ p) (h2 : p < g 0) (h3 : 0 ≤ e) (h4 : e < 5) : h' = h ∧ v = trF g p e s := by
  have hb := W.bel h1 h2 h3 h4
  have hn := W.bg
  unfold BG at hn
  have hB : h 277 (5 * p + e) = g (38 + 5 * p + e) := by
    rw [hR.bel (by omega) (by omega)]
    exact congrArg g (by omega)
  refine vr_trustOf hs (fun v h' => h' = h ∧ v = trF g p e s) ⟨?_, ?_⟩
  · intro q
    intros
    subst_vars
    simp (disch := omega) only [wr_id]
    rw [hB]
    exact ⟨trivial, (if_neg q).symm⟩
  · intro q
    intros
    subst_vars
    simp (disch := omega) only [wr_id]
    rw [hB]
    exact ⟨trivial, (if_pos rfl).symm⟩
theorem sc_wouldTake (hs : fS 61 [b, p, f, e, s] h v h') (hR : RC h b g) (W : WF g) (h1 : 0 ≤ p) (h2 : p < g 0) (h3 : 0 ≤ e) (h4 : e < 5) : h' = h ∧ bR v (tkF g p f e s) := by
  refine vt_wouldTake hs (fun v h' => h' = h ∧ bR v (tkF g p f e s)) ?_
  intro z5 e5 z6 e6
  subst e5 e6
  rw [hR.wish h1 h2]
  refine ⟨fun q => ⟨rfl, Or.inl ⟨rfl, Or.inl q⟩⟩, fun q v1 h1' hs1 z8 e8 z9 e9 => ?_⟩
  obtain ⟨rfl, rfl⟩ := sc_trust hs1 hR W h1 h2 h3 h4
  subst e8 e9
  rw [hR.ask h1 h2]
  refine ⟨fun q2 => ⟨rfl, Or.inr ⟨rfl, ?_⟩⟩, fun q2 => ⟨rfl, Or.inl ⟨rfl, Or.inr q2⟩⟩⟩
  rintro (q3 | q3)
  · exact q q3
  · omega
theorem sc_wagerWith (hs : fS 59 [b, p] h v h') (hR : RC h b g) (W : WF g) : h' = h ∧ wwR g p v := by
  have hn := W.bg
  unfold BG at hn
  refine vt_wagerWith hs (fun x0 x1 x2 k => x0 = b ∧ x1 = p ∧ k = h ∧ 0 ≤ x2 ∧ x2 ≤ g 2 ∧ ∀ w, 0 ≤ w → w < x2 → g (83 + 5 * w) ≠ p ∧ g (84 + 5 * w) ≠ p) (fun v h' => h' = h ∧ wwR g p v) ⟨rfl, rfl, rfl, by omega, by omega, fun w h1 h2 => by omega⟩ ?_
  rintro x0 x1 x2 k ⟨rfl, rfl, rfl, i1, i2, i3⟩ z3 e3
  subst e3
  rw [hR.opn]
  refine ⟨fun q => ⟨rfl, Or.inl ⟨rfl, fun w h1 h2 => i3 w h1 (by omega)⟩⟩, fun q z4 e4 z5 e5 z6 e6 => ?_⟩
  subst e4 e5 e6
  have w0 := hR.wg i1 q (j := 0) (by omega) (by omega)
  have w1 := hR.wg i1 q (j := 1) (by omega) (by omega)
  rw [show 83 + 5 * x2 + 0 = 83 + 5 * x2 by omega] at w0
  rw [show 83 + 5 * x2 + 1 = 84 + 5 * x2 by omega] at w1
  rw [w0]
  refine ⟨fun q2 => ⟨rfl, Or.inr ⟨i1, q, Or.inl q2, i3⟩⟩, fun q2 z7 e7 z8 e8 z9 e9 => ?_⟩
  subst e7 e8 e9
  rw [w1]
  refine ⟨fun q3 z10 e10 => ?_, fun q3 => ⟨rfl, Or.inr ⟨i1, q, Or.inr q3, i3⟩⟩⟩
  rw [wr_id (by omega) (by omega)] at e10
  subst e10
  refine ⟨rfl, rfl, rfl, by omega, by omega, fun w h1 h2 => ?_⟩
  by_cases hw : w = x2
  · subst hw
    exact ⟨q2, q3⟩
  · exact i3 w h1 (by omega)
theorem sc_isFree (hs : fS 57 [b, p] h v h') (hR : RC h b g) (W : WF g) (h1 : 0 ≤ p) (h2 : p < g 0) : h' = h ∧ bR v (frF g p) := by
  have hw := W.per h1 h2
  refine vt_isFree hs (fun v h' => h' = h ∧ bR v (frF g p)) ?_
  intro z2 e2 z3 e3
  subst e2 e3
  rw [hR.wed h1 h2]
  refine ⟨fun q v1 k hs1 => ?_, fun q => ⟨rfl, Or.inr ⟨rfl, fun q2 => q ?_⟩⟩⟩
  · have q0 : g (7 + 5 * p) = 0 := by
      unfold wedF at q
      split at q <;> omega
    obtain ⟨rfl, hv⟩ := sc_wagerWith hs1 hR W
    refine ⟨fun q2 => ⟨rfl, Or.inr ⟨rfl, fun q3 => ?_⟩⟩, fun q2 => ⟨rfl, Or.inl ⟨rfl, q0, ?_⟩⟩⟩
    · rcases hv with ⟨r1, r2⟩ | ⟨r1, r2, r3, r4⟩
      · omega
      · have := q3.2 v1 r1 r2
        omega
    · rcases hv with ⟨r1, r2⟩ | ⟨r1, r2, r3, r4⟩
      · exact r2
      · omega
  · unfold wedF
    rw [if_pos q2.1]
theorem sc_canBe {a c : Int} (hs : fS 56 [b, a, c, e, s] h v h') (hR : RC h b g) (W : WF g) (h1 : 0 ≤ a) (h2 : a < g 0) (h3 : 0 ≤ c) (h4 : c < g 0) (h5 : 0 ≤ e) (h6 : e < 5) : h' = h ∧ bR v (cbF g a c e s) := by
  refine vt_canBe hs (fun v h' => h' = h ∧ bR v (cbF g a c e s)) ?_
  intro v1 k1 hs1
  obtain ⟨rfl, r1⟩ := sc_isFree hs1 hR W h1 h2
  refine ⟨fun q => ⟨rfl, Or.inr ⟨rfl, fun q2 => r1.f q q2.1⟩⟩, fun q v2 k2 hs2 => ?_⟩
  obtain ⟨rfl, r2⟩ := sc_isFree hs2 hR W h3 h4
  refine ⟨fun q2 => ⟨rfl, Or.inr ⟨rfl, fun q3 => r2.f q2 q3.2.1⟩⟩, fun q2 v3 k3 hs3 => ?_⟩
  obtain ⟨rfl, rfl⟩ := sc_trust hs3 hR W h1 h2 h5 h6
  refine ⟨fun q3 => ⟨rfl, Or.inr ⟨rfl, fun q4 => absurd q4.2.2.1 (by omega)⟩⟩, fun q3 v4 k4 hs4 => ?_⟩
  obtain ⟨rfl, r4⟩ := sc_wouldTake hs4 hR W h3 h4 h5 h6
  exact ⟨fun q4 => ⟨rfl, Or.inr ⟨rfl, fun q5 => r4.f q4 q5.2.2.2⟩⟩, fun q4 => ⟨rfl, Or.inl ⟨rfl, r1.t q, r2.t q2, q3, r4.t q4⟩⟩⟩
end PU
