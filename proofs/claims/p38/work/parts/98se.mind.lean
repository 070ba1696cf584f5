/-! days on, in mind: the class reckons it, the reference lets the days go by -/
noncomputable def dwS (g : gV) (p v : Int) : Prop := (v = -9 ∧ ∀ n : Nat, g 1 + n ≤ 5000 → dayN n g (7 + 5 * p) = 0) ∨ (0 ≤ v ∧ v ≤ 9 ∧ dayN v.toNat g (7 + 5 * p) ≠ 0 ∧ ∀ n : Nat, (n : Int) < v → dayN n g (7 + 5 * p) = 0)
section MD
variable {h h' : fH} {g g' : gV} {p o e s t j w q a b c d i v x y n : Int} {m k : Nat} {P : Int → Prop}
/-- beliefs -/
theorem day_bel (W : WF g) (hd : g 1 ≤ 4999) (p0 : 0 ≤ p) (p1 : p < g 0) (e0 : 0 ≤ e) (e1 : e < 5) : dayF g (38 + 5 * p + e) = lnF (decide (cmF g e (g 1 + 1))) (g (38 + 5 * p + e)) (lrnF (g (3 + 5 * p))) := by
  have hB := W.1
  have W1 := WF_day1 (z := g 1 + 1) W (by omega)
  have K := (out_ok (hapF g (g 1 + 1)) (g 2).toNat 0 (gu g 1 (g 1 + 1)) W1 (by omega) (by rw [gu_n (by omega)]; omega)).2
  have k0 := K 0 (by omega)
  have kb := K (38 + 5 * p + e) (by omega)
  have k3 := K (3 + 5 * p) (by omega)
  rw [gu_n (by omega)] at k0 kb k3
  unfold dayF learnF
  rw [if_pos (by rw [k0]; omega), kb, show (38 + 5 * p + e - 38) % 5 = e by omega, show (38 + 5 * p + e - 38) / 5 = p by omega, k3]
  rfl
theorem sc_beliefOf (hs : fS 100 [b, p, e, n] h v h') (R : RC h b g) (W : WF g) (hd : g 1 ≤ 4900) (p0 : 0 ≤ p) (p1 : p < g 0) (e0 : 0 ≤ e) (e1 : e < 5) (n0 : 0 ≤ n) (n1 : g 1 + n ≤ 5000) : h' = h ∧ v = dayN n.toNat g (38 + 5 * p + e) := by
  have hB := W.1
  have we := W.evt e0 e1
  refine vt_beliefOf hs (fun x0 x1 x2 x3 x4 x5 q => x0 = b ∧ x1 = p ∧ x2 = e ∧ x3 = n ∧ q = h ∧ ∃ k : Nat, x5 = (k : Int) + 1 ∧ (k : Int) ≤ n ∧ x4 = dayN k g (38 + 5 * p + e)) (fun v h' => h' = h ∧ v = dayN n.toNat g (38 + 5 * p + e)) ?_ ?_
  · intro z4 e4 z5 e5 z6 e6
    refine ⟨rfl, rfl, rfl, rfl, rfl, 0, rfl, by omega, ?_⟩
    rw [e6, show z5 = b + 10 + p by omega]
    exact R.bel p0 p1 e0 e1
  · rintro x0 x1 x2 x3 x4 x5 q ⟨rfl, rfl, rfl, rfl, rfl, k, j1, j2, j3⟩
    refine ⟨fun q1 => ⟨rfl, ?_⟩, fun q1 z6 e6 z7 e7 z8 e8 z9 e9 z10 e10 z11 e11 z12 e12 z13 e13 z14 e14 z15 e15 => ?_⟩
    · rw [j3, toN (show x3 = (k : Int) by omega)]
    · rw [e6] at e7
      have e7 := e7.trans (R.lrn p0 p1)
      have e8 := e8.trans R.day
      rw [e10] at e11
      have e11 := e11.trans (R.on e0 e1)
      rw [e13] at e14
      have e14 := e14.trans (R.ev e0 e1)
      have f9 := wr_d e9 (by omega) (by omega)
      obtain ⟨w1, w2, w3⟩ := dayN_ok W k (by omega)
      obtain ⟨k1, k2⟩ := dayN_k W k (by omega)
      have wb := w1.bel (p := x1) (e := x2) p0 (by omega) e0 e1
      have lb := lrn_b (g (3 + 5 * x1))
      have dd : cmF (dayN k g) x2 (dayN k g 1 + 1) ↔ z15 = 0 := by
        rw [cmF_eq k1 e0 e1, e15, e12, f9, e8, e11, e14, show dayN k g 1 + 1 = g 1 + x5 by omega]
      have db := day_bel w1 (by omega) p0 (by omega) e0 e1
      rw [(k2 x1 p0 (by omega)).1] at db
      refine ⟨fun q2 v1 h1 hs1 z17 e17 => ?_, fun q2 v1 h1 hs1 z17 e17 => ?_⟩
      · obtain ⟨s0, s1⟩ := sc_learned hs1 (by omega) (by omega) (by omega) (by omega)
        have f17 := wr_d e17 (by omega) (by omega)
        refine ⟨rfl, rfl, rfl, rfl, s0, k + 1, by omega, by omega, ?_⟩
        rw [dayN_s, db, decide_eq_false (fun q => q2 (dd.mp q)), s1, e7, j3]
        rfl
      · obtain ⟨s0, s1⟩ := sc_learned hs1 (by omega) (by omega) (by omega) (by omega)
        have f17 := wr_d e17 (by omega) (by omega)
        refine ⟨rfl, rfl, rfl, rfl, s0, k + 1, by omega, by omega, ?_⟩
        rw [dayN_s, db, decide_eq_true (dd.mpr q2), s1, e7, j3]
        rfl
-- the reference
end MD
