/-! days on, in mind: the class reckons it, the reference lets the days go by -/
noncomputable def dwS (g : gV) (p v : Int) : Prop := (v = -9 ∧ ∀ n : Nat, g 1 + n ≤ 5000 → dayN n g (7 + 5 * p) = 0) ∨ (0 ≤ v ∧ v ≤ 9 ∧ dayN v.toNat g (7 + 5 * p) ≠ 0 ∧ ∀ n : Nat, (n : Int) < v → dayN n g (7 + 5 * p) = 0)
section MD
variable {h h' : fH} {g g' : gV} {p o e s t j w q a b c d i v x y n : Int} {m k : Nat} {P : Int → Prop}
theorem wedF_9 (h1 : 0 ≤ x) : wedF x = -9 ↔ x = 0 := by
  unfold wedF
  split <;> omega
theorem hw_b (W : WF g) (x : hw g j p o e s t) : 0 ≤ o ∧ o < g 0 ∧ 0 ≤ p ∧ p < g 0 ∧ 0 ≤ e ∧ e < 5 ∧ 0 ≤ s ∧ s ≤ 1 ∧ 1 ≤ t ∧ t ≤ 9 := by
  obtain ⟨x1, x2, x3, x4, x5, x6⟩ := x
  have ww := W.wag x1 x2
  omega
theorem sc_dtw (hs : fS 83 [b, p] h v h') (R : RC h b g) (W : WF g) (hd : g 1 ≤ 4900) (p0 : 0 ≤ p) (p1 : p < g 0) : h' = h ∧ dwS g p v := by
  have wp := W.per p0 p1
  have hB := W.1
  refine vt_daysToWedding hs (fun v h' => h' = h ∧ dwS g p v) ?_
  intro z2 e2 z3 e3
  rw [e2, R.wed p0 p1] at e3
  refine ⟨fun q1 v1 k1 hs1 => ?_, fun q1 => ⟨rfl, Or.inr ⟨by omega, by omega, ?_, fun n hn => by omega⟩⟩⟩
  · have w0 : g (7 + 5 * p) = 0 := (wedF_9 (by omega)).mp (e3.symm.trans q1)
    obtain ⟨r0, r1⟩ := sc_wagerWith hs1 R W
    rw [r0]
    rcases r1 with ⟨r1, r2⟩ | ⟨r1, r2, r3, r4⟩
    · refine ⟨fun _ => ⟨rfl, Or.inl ⟨rfl, fun n hn => ?_⟩⟩, fun q => by omega⟩
      exact (((fateN W p0 p1 n hn).1 r2).2.1).trans w0
    · refine ⟨fun q => by omega, fun _ v2 k2 hs2 => ?_⟩
      have ww := W.wag r1 r2
      have hx : ∃ o, hw g v1 p o (g (85 + 5 * v1)) (g (86 + 5 * v1)) (g (87 + 5 * v1)) := by
        rcases r3 with r3 | r3
        · exact ⟨_, r1, r2, Or.inl ⟨r3, rfl⟩, rfl, rfl, rfl⟩
        · exact ⟨_, r1, r2, Or.inr ⟨r3, rfl⟩, rfl, rfl, rfl⟩
      obtain ⟨o, x⟩ := hx
      have xb := hw_b W x
      obtain ⟨s0, s1⟩ := sc_isLost hs2 R r1 r2 (by omega) (by omega) (by omega) (by omega) (by omega) (by omega)
      rw [s0]
      refine ⟨fun q => ⟨rfl, Or.inl ⟨rfl, fun n hn => ?_⟩⟩, fun q z6 e6 z7 e7 z8 e8 => ⟨rfl, Or.inr ?_⟩⟩
      · have hc : cmF g (g (85 + 5 * v1)) (g 1 + g (87 + 5 * v1)) ↔ g (86 + 5 * v1) = 1 := Classical.byContradiction (fun hn => s1.f q hn)
        obtain ⟨f1, f2⟩ := fateN W p0 p1 n hn
        by_cases ht : (n : Int) < g (87 + 5 * v1)
        · exact ((f2 _ _ _ _ _ x).1 ht).2.1.trans w0
        · exact (((f2 _ _ _ _ _ x).2 (by omega)).2.1 hc).1.trans w0
      · have hc := s1.t q
        unfold lsF at hc
        have rw4 := R.wg (w := v1) (j := 4) r1 r2 (by omega) (by omega)
        rw [e8, e7, e6, rw4, show 83 + 5 * v1 + 4 = 87 + 5 * v1 by omega]
        refine ⟨by omega, by omega, ?_, fun n hn => ?_⟩
        · obtain ⟨f1, f2⟩ := fateN W p0 p1 (g (87 + 5 * v1)).toNat (by omega)
          have := (((f2 _ _ _ _ _ x).2 (by omega)).2.2 hc).1
          omega
        · obtain ⟨f1, f2⟩ := fateN W p0 p1 n (by omega)
          exact ((f2 _ _ _ _ _ x).1 hn).2.1.trans w0
  · have : g (7 + 5 * p) ≠ 0 := fun q => q1 (e3.trans ((wedF_9 (by omega)).mpr q))
    exact this
-- the reference
end MD
