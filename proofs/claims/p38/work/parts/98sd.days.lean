/-! what becomes of one person as days go by -/
noncomputable def hw (g : gV) (j p o e s t : Int) : Prop := 0 ≤ j ∧ j < g 2 ∧ ((g (83 + 5 * j) = p ∧ g (84 + 5 * j) = o) ∨ (g (84 + 5 * j) = p ∧ g (83 + 5 * j) = o)) ∧ g (85 + 5 * j) = e ∧ g (86 + 5 * j) = s ∧ g (87 + 5 * j) = t
noncomputable def sameF (g G : gV) (p : Int) : Prop := G (7 + 5 * p) = g (7 + 5 * p) ∧ G (6 + 5 * p) = g (6 + 5 * p)
section FA
variable {g g' G X : gV} {p o e s t j j' o' e' s' t' w q a c d i : Int} {H : Int → Bool}
theorem sameF.rf (g : gV) (p : Int) : sameF g g p := ⟨rfl, rfl⟩
theorem sameF.tr {g1 g2 g3 : gV} (x : sameF g1 g2 p) (y : sameF g2 g3 p) : sameF g1 g3 p := ⟨y.1.trans x.1, y.2.trans x.2⟩
theorem dayN_s (n : Nat) (g : gV) : dayN (n + 1) g = dayF (dayN n g) := rfl
/-- what never changes as days go by -/
theorem dayN_k (W : WF g) : ∀ n : Nat, g 1 + n ≤ 5000 → (∀ i, 73 ≤ i → i < 83 → dayN n g i = g i) ∧ ∀ p, 0 ≤ p → p < 7 → dayN n g (3 + 5 * p) = g (3 + 5 * p) ∧ dayN n g (4 + 5 * p) = g (4 + 5 * p) ∧ dayN n g (5 + 5 * p) = g (5 + 5 * p)
  | 0, _ => ⟨fun _ _ _ => rfl, fun _ _ _ => ⟨rfl, rfl, rfl⟩⟩
  | n + 1, hn => by
    obtain ⟨i1, i2⟩ := dayN_k W n (by omega)
    obtain ⟨w1, w2, w3⟩ := dayN_ok W n (by omega)
    obtain ⟨d1, d2, d3, d4, d5⟩ := day_ok w1 (by omega) (hapF (dayN n g) (dayN n g 1 + 1))
    rw [← dayF_eq] at d4 d5
    refine ⟨fun i j1 j2 => by rw [dayN_s, d4 i j1 j2]; exact i1 i j1 j2, fun p j1 j2 => ?_⟩
    obtain ⟨a1, a2, a3⟩ := d5 p j1 j2
    obtain ⟨b1, b2, b3⟩ := i2 p j1 j2
    rw [dayN_s]
    exact ⟨a1.trans b1, a2.trans b2, a3.trans b3⟩
end FA
