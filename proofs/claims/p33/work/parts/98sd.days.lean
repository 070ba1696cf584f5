/-! what becomes of one person as days go by -/
noncomputable def hw (g : gV) (j p o e s t : Int) : Prop := 0 ≤ j ∧ j < g 2 ∧ ((g (83 + 5 * j) = p ∧ g (84 + 5 * j) = o) ∨ (g (84 + 5 * j) = p ∧ g (83 + 5 * j) = o)) ∧ g (85 + 5 * j) = e ∧ g (86 + 5 * j) = s ∧ g (87 + 5 * j) = t
noncomputable def sameF (g G : gV) (p : Int) : Prop := G (7 + 5 * p) = g (7 + 5 * p) ∧ G (6 + 5 * p) = g (6 + 5 * p)
section FA
variable {g g' G X : gV} {p o e s t j j' o' e' s' t' w q a c d i : Int} {H : Int → Bool}
theorem sameF.rf (g : gV) (p : Int) : sameF g g p := ⟨rfl, rfl⟩
theorem sameF.tr {g1 g2 g3 : gV} (x : sameF g1 g2 p) (y : sameF g2 g3 p) : sameF g1 g3 p := ⟨y.1.trans x.1, y.2.trans x.2⟩
end FA
