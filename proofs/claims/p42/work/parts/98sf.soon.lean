/-! when one is wed first; what the reference asks of days to come -/
noncomputable def fndF (g : gV) (p : Int) : Nat → Nat → Int
  | 0, _ => -9
  | f + 1, k => if dayN k g (7 + 5 * p) ≠ 0 then (k : Int) else fndF g p f (k + 1)
noncomputable def dwF (g : gV) (p : Int) : Int := fndF g p 61 0
section SO
variable {h h' : fH} {g g' : gV} {p o e s t j w q a b c d i v x y n : Int} {m k : Nat} {P : Int → Prop}
theorem fnd_0 : ∀ (f k : Nat), (∀ n : Nat, k ≤ n → n < k + f → dayN n g (7 + 5 * p) = 0) → fndF g p f k = -9
  | 0, _, _ => rfl
  | f + 1, k, h => by
    show (if dayN k g (7 + 5 * p) ≠ 0 then (k : Int) else fndF g p f (k + 1)) = -9
    rw [if_neg (fun q => q (h k (by omega) (by omega)))]
    exact fnd_0 f (k + 1) (fun n n1 n2 => h n (by omega) (by omega))
theorem fnd_m : ∀ (f k m : Nat), k ≤ m → m < k + f → dayN m g (7 + 5 * p) ≠ 0 → (∀ n : Nat, k ≤ n → n < m → dayN n g (7 + 5 * p) = 0) → fndF g p f k = (m : Int)
  | 0, k, m, h1, h2, _, _ => by omega
  | f + 1, k, m, h1, h2, h3, h4 => by
    show (if dayN k g (7 + 5 * p) ≠ 0 then (k : Int) else fndF g p f (k + 1)) = (m : Int)
    by_cases e : k = m
    · subst e
      rw [if_pos h3]
    · rw [if_neg (fun q => q (h4 k (by omega) (by omega)))]
      exact fnd_m f (k + 1) m (by omega) (by omega) h3 (fun n n1 n2 => h4 n (by omega) n2)
theorem dwS.eq (hd : g 1 ≤ 4900) (a : dwS g p v) : v = dwF g p := by
  rcases a with ⟨a1, a2⟩ | ⟨a1, a2, a3, a4⟩
  · rw [a1]
    exact (fnd_0 61 0 (fun n _ n2 => a2 n (by omega))).symm
  · have := fnd_m (g := g) (p := p) 61 0 v.toNat (by omega) (by omega) a3 (fun n _ n2 => a4 n (by omega))
    unfold dwF
    rw [this]
    omega
end SO
