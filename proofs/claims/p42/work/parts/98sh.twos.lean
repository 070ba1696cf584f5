/-! the saddest, twos who wish each other, rivals, who is free (made by a program) -/
section TO
variable {h h' : fH} {g : gV} {p o e s t j w q a b c d i v x y n : Int} {m k : Nat}
theorem ctF_b (P : Int → Prop) : ∀ n : Nat, 0 ≤ ctF P n ∧ ctF P n ≤ (n : Int)
  | 0 => ⟨Int.le_refl 0, Int.le_refl 0⟩
  | n + 1 => by
    have := ctF_b P n
    show 0 ≤ ctF P n + bI (P (n : Int)) ∧ ctF P n + bI (P (n : Int)) ≤ ((n + 1 : Nat) : Int)
    by_cases hp : P (n : Int)
    · rw [bI_t hp]
      omega
    · rw [bI_f hp]
      omega

end TO
