/-! counts, bits, sums over the first numbers -/
noncomputable def CT (P : Int → Prop) : Nat → Int → Prop
  | 0, v => v = 0
  | k + 1, v => ∃ u, CT P k u ∧ ((P (k : Int) ∧ v = u + 1) ∨ (¬ P (k : Int) ∧ v = u))
noncomputable def BT (P : Int → Prop) : Nat → Int → Prop
  | 0, v => v = 0
  | k + 1, v => ∃ u, BT P k u ∧ ((P (k : Int) ∧ v = xor' u (xshl 1 (k : Int))) ∨ (¬ P (k : Int) ∧ v = u))
noncomputable def sumF (f : Int → Int) : Nat → Int
  | 0 => 0
  | k + 1 => sumF f k + f (k : Int)
section CB
variable {P P' : Int → Prop} {k : Nat} {u v w x z : Int} {f f' : Int → Int}
theorem CT_b : ∀ {k : Nat} {v : Int}, CT P k v → 0 ≤ v ∧ v ≤ (k : Int)
  | 0, v, a => by
    have a : v = 0 := a
    omega
  | k + 1, v, a => by
    obtain ⟨u, a1, a2⟩ := a
    have := CT_b a1
    omega
theorem CT.y (a : CT P k u) (hx : x = (k : Int)) (hp : P x) : CT P (k + 1) (u + 1) := ⟨u, a, Or.inl ⟨hx ▸ hp, rfl⟩⟩
theorem CT.n (a : CT P k u) (hx : x = (k : Int)) (hp : ¬ P x) : CT P (k + 1) u := ⟨u, a, Or.inr ⟨hx ▸ hp, rfl⟩⟩
theorem xor_fit (a b : Int) : -2147483648 ≤ xor' a b ∧ xor' a b ≤ 2147483647 := by
  unfold xor'
  have h1 := (Int32.ofInt a ||| Int32.ofInt b).le_toInt
  have h2 := (Int32.ofInt a ||| Int32.ofInt b).toInt_lt
  omega
theorem xor_0 (h1 : -2147483648 ≤ x) (h2 : x ≤ 2147483647) : xor' x 0 = x := by
  unfold xor'
  rw [show Int32.ofInt 0 = 0 from rfl, Int32.or_zero]
  exact Int32.toInt_ofInt_of_le h1 (by omega)
theorem BT_b : ∀ {k : Nat} {v : Int}, BT P k v → -2147483648 ≤ v ∧ v ≤ 2147483647
  | 0, v, a => by
    have a : v = 0 := a
    omega
  | k + 1, v, a => by
    obtain ⟨u, a1, a2⟩ := a
    have := BT_b a1
    have := xor_fit u (xshl 1 (k : Int))
    omega
theorem BT.y (a : BT P k u) (hx : x = (k : Int)) (hp : P x) (hz : z = xshl 1 x) (hw : w = xor' u z) : BT P (k + 1) w := ⟨u, a, Or.inl ⟨hx ▸ hp, by rw [hw, hz, hx]⟩⟩
theorem BT.n (a : BT P k u) (hx : x = (k : Int)) (hp : ¬ P x) : BT P (k + 1) u := ⟨u, a, Or.inr ⟨hx ▸ hp, rfl⟩⟩
theorem BT.n0 (a : BT P k u) (hx : x = (k : Int)) (hp : ¬ P x) (hw : w = xor' u 0) : BT P (k + 1) w := by
  have := BT_b a
  rw [hw, xor_0 this.1 this.2]
  exact a.n hx hp
theorem sum_b {c : Int} : ∀ {k : Nat}, (∀ i, 0 ≤ i → i < (k : Int) → 0 ≤ f i ∧ f i ≤ c) → 0 ≤ sumF f k ∧ sumF f k ≤ c * (k : Int)
  | 0, _ => by
    show (0 : Int) ≤ 0 ∧ (0 : Int) ≤ c * ((0 : Nat) : Int)
    rw [show ((0 : Nat) : Int) = 0 from rfl, Int.mul_zero]
    exact ⟨Int.le_refl 0, Int.le_refl 0⟩
  | k + 1, h => by
    have i1 := sum_b (k := k) (fun i i1 i2 => h i i1 (by omega))
    have i2 := h k (by omega) (by omega)
    show 0 ≤ sumF f k + f k ∧ sumF f k + f k ≤ c * ((k + 1 : Nat) : Int)
    rw [show ((k + 1 : Nat) : Int) = (k : Int) + 1 by omega, Int.mul_add, Int.mul_one]
    omega
end CB
noncomputable def bI (P : Prop) : Int := @ite Int P (Classical.propDecidable P) 1 0
noncomputable def ctF (P : Int → Prop) : Nat → Int
  | 0 => 0
  | k + 1 => ctF P k + bI (P (k : Int))
noncomputable def btF (P : Int → Prop) : Nat → Int
  | 0 => 0
  | k + 1 => @ite Int (P (k : Int)) (Classical.propDecidable _) (xor' (btF P k) (xshl 1 (k : Int))) (btF P k)
theorem bI_t {P : Prop} (h : P) : bI P = 1 := if_pos h
theorem bI_f {P : Prop} (h : ¬ P) : bI P = 0 := if_neg h
theorem bR.bi {P : Prop} {v : Int} (h : bR v P) : v = bI P := by
  rcases h with ⟨h1, h2⟩ | ⟨h1, h2⟩
  · rw [bI_t h2, h1]
  · rw [bI_f h2, h1]
theorem CT.eq {P : Int → Prop} : ∀ {k : Nat} {v : Int}, CT P k v → v = ctF P k
  | 0, v, a => a
  | k + 1, v, a => by
    obtain ⟨u, a1, a2⟩ := a
    show v = ctF P k + bI (P (k : Int))
    rw [← a1.eq]
    rcases a2 with ⟨a2, a3⟩ | ⟨a2, a3⟩
    · rw [bI_t a2, a3]
    · rw [bI_f a2, a3, Int.add_zero]
theorem BT.eq {P : Int → Prop} : ∀ {k : Nat} {v : Int}, BT P k v → v = btF P k
  | 0, v, a => a
  | k + 1, v, a => by
    obtain ⟨u, a1, a2⟩ := a
    show v = @ite Int (P (k : Int)) (Classical.propDecidable _) (xor' (btF P k) (xshl 1 (k : Int))) (btF P k)
    rw [← a1.eq]
    rcases a2 with ⟨a2, a3⟩ | ⟨a2, a3⟩
    · rw [if_pos a2, a3]
    · rw [if_neg a2, a3]
theorem toN {n : Int} {k : Nat} (h : n = (k : Int)) : n.toNat = k := by omega
