/-! days on, in mind: the class reckons it, the reference lets the days go by -/
noncomputable def popN : Nat → Nat → Int
  | 0, _ => 0
  | k + 1, n => ((n % 2 : Nat) : Int) + popN k (n / 2)
noncomputable def popc (a : Int) : Int := popN 7 a.toNat
section MD
variable {h h' : fH} {g g' : gV} {p o e s t j w q a b c d i v x y n : Int} {m k : Nat} {P : Int → Prop}
-- the reference
set_option maxRecDepth 100000 in
theorem pop_k : (List.range 128).all (fun a => decide (a = 0) || (decide (popc (xand (a : Int) ((a : Int) - 1)) = popc (a : Int) - 1) && (decide (0 ≤ xand (a : Int) ((a : Int) - 1)) && decide (xand (a : Int) ((a : Int) - 1) ≤ 127)))) = true := by decide +kernel
set_option maxRecDepth 100000 in
theorem pop_o : (List.range 7).all (fun k => (List.range (2 ^ k)).all (fun u => decide (popc (xor' (u : Int) (xshl 1 (k : Int))) = popc (u : Int) + 1) && (decide (0 ≤ xor' (u : Int) (xshl 1 (k : Int))) && decide (xor' (u : Int) (xshl 1 (k : Int)) < ((2 ^ (k + 1) : Nat) : Int))))) = true := by decide +kernel
theorem popN_b : ∀ k n : Nat, 0 ≤ popN k n ∧ popN k n ≤ (k : Int)
  | 0, n => ⟨Int.le_refl 0, Int.le_refl 0⟩
  | k + 1, n => by
    have := popN_b k (n / 2)
    show 0 ≤ ((n % 2 : Nat) : Int) + popN k (n / 2) ∧ ((n % 2 : Nat) : Int) + popN k (n / 2) ≤ ((k + 1 : Nat) : Int)
    omega
theorem popc_b (a : Int) : 0 ≤ popc a ∧ popc a ≤ 7 := popN_b 7 a.toNat
theorem sr_onesOf (hs : fS 199 [a] h v h') (a0 : 0 ≤ a) (a1 : a ≤ 127) : h' = h ∧ v = popc a := by
  refine vr_onesOf hs (fun x1 x2 q => q = h ∧ 0 ≤ x2 ∧ x2 ≤ 127 ∧ x1 + popc x2 = popc a ∧ 0 ≤ x1) (fun v h' => h' = h ∧ v = popc a) ?_ ?_
  · exact ⟨rfl, a0, a1, by omega, by omega⟩
  · rintro x1 x2 q ⟨rfl, i1, i2, i3, i4⟩
    have b1 := popc_b x2
    have b2 := popc_b a
    refine ⟨fun q1 => ⟨rfl, ?_⟩, fun q1 z2 e2 z3 e3 z4 e4 => ?_⟩
    · rw [q1, show popc 0 = 0 from rfl] at i3
      omega
    · have f2 := wr_d e2 (by omega) (by omega)
      have f3 := wr_d e3 (by omega) (by omega)
      obtain ⟨u, rfl⟩ : ∃ u : Nat, x2 = (u : Int) := ⟨x2.toNat, by omega⟩
      have hk := List.all_eq_true.mp pop_k u (List.mem_range.mpr (by omega))
      simp only [Bool.or_eq_true, Bool.and_eq_true, decide_eq_true_eq] at hk
      rw [f3] at e4
      rcases hk with hk | ⟨k1, k2, k3⟩
      · omega
      · exact ⟨rfl, by omega, by omega, by rw [e4]; omega, by omega⟩
theorem pop_bt : ∀ n : Nat, n ≤ 7 → popc (btF P n) = ctF P n ∧ 0 ≤ btF P n ∧ btF P n < ((2 ^ n : Nat) : Int)
  | 0, _ => by
    have e1 : btF P 0 = 0 := rfl
    have e2 : ctF P 0 = 0 := rfl
    rw [e1, e2]
    decide
  | n + 1, hn => by
    obtain ⟨i1, i2, i3⟩ := pop_bt n (by omega)
    have hp : 2 ^ (n + 1) = 2 ^ n + 2 ^ n := by rw [Nat.pow_succ]; omega
    by_cases h : P (n : Int)
    · have e1 : btF P (n + 1) = xor' (btF P n) (xshl 1 (n : Int)) := if_pos h
      have e2 : ctF P (n + 1) = ctF P n + 1 := by
        show ctF P n + bI (P (n : Int)) = _
        rw [bI_t h]
      obtain ⟨u, hu⟩ : ∃ u : Nat, btF P n = (u : Int) := ⟨(btF P n).toNat, by omega⟩
      have hk := List.all_eq_true.mp (List.all_eq_true.mp pop_o n (List.mem_range.mpr (by omega))) u (List.mem_range.mpr (by omega))
      simp only [Bool.and_eq_true, decide_eq_true_eq] at hk
      rw [e1, e2, hu, hk.1, ← hu, i1, hu]
      exact ⟨rfl, hk.2⟩
    · have e1 : btF P (n + 1) = btF P n := if_neg h
      have e2 : ctF P (n + 1) = ctF P n := by
        show ctF P n + bI (P (n : Int)) = _
        rw [bI_f h, Int.add_zero]
      rw [e1, e2]
      refine ⟨i1, i2, ?_⟩
      omega
end MD
