/-! sets of people as bits below 128 -/
abbrev hb (s p : Int) : Prop := xand (xshr s p) 1 = 1
def clF (s p : Int) : Int := xand s (xxor (xshl 1 p) (-1))
def bS (s : Int) : Prop := 0 ≤ s ∧ s ≤ 127
set_option maxRecDepth 100000 in
theorem hb_kk : (List.range 128).all (fun s => (List.range 7).all (fun p => decide (hb (s : Int) (p : Int) ↔ s.testBit p = true))) = true := by decide +kernel
set_option maxRecDepth 100000 in
theorem cl_kk : (List.range 128).all (fun s => (List.range 7).all (fun p => decide (clF (s : Int) (p : Int) = ((s &&& (127 - 2 ^ p) : Nat) : Int)))) = true := by decide +kernel
theorem cl_kt : (List.range 7).all (fun p => (List.range 7).all (fun q => decide ((127 - 2 ^ p).testBit q = true ↔ q ≠ p))) = true := by decide +kernel
theorem sl_kk : (List.range 8).all (fun p => decide (xshl 1 (p : Int) = ((2 ^ p : Nat) : Int)) && (List.range 7).all (fun q => decide ((2 ^ p - 1).testBit q = true ↔ q < p))) = true := by decide +kernel
section SE
variable {s t p q n : Int}
theorem hb_nat {a q : Nat} (ha : a < 128) (hq : q < 7) : hb (a : Int) (q : Int) ↔ a.testBit q = true := of_decide_eq_true (List.all_eq_true.mp (List.all_eq_true.mp hb_kk a (List.mem_range.mpr ha)) q (List.mem_range.mpr hq))
theorem i32_n {a : Nat} (h : a < 128) : (Int32.ofInt (a : Int)).toBitVec.toNat = a := by
  rw [Int32.toBitVec_ofInt, BitVec.toNat_ofInt]
  omega
theorem xor_nat {a b : Nat} (h1 : a < 128) (h2 : b < 128) : xor' (a : Int) (b : Int) = ((a ||| b : Nat) : Int) ∧ a ||| b < 128 := by
  have hlt : a ||| b < 2 ^ 7 := Nat.or_lt_two_pow h1 h2
  have hn : (Int32.ofInt (a : Int) ||| Int32.ofInt (b : Int)).toBitVec.toNat = a ||| b := by
    rw [Int32.toBitVec_or, BitVec.toNat_or, i32_n h1, i32_n h2]
  refine ⟨?_, hlt⟩
  show (Int32.ofInt (a : Int) ||| Int32.ofInt (b : Int)).toBitVec.toInt = _
  rw [BitVec.toInt_eq_toNat_of_lt (by rw [hn]; omega), hn]
theorem xand_nat {a b : Nat} (h1 : a < 128) (h2 : b < 128) : xand (a : Int) (b : Int) = ((a &&& b : Nat) : Int) ∧ a &&& b < 128 := by
  have hlt : a &&& b < 2 ^ 7 := Nat.and_lt_two_pow a h2
  have hn : (Int32.ofInt (a : Int) &&& Int32.ofInt (b : Int)).toBitVec.toNat = a &&& b := by
    rw [Int32.toBitVec_and, BitVec.toNat_and, i32_n h1, i32_n h2]
  refine ⟨?_, hlt⟩
  show (Int32.ofInt (a : Int) &&& Int32.ofInt (b : Int)).toBitVec.toInt = _
  rw [BitVec.toInt_eq_toNat_of_lt (by rw [hn]; omega), hn]
theorem bS.nat (h : bS s) : ∃ a : Nat, s = (a : Int) ∧ a < 128 := ⟨s.toNat, by have := h.1; omega, by have := h.2; have := h.1; omega⟩
theorem hb_n {a : Nat} (ha : a < 128) (h1 : 0 ≤ q) (h2 : q < 7) : hb (a : Int) q ↔ a.testBit q.toNat = true := by
  have h := hb_nat (q := q.toNat) ha (by omega)
  rw [show ((q.toNat : Nat) : Int) = q by omega] at h
  exact h
theorem or_at (hs : bS s) (ht : bS t) : bS (xor' s t) ∧ ∀ q, 0 ≤ q → q < 7 → (hb (xor' s t) q ↔ (hb s q ∨ hb t q)) := by
  obtain ⟨a, rfl, ha⟩ := hs.nat
  obtain ⟨b, rfl, hb'⟩ := ht.nat
  obtain ⟨e1, e2⟩ := xor_nat ha hb'
  rw [e1]
  refine ⟨⟨by omega, by omega⟩, fun q q0 q1 => ?_⟩
  rw [hb_n e2 q0 q1, hb_n ha q0 q1, hb_n hb' q0 q1, Nat.testBit_or, Bool.or_eq_true]
theorem and_at (hs : bS s) (ht : bS t) : bS (xand s t) ∧ ∀ q, 0 ≤ q → q < 7 → (hb (xand s t) q ↔ (hb s q ∧ hb t q)) := by
  obtain ⟨a, rfl, ha⟩ := hs.nat
  obtain ⟨b, rfl, hb'⟩ := ht.nat
  obtain ⟨e1, e2⟩ := xand_nat ha hb'
  rw [e1]
  refine ⟨⟨by omega, by omega⟩, fun q q0 q1 => ?_⟩
  rw [hb_n e2 q0 q1, hb_n ha q0 q1, hb_n hb' q0 q1, Nat.testBit_and, Bool.and_eq_true]
theorem shl_at (h1 : 0 ≤ n) (h2 : n ≤ 7) : xshl 1 n = ((2 ^ n.toNat : Nat) : Int) ∧ ∀ q : Nat, q < 7 → ((2 ^ n.toNat - 1).testBit q = true ↔ q < n.toNat) := by
  have h := List.all_eq_true.mp sl_kk n.toNat (List.mem_range.mpr (by omega))
  have h := (Bool.and_eq_true _ _).mp h
  have h3 := of_decide_eq_true h.1
  rw [show ((n.toNat : Nat) : Int) = n by omega] at h3
  exact ⟨h3, fun q hq => of_decide_eq_true (List.all_eq_true.mp h.2 q (List.mem_range.mpr hq))⟩
theorem p2_le {a b : Nat} (h : a ≤ b) : 2 ^ a ≤ 2 ^ b := Nat.pow_le_pow_right (by omega) h
theorem sh_at (h1 : 0 ≤ p) (h2 : p < 7) : bS (xshl 1 p) ∧ ∀ q, 0 ≤ q → q < 7 → (hb (xshl 1 p) q ↔ q = p) := by
  obtain ⟨e, -⟩ := shl_at h1 (by omega : p ≤ 7)
  have hp : 2 ^ p.toNat ≤ 2 ^ 6 := p2_le (by omega)
  have hq : 0 < 2 ^ p.toNat := Nat.two_pow_pos _
  rw [e]
  refine ⟨⟨by omega, by omega⟩, fun q q0 q1 => ?_⟩
  rw [hb_n (by omega) q0 q1, Nat.testBit_two_pow]
  exact ⟨fun w => by have := of_decide_eq_true w; omega, fun w => decide_eq_true (by omega)⟩
theorem cl_at (hs : bS s) (h1 : 0 ≤ p) (h2 : p < 7) : bS (clF s p) ∧ clF s p ≤ s ∧ ∀ q, 0 ≤ q → q < 7 → (hb (clF s p) q ↔ (hb s q ∧ q ≠ p)) := by
  obtain ⟨a, rfl, ha⟩ := hs.nat
  have h := List.all_eq_true.mp (List.all_eq_true.mp cl_kk a (List.mem_range.mpr ha)) p.toNat (List.mem_range.mpr (by omega))
  have h3 := of_decide_eq_true h
  rw [show ((p.toNat : Nat) : Int) = p by omega] at h3
  have h4 : a &&& (127 - 2 ^ p.toNat) ≤ a := Nat.and_le_left
  rw [h3]
  refine ⟨⟨by omega, by omega⟩, by omega, fun q q0 q1 => ?_⟩
  have k := of_decide_eq_true (List.all_eq_true.mp (List.all_eq_true.mp cl_kt p.toNat (List.mem_range.mpr (by omega))) q.toNat (List.mem_range.mpr (by omega)))
  rw [hb_n (by omega) q0 q1, hb_n ha q0 q1, Nat.testBit_and, Bool.and_eq_true, k]
  exact ⟨fun w => ⟨w.1, by have := w.2; omega⟩, fun w => ⟨w.1, by have := w.2; omega⟩⟩
theorem hb_0 (h1 : 0 ≤ q) (h2 : q < 7) : ¬ hb 0 q := by
  have h := hb_n (a := 0) (by omega) h1 h2
  rw [show ((0 : Nat) : Int) = 0 from rfl, Nat.zero_testBit] at h
  exact fun w => by cases h.mp w
theorem set_ext (hs : bS s) (ht : bS t) (h : ∀ q, 0 ≤ q → q < 7 → (hb s q ↔ hb t q)) : s = t := by
  obtain ⟨a, rfl, ha⟩ := hs.nat
  obtain ⟨b, rfl, hb'⟩ := ht.nat
  have e : a = b := by
    apply Nat.eq_of_testBit_eq
    intro i
    by_cases hi : i < 7
    · have k := h (i : Int) (by omega) (by omega)
      rw [hb_nat ha hi, hb_nat hb' hi] at k
      rw [Bool.eq_iff_iff]
      exact k
    · have hp : 2 ^ 7 ≤ 2 ^ i := p2_le (by omega)
      rw [Nat.testBit_lt_two_pow (by omega), Nat.testBit_lt_two_pow (by omega)]
  rw [e]
theorem cl_lt (hs : bS s) (h1 : 0 ≤ p) (h2 : p < 7) (h : hb s p) : clF s p < s := by
  obtain ⟨a1, a2, a3⟩ := cl_at hs h1 h2
  have hn : clF s p ≠ s := fun e => by
    have k := (a3 p h1 h2)
    rw [e] at k
    exact (k.mp h).2 rfl
  omega
theorem set_ne (hs : bS s) (h : ∀ q, 0 ≤ q → q < 7 → ¬ hb s q) : s = 0 := set_ext hs ⟨by omega, by omega⟩ (fun q q0 q1 => ⟨fun w => absurd w (h q q0 q1), fun w => absurd w (hb_0 q0 q1)⟩)
/-- all of n people -/
theorem al_at (h1 : 0 ≤ n) (h2 : n ≤ 7) : bS (xshl 1 n - 1) ∧ 1 ≤ xshl 1 n ∧ xshl 1 n ≤ 128 ∧ ∀ q, 0 ≤ q → q < 7 → (hb (xshl 1 n - 1) q ↔ q < n) := by
  obtain ⟨e, e2⟩ := shl_at h1 h2
  have hp : 2 ^ n.toNat ≤ 2 ^ 7 := p2_le (by omega)
  have hq : 0 < 2 ^ n.toNat := Nat.two_pow_pos _
  rw [e, show (((2 ^ n.toNat : Nat) : Int) - 1) = ((2 ^ n.toNat - 1 : Nat) : Int) by omega]
  refine ⟨⟨by omega, by omega⟩, by omega, by omega, fun q q0 q1 => ?_⟩
  rw [hb_n (by omega) q0 q1, e2 q.toNat (by omega)]
  omega
theorem al_in (hs : bS s) (h1 : 0 ≤ n) (h2 : n ≤ 7) (h3 : s < xshl 1 n) (q0 : 0 ≤ q) (q1 : q < 7) (h : hb s q) : q < n := by
  obtain ⟨a, rfl, ha⟩ := hs.nat
  obtain ⟨e, -⟩ := shl_at h1 h2
  rw [e] at h3
  apply Classical.byContradiction
  intro hn
  have hp : 2 ^ n.toNat ≤ 2 ^ q.toNat := p2_le (by omega)
  rw [hb_n ha q0 q1, Nat.testBit_lt_two_pow (by omega)] at h
  cases h
theorem bt_hb {P : Int → Prop} : ∀ k : Nat, k ≤ 7 → bS (btF P k) ∧ ∀ q, 0 ≤ q → q < 7 → (hb (btF P k) q ↔ (q < (k : Int) ∧ P q))
  | 0, _ => ⟨⟨Int.le_refl 0, (by omega : (0 : Int) ≤ 127)⟩, fun q q0 q1 => ⟨fun w => absurd w (hb_0 q0 q1), fun w => by have := w.1; omega⟩⟩
  | k + 1, hk => by
    obtain ⟨i1, i2⟩ := bt_hb (P := P) k (by omega)
    obtain ⟨j1, j2⟩ := sh_at (p := (k : Int)) (by omega) (by omega)
    obtain ⟨o1, o2⟩ := or_at i1 j1
    have e : btF P (k + 1) = @ite Int (P (k : Int)) (Classical.propDecidable _) (xor' (btF P k) (xshl 1 (k : Int))) (btF P k) := rfl
    rw [e]
    by_cases c : P (k : Int)
    · rw [if_pos c]
      refine ⟨o1, fun q q0 q1 => ?_⟩
      rw [o2 q q0 q1, i2 q q0 q1, j2 q q0 q1]
      exact ⟨fun w => w.elim (fun w => ⟨by have := w.1; omega, w.2⟩) (fun w => ⟨by omega, w ▸ c⟩), fun w => by
        by_cases d : q = (k : Int)
        · exact Or.inr d
        · exact Or.inl ⟨by have := w.1; omega, w.2⟩⟩
    · rw [if_neg c]
      refine ⟨i1, fun q q0 q1 => ?_⟩
      rw [i2 q q0 q1]
      exact ⟨fun w => ⟨by have := w.1; omega, w.2⟩, fun w => ⟨by
        have h1 := w.1
        have h2 : q ≠ (k : Int) := fun d => c (d ▸ w.2)
        omega, w.2⟩⟩
end SE
