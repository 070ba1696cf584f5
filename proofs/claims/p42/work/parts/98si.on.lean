/-! events' days as they are tried in mind -/
noncomputable def cN (g : gV) (k : Nat) : Int := ctF (fun p => dayN k g (7 + 5 * p) ≠ 0) (g 0).toNat
noncomputable def gOn (g : gV) (f : Int → Int) : gV := fun i => if 74 ≤ i ∧ i ≤ 82 ∧ i % 2 = 0 then f ((i - 74) / 2) else g i
noncomputable def sqF (z : Int) : Nat → Int
  | 0 => z
  | k + 1 => wr (wr (sqF z k * 1103515245) + 12345)
noncomputable def drF (s : Int) : Int := xrem (xdiv (xand s 2147483647) 65536) 9
section ON
variable {h h' : fH} {g : gV} {f f' : Int → Int} {e o z i j : Int}
theorem gOn_n (q : ¬ (74 ≤ i ∧ i ≤ 82 ∧ i % 2 = 0)) : gOn g f i = g i := if_neg q
theorem gOn_0 : gOn g (fun j => g (74 + 2 * j)) = g := by
  funext i
  unfold gOn
  split
  · next q =>
    show g (74 + 2 * ((i - 74) / 2)) = g i
    exact congrArg g (by omega)
  · rfl
theorem gOn_u (e0 : 0 ≤ e) (e1 : e < 5) : gu (gOn g f) (74 + 2 * e) z = gOn g (fun j => if j = e then z else f j) := by
  funext i
  by_cases q : i = 74 + 2 * e
  · rw [gu_e q]
    unfold gOn
    rw [if_pos (by omega)]
    show z = if (i - 74) / 2 = e then z else f ((i - 74) / 2)
    rw [if_pos (by omega)]
  · rw [gu_n q]
    unfold gOn
    by_cases c : 74 ≤ i ∧ i ≤ 82 ∧ i % 2 = 0
    · rw [if_pos c, if_pos c]
      show f ((i - 74) / 2) = if (i - 74) / 2 = e then z else f ((i - 74) / 2)
      rw [if_neg (by omega)]
    · rw [if_neg c, if_neg c]
theorem gOn_cg (hf : ∀ j, 0 ≤ j → j < 5 → f j = f' j) : gOn g f = gOn g f' := by
  funext i
  unfold gOn
  by_cases c : 74 ≤ i ∧ i ≤ 82 ∧ i % 2 = 0
  · rw [if_pos c, if_pos c]
    exact hf _ (by omega) (by omega)
  · rw [if_neg c, if_neg c]
theorem BG_gOn (hB : BG g) : BG (gOn g f) := by
  unfold BG at *
  rw [gOn_n (by omega), gOn_n (by omega)]
  exact hB
theorem WF_gOn (W : WF g) (hf : ∀ j, 0 ≤ j → j < 5 → 0 ≤ f j ∧ f j ≤ 8) : WF (gOn g f) := by
  have hB := W.1
  refine WF_of W (fun i hi => gOn_n (by omega)) (fun p p0 p1 => ?_) (fun p e' p0 p1 a b => ?_) (fun e' a b => ?_)
  · have := W.per p0 p1
    rw [gOn_n (by omega)]
    omega
  · rw [gOn_n (by omega)]
    exact W.bel p0 p1 a b
  · have we := W.evt a b
    have e2 : gOn g f (74 + 2 * e') = f e' := by
      unfold gOn
      rw [if_pos (by omega), show (74 + 2 * e' - 74) / 2 = e' by omega]
    have := hf e' a b
    rw [gOn_n (by omega), e2]
    omega
theorem xand_31 (a : Int) : 0 ≤ xand a 2147483647 ∧ xand a 2147483647 ≤ 2147483647 := by
  unfold xand
  have h2 := (Int32.ofInt a &&& Int32.ofInt 2147483647).toInt_lt
  refine ⟨?_, by omega⟩
  show 0 ≤ ((Int32.ofInt a &&& Int32.ofInt 2147483647).toBitVec).toInt
  rw [Int32.toBitVec_and, BitVec.toInt_eq_msb_cond, BitVec.msb_and, show (Int32.ofInt 2147483647).toBitVec.msb = false by decide, Bool.and_false, if_neg (by decide)]
  omega
theorem drF_b (s : Int) : 0 ≤ drF s ∧ drF s ≤ 8 := by
  obtain ⟨a, b⟩ := xand_31 s
  unfold drF
  rw [xdiv_nn a b (by omega), xrem_nn (by omega) (by omega) (by omega)]
  omega
end ON
