/-! the most twos, the least one first: what both sides reckon -/
noncomputable def mxF (P : Int → Prop) (f : Int → Int) (z : Int) : Nat → Int
  | 0 => z
  | k + 1 => @ite Int (P (k : Int)) (Classical.propDecidable _) (xmax (mxF P f z k) (f (k : Int))) (mxF P f z k)
noncomputable def MX (R : Int → Int → Prop) (n : Int) : Nat → (Int → Prop) → Int
  | 0, _ => 0
  | k + 1, A => @ite Int (A (n - 1 - (k : Int))) (Classical.propDecidable _) (mxF (fun q => n - 1 - (k : Int) < q ∧ q < n ∧ A q ∧ R (n - 1 - (k : Int)) q) (fun q => 1 + MX R n k (fun x => A x ∧ x ≠ q)) (MX R n k A) 7) (MX R n k A)
section MS
variable {P P' : Int → Prop} {f f' : Int → Int} {z z' c n p q t v w r : Int} {R : Int → Int → Prop} {A B : Int → Prop} {j k : Nat}
theorem mxF_y (h : P (k : Int)) : mxF P f z (k + 1) = xmax (mxF P f z k) (f (k : Int)) := if_pos h
theorem mxF_n (h : ¬ P (k : Int)) : mxF P f z (k + 1) = mxF P f z k := if_neg h
theorem mxF_cg : ∀ k : Nat, z = z' → (∀ i, 0 ≤ i → i < (k : Int) → (P i ↔ P' i)) → (∀ i, 0 ≤ i → i < (k : Int) → P i → f i = f' i) → mxF P f z k = mxF P' f' z' k
  | 0, e, _, _ => e
  | k + 1, e, h1, h2 => by
    have ih := mxF_cg k e (fun i a b => h1 i a (by omega)) (fun i a b => h2 i a (by omega))
    have hk := h1 (k : Int) (by omega) (by omega)
    by_cases d : P (k : Int)
    · rw [mxF_y d, mxF_y (hk.mp d), ih, h2 (k : Int) (by omega) (by omega) d]
    · rw [mxF_n d, mxF_n (fun w => d (hk.mpr w)), ih]
theorem mxF_hi : ∀ k : Nat, j ≤ k → (∀ i, (j : Int) ≤ i → i < (k : Int) → ¬ P i) → mxF P f z k = mxF P f z j
  | 0, h, _ => by
    have e : j = 0 := by omega
    rw [e]
  | k + 1, h, h1 => by
    by_cases d : j = k + 1
    · rw [d]
    · rw [mxF_n (h1 (k : Int) (by omega) (by omega)), mxF_hi k (by omega) (fun i a b => h1 i a (by omega))]
theorem mxF_b : ∀ k : Nat, 0 ≤ z → z ≤ c → (∀ i, 0 ≤ i → i < (k : Int) → P i → 0 ≤ f i ∧ f i ≤ c) → 0 ≤ mxF P f z k ∧ mxF P f z k ≤ c
  | 0, h1, h2, _ => ⟨h1, h2⟩
  | k + 1, h1, h2, h3 => by
    have ih := mxF_b k h1 h2 (fun i a b => h3 i a (by omega))
    by_cases d : P (k : Int)
    · rw [mxF_y d]
      have hk := h3 (k : Int) (by omega) (by omega) d
      unfold xmax
      split <;> omega
    · rw [mxF_n d]
      exact ih
theorem MX_y (h : A (n - 1 - (k : Int))) : MX R n (k + 1) A = mxF (fun q => n - 1 - (k : Int) < q ∧ q < n ∧ A q ∧ R (n - 1 - (k : Int)) q) (fun q => 1 + MX R n k (fun x => A x ∧ x ≠ q)) (MX R n k A) 7 := if_pos h
theorem MX_n (h : ¬ A (n - 1 - (k : Int))) : MX R n (k + 1) A = MX R n k A := if_neg h
theorem MX_cg : ∀ (k : Nat) (A B : Int → Prop), (∀ x, n - (k : Int) ≤ x → x < n → (A x ↔ B x)) → MX R n k A = MX R n k B
  | 0, _, _, _ => rfl
  | k + 1, A, B, h => by
    have h' : ∀ x, n - 1 - (k : Int) ≤ x → x < n → (A x ↔ B x) := fun x a b => h x (by omega) b
    have ih := MX_cg k A B (fun x a b => h' x (by omega) b)
    by_cases d : A (n - 1 - (k : Int))
    · rw [MX_y d, MX_y ((h' _ (by omega) (by omega)).mp d)]
      refine mxF_cg 7 ih (fun i i0 i1 => ⟨fun w => ⟨w.1, w.2.1, (h' i (by omega) w.2.1).mp w.2.2.1, w.2.2.2⟩, fun w => ⟨w.1, w.2.1, (h' i (by omega) w.2.1).mpr w.2.2.1, w.2.2.2⟩⟩) (fun i i0 i1 w => ?_)
      show 1 + MX R n k (fun x => A x ∧ x ≠ i) = 1 + MX R n k (fun x => B x ∧ x ≠ i)
      rw [MX_cg k (fun x => A x ∧ x ≠ i) (fun x => B x ∧ x ≠ i) (fun x a b => ⟨fun u => ⟨(h' x (by omega) b).mp u.1, u.2⟩, fun u => ⟨(h' x (by omega) b).mpr u.1, u.2⟩⟩)]
    · rw [MX_n d, MX_n (fun w => d ((h' _ (by omega) (by omega)).mpr w)), ih]
theorem MX_sk : ∀ k : Nat, j ≤ k → (∀ x, n - (k : Int) ≤ x → x < n - (j : Int) → ¬ A x) → MX R n k A = MX R n j A
  | 0, h, _ => by
    have e : j = 0 := by omega
    rw [e]
  | k + 1, h, h1 => by
    by_cases d : j = k + 1
    · rw [d]
    · rw [MX_n (h1 (n - 1 - (k : Int)) (by omega) (by omega)), MX_sk k (by omega) (fun x a b => h1 x (by omega) b)]
theorem MX_b : ∀ (k : Nat) (A : Int → Prop), 0 ≤ MX R n k A ∧ MX R n k A ≤ (k : Int)
  | 0, _ => ⟨Int.le_refl 0, Int.le_refl 0⟩
  | k + 1, A => by
    have ih := MX_b k A
    by_cases d : A (n - 1 - (k : Int))
    · rw [MX_y d]
      refine mxF_b 7 ih.1 (by omega) (fun i i0 i1 w => ?_)
      have i2 := MX_b k (fun x => A x ∧ x ≠ i)
      show 0 ≤ 1 + MX R n k (fun x => A x ∧ x ≠ i) ∧ 1 + MX R n k (fun x => A x ∧ x ≠ i) ≤ ((k + 1 : Nat) : Int)
      omega
    · rw [MX_n d]
      omega
noncomputable def MN (R : Int → Int → Prop) (n : Int) (A : Int → Prop) : Int := MX R n n.toNat A
theorem MN_b (hn : 0 ≤ n) : 0 ≤ MN R n A ∧ MN R n A ≤ n := by
  have h := MX_b (R := R) (n := n) n.toNat A
  unfold MN
  omega
theorem MN_cg (hn : 0 ≤ n) (h : ∀ x, 0 ≤ x → x < n → (A x ↔ B x)) : MN R n A = MN R n B := MX_cg _ A B (fun x a b => h x (by omega) b)
theorem MN_to (hn : 0 ≤ n) (hk : (k : Int) ≤ n) (h : ∀ x, 0 ≤ x → x < n - (k : Int) → ¬ A x) : MN R n A = MX R n k A := MX_sk _ (by omega) (fun x a b => h x (by omega) b)
theorem MN_0 (hn : 0 ≤ n) (h : ∀ x, 0 ≤ x → x < n → ¬ A x) : MN R n A = 0 := MN_to (k := 0) hn (by omega) (fun x a b => h x a (by omega))
/-- the least of a set: alone or with another -/
theorem MN_step (p0 : 0 ≤ p) (p1 : p < n) (hl : ∀ x, 0 ≤ x → x < p → ¬ A x) (hp : A p) : MN R n A = mxF (fun q => p < q ∧ q < n ∧ A q ∧ R p q) (fun q => 1 + MN R n (fun x => (A x ∧ x ≠ p) ∧ x ≠ q)) (MN R n (fun x => A x ∧ x ≠ p)) 7 := by
  obtain ⟨k, hk⟩ : ∃ k : Nat, n - 1 - (k : Int) = p := ⟨(n - 1 - p).toNat, by omega⟩
  rw [MN_to (k := k + 1) (by omega) (by omega) (fun x a b => hl x a (by omega)), MX_y (by rw [hk]; exact hp), hk]
  refine mxF_cg 7 ?_ (fun i i0 i1 => Iff.rfl) (fun i i0 i1 w => ?_)
  · rw [MN_to (k := k) (by omega) (by omega) (fun x a b c => by
      by_cases d : x = p
      · exact c.2 d
      · exact hl x a (by omega) c.1)]
    exact MX_cg k _ _ (fun x a b => ⟨fun u => ⟨u, by omega⟩, fun u => u.1⟩)
  · show 1 + MX R n k (fun x => A x ∧ x ≠ i) = 1 + MN R n (fun x => (A x ∧ x ≠ p) ∧ x ≠ i)
    rw [MN_to (A := fun x => (A x ∧ x ≠ p) ∧ x ≠ i) (k := k) (by omega) (by omega) (fun x a b c => by
      by_cases d : x = p
      · exact c.1.2 d
      · exact hl x a (by omega) c.1.1)]
    rw [MX_cg k (fun x => A x ∧ x ≠ i) (fun x => (A x ∧ x ≠ p) ∧ x ≠ i) (fun x a b => ⟨fun u => ⟨⟨u.1, by omega⟩, u.2⟩, fun u => ⟨u.1.1, u.2⟩⟩)]
/-- the first one with whom the least keeps the most -/
def eqF (R : Int → Int → Prop) (n : Int) (k : Nat) (A : Int → Prop) (q : Int) : Prop := 1 + MX R n k (fun x => A x ∧ x ≠ q) = MX R n (k + 1) A
def FP (R : Int → Int → Prop) (n : Int) (k : Nat) (A : Int → Prop) (v : Int) : Prop := (v = -9 ∧ ∀ q, n - 1 - (k : Int) < q → q < n → A q → R (n - 1 - (k : Int)) q → ¬ eqF R n k A q) ∨ (n - 1 - (k : Int) < v ∧ v < n ∧ A v ∧ R (n - 1 - (k : Int)) v ∧ eqF R n k A v ∧ ∀ q, n - 1 - (k : Int) < q → q < v → A q → R (n - 1 - (k : Int)) q → ¬ eqF R n k A q)
theorem FP.un (hn : (k : Int) < n) (a : FP R n k A v) (b : FP R n k A w) : v = w := by
  rcases a with ⟨a1, a2⟩ | ⟨a1, a2, a3, a4, a5, a6⟩
  · rcases b with ⟨b1, b2⟩ | ⟨b1, b2, b3, b4, b5, b6⟩
    · omega
    · exact absurd b5 (a2 w b1 b2 b3 b4)
  · rcases b with ⟨b1, b2⟩ | ⟨b1, b2, b3, b4, b5, b6⟩
    · exact absurd a5 (b2 v a1 a2 a3 a4)
    · rcases Int.lt_trichotomy v w with q | q | q
      · exact absurd a5 (b6 v a1 q a3 a4)
      · exact q
      · exact absurd b5 (a6 w b1 q b3 b4)
theorem eqF_cg (h : ∀ x, n - 1 - (k : Int) ≤ x → x < n → (A x ↔ B x)) : eqF R n k A q ↔ eqF R n k B q := by
  unfold eqF
  rw [MX_cg (k + 1) A B (fun x a b => h x (by omega) b), MX_cg k (fun x => A x ∧ x ≠ q) (fun x => B x ∧ x ≠ q) (fun x a b => ⟨fun u => ⟨(h x (by omega) b).mp u.1, u.2⟩, fun u => ⟨(h x (by omega) b).mpr u.1, u.2⟩⟩)]
theorem FP.cg (h : ∀ x, n - 1 - (k : Int) ≤ x → x < n → (A x ↔ B x)) (a : FP R n k A v) : FP R n k B v := by
  rcases a with ⟨a1, a2⟩ | ⟨a1, a2, a3, a4, a5, a6⟩
  · exact Or.inl ⟨a1, fun q q0 q1 q2 q3 q4 => a2 q q0 q1 ((h q (by omega) q1).mpr q2) q3 ((eqF_cg h).mpr q4)⟩
  · exact Or.inr ⟨a1, a2, (h v (by omega) a2).mp a3, a4, (eqF_cg h).mp a5, fun q q0 q1 q2 q3 q4 => a6 q q0 q1 ((h q (by omega) (by omega)).mpr q2) q3 ((eqF_cg h).mpr q4)⟩
/-- the walk from the least on: with whom t is -/
def WK (R : Int → Int → Prop) (n t : Int) : Nat → (Int → Prop) → Int → Prop
  | 0, _, r => r = -9
  | k + 1, A, r => (¬ A (n - 1 - (k : Int)) ∧ WK R n t k A r) ∨ (A (n - 1 - (k : Int)) ∧ ∃ v, FP R n k A v ∧ ((n - 1 - (k : Int) = t ∧ r = v) ∨ (n - 1 - (k : Int) ≠ t ∧ v = t ∧ r = n - 1 - (k : Int)) ∨ (n - 1 - (k : Int) ≠ t ∧ v ≠ t ∧ WK R n t k (fun x => A x ∧ x ≠ v) r)))
theorem WK.un : ∀ (k : Nat) (A : Int → Prop) (v w : Int), (k : Int) ≤ n → WK R n t k A v → WK R n t k A w → v = w
  | 0, _, v, w, _, a, b => by
    have a : v = -9 := a
    have b : w = -9 := b
    omega
  | k + 1, A, v, w, hk, a, b => by
    rcases a with ⟨a1, a2⟩ | ⟨a1, u, a2, a3⟩
    · rcases b with ⟨b1, b2⟩ | ⟨b1, b2⟩
      · exact WK.un k A v w (by omega) a2 b2
      · exact absurd b1 a1
    · rcases b with ⟨b1, b2⟩ | ⟨b1, u', b2, b3⟩
      · exact absurd a1 b1
      · have e := a2.un (by omega) b2
        subst e
        rcases a3 with ⟨c1, c2⟩ | ⟨c1, c2, c3⟩ | ⟨c1, c2, c3⟩
        · rcases b3 with ⟨d1, d2⟩ | ⟨d1, d2, d3⟩ | ⟨d1, d2, d3⟩
          · omega
          · exact absurd c1 d1
          · exact absurd c1 d1
        · rcases b3 with ⟨d1, d2⟩ | ⟨d1, d2, d3⟩ | ⟨d1, d2, d3⟩
          · exact absurd d1 c1
          · omega
          · exact absurd c2 d2
        · rcases b3 with ⟨d1, d2⟩ | ⟨d1, d2, d3⟩ | ⟨d1, d2, d3⟩
          · exact absurd d1 c1
          · exact absurd d2 c2
          · exact WK.un k _ v w (by omega) c3 d3
theorem WK.cg : ∀ (k : Nat) (A B : Int → Prop) (v : Int), (∀ x, n - (k : Int) ≤ x → x < n → (A x ↔ B x)) → WK R n t k A v → WK R n t k B v
  | 0, _, _, _, _, a => a
  | k + 1, A, B, v, h, a => by
    have h' : ∀ x, n - 1 - (k : Int) ≤ x → x < n → (A x ↔ B x) := fun x a b => h x (by omega) b
    have hp := h' (n - 1 - (k : Int)) (by omega) (by omega)
    rcases a with ⟨a1, a2⟩ | ⟨a1, u, a2, a3⟩
    · exact Or.inl ⟨fun w => a1 (hp.mpr w), WK.cg k A B v (fun x a b => h' x (by omega) b) a2⟩
    · refine Or.inr ⟨hp.mp a1, u, a2.cg h', ?_⟩
      rcases a3 with c | c | ⟨c1, c2, c3⟩
      · exact Or.inl c
      · exact Or.inr (Or.inl c)
      · exact Or.inr (Or.inr ⟨c1, c2, WK.cg k _ _ v (fun x a b => ⟨fun w => ⟨(h' x (by omega) b).mp w.1, w.2⟩, fun w => ⟨(h' x (by omega) b).mpr w.1, w.2⟩⟩) c3⟩)
end MS
/-- who bets with whom, one way or the other -/
def eF (g : gV) (a c : Int) : Prop := a ≠ c ∧ betE g a c
def prF (g : gV) (p q : Int) : Prop := eF g q p ∨ eF g p q
