/-! when one is wed first; what the reference asks of days to come -/
noncomputable def fndF (g : gV) (p : Int) : Nat → Nat → Int
  | 0, _ => -9
  | f + 1, k => if dayN k g (7 + 5 * p) ≠ 0 then (k : Int) else fndF g p f (k + 1)
noncomputable def dwF (g : gV) (p : Int) : Int := fndF g p 61 0
noncomputable def ffF (g : gV) : Nat → Int × Int
  | 0 => (-9, 61)
  | k + 1 => if 0 < dwF g (k : Int) ∧ dwF g (k : Int) < (ffF g k).2 then ((k : Int), dwF g (k : Int)) else ffF g k
section SO
variable {h h' : fH} {g g' : gV} {p o e s t j w q a b c d i v x y n : Int} {m k : Nat} {P : Int → Prop}
theorem fnd_0 : ∀ (f k : Nat), (∀ n : Nat, k ≤ n → n < k + f → dayN n g (7 + 5 * p) = 0) → fndF g p f k = -9
  | 0, _, _ => rfl
  | f + 1, k, h => by
    show (if dayN k g (7 + 5 * p) ≠ 0 then (k : Int) else fndF g p f (k + 1)) = -9
    rw [if_neg (fun q => q (h k (by omega) (by omega)))]
    exact fnd_0 f (k + 1) (fun n n1 n2 => h n (by omega) (by omega))
theorem fnd_m : ∀ (f k m : Nat), k ≤ m → m < k + f → dayN m g (7 + 5 * p) ≠ 0 → (∀ n : Nat, k ≤ n → n < m → dayN n g (7 + 5 * p) = 0) → fndF g p f k = (m : Int)
  | 0, k, m, h1, h2, _, _ => by omega
  | f + 1, k, m, h1, h2, h3, h4 => by
    show (if dayN k g (7 + 5 * p) ≠ 0 then (k : Int) else fndF g p f (k + 1)) = (m : Int)
    by_cases e : k = m
    · subst e
      rw [if_pos h3]
    · rw [if_neg (fun q => q (h4 k (by omega) (by omega)))]
      exact fnd_m f (k + 1) m (by omega) (by omega) h3 (fun n n1 n2 => h4 n (by omega) n2)
theorem dwS.eq (hd : g 1 ≤ 4900) (a : dwS g p v) : v = dwF g p := by
  rcases a with ⟨a1, a2⟩ | ⟨a1, a2, a3, a4⟩
  · rw [a1]
    exact (fnd_0 61 0 (fun n _ n2 => a2 n (by omega))).symm
  · have := fnd_m (g := g) (p := p) 61 0 v.toNat (by omega) (by omega) a3 (fun n _ n2 => a4 n (by omega))
    unfold dwF
    rw [this]
    omega
theorem sr_wedSoon (hs : fS 206 [271, p] h v h') (R : RM h g) (W : WF g) (hd : g 1 ≤ 999) (p0 : 0 ≤ p) (p1 : p < g 0) : (v = if dwF g p = -9 then 61 else dwF g p) ∧ RM h' g := by
  have hB := W.1
  refine vr_wedSoon hs (fun x0 x1 x2 x3 q => x0 = 271 ∧ x1 = p ∧ (∀ i, 0 ≤ i → i < 113 → q 290 i = g i) ∧ ∃ k : Nat, x3 = (k : Int) ∧ k ≤ 61 ∧ RM q (dayN k g) ∧ ((x2 = 61 ∧ ∀ n : Nat, n < k → dayN n g (7 + 5 * p) = 0) ∨ (∃ m : Nat, x2 = (m : Int) ∧ m ≤ 60 ∧ dayN m g (7 + 5 * p) ≠ 0 ∧ ∀ n : Nat, n < m → dayN n g (7 + 5 * p) = 0))) (fun v h' => (v = if dwF g p = -9 then 61 else dwF g p) ∧ RM h' g) ?_ ?_
  · intro v1 k1 hs1
    obtain ⟨a1, a2, a3⟩ := sr_down hs1 R (by omega)
    exact ⟨rfl, rfl, a2, 0, rfl, by omega, a1, Or.inl ⟨rfl, fun n hn => by omega⟩⟩
  · rintro x0 x1 x2 x3 q ⟨rfl, rfl, i1, k, j1, j2, j3, j4⟩
    have out : ∀ {v1 : Int} {k1 : fH}, fS 159 [271, 290, 0] q v1 k1 → (60 < x3 ∨ x2 ≠ 61) → (x2 = if dwF g x1 = -9 then 61 else dwF g x1) ∧ RM k1 g := fun hs1 hc => by
      refine ⟨?_, (sr_up (G := g) hs1 i1 (by omega)).1⟩
      rcases j4 with ⟨l1, l2⟩ | ⟨m, l1, l2, l3, l4⟩
      · have e : dwF g x1 = -9 := fnd_0 61 0 (fun n _ n2 => l2 n (by omega))
        rw [if_pos e]
        exact l1
      · have e : dwF g x1 = (m : Int) := fnd_m 61 0 m (by omega) (by omega) l3 (fun n _ n2 => l4 n n2)
        rw [if_neg (by omega), e]
        exact l1
    refine ⟨fun q1 v1 k1 hs1 => out hs1 (Or.inl q1), fun q1 => ⟨fun q2 v1 k1 hs1 => out hs1 (Or.inr q2), fun q2 z4 e4 => ?_⟩⟩
    obtain ⟨w1, w2, w3⟩ := dayN_ok W k (by omega)
    have e4 := e4.trans (j3.wed (p := x1) (by omega) (by omega))
    have wp := w1.per (p := x1) (by omega) (by omega)
    rcases j4 with ⟨l1, l2⟩ | ⟨m, l1, l2, l3, l4⟩
    · refine ⟨fun q3 v1 k1 hs1 z6 e6 => ?_, fun q3 v1 k1 hs1 z6 e6 => ?_⟩
      · obtain ⟨r1, r2⟩ := sr_day0 hs1 j3 w1 (by omega)
        have f6 := wr_d e6 (by omega) (by omega)
        refine ⟨rfl, rfl, fun i i2 i3 => ?_, k + 1, by omega, by omega, r1, Or.inl ⟨rfl, fun n hn => ?_⟩⟩
        · rw [r2 290 i (by omega)]
          exact i1 i i2 i3
        · by_cases e : n = k
          · rw [e]
            omega
          · exact l2 n (by omega)
      · obtain ⟨r1, r2⟩ := sr_day0 hs1 j3 w1 (by omega)
        have f6 := wr_d e6 (by omega) (by omega)
        refine ⟨rfl, rfl, fun i i2 i3 => ?_, k + 1, by omega, by omega, r1, Or.inr ⟨k, j1, by omega, by omega, l2⟩⟩
        rw [r2 290 i (by omega)]
        exact i1 i i2 i3
    · omega
end SO
