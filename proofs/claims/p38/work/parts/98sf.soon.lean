/-! when one is wed first; what the reference asks of days to come -/
noncomputable def fndF (g : gV) (p : Int) : Nat → Nat → Int
  | 0, _ => -9
  | f + 1, k => if dayN k g (7 + 5 * p) ≠ 0 then (k : Int) else fndF g p f (k + 1)
noncomputable def dwF (g : gV) (p : Int) : Int := fndF g p 61 0
section SO
variable {h h' : fH} {g g' : gV} {p o e s t j w q a b c d i v x y n : Int} {m k : Nat} {P : Int → Prop}
theorem fnd_0 : ∀ (f k : Nat), (∀ n : Nat, k ≤ n → n < k + f → dayN n g (7 + 5 * p) = 0) → fndF g p f k = -9
  | 0, _, _ => rfl
  | f + 1, k, h => by
    show (if dayN k g (7 + 5 * p) ≠ 0 then (k : Int) else fndF g p f (k + 1)) = -9
    rw [if_neg (fun q => q (h k (by omega) (by omega)))]
    exact fnd_0 f (k + 1) (fun n n1 n2 => h n (by omega) (by omega))
theorem fnd_m : ∀ (f k m : Nat), k ≤ m → m < k + f → dayN m g (7 + 5 * p) ≠ 0 → (∀ n : Nat, k ≤ n → n < m → dayN n g (7 + 5 * p) = 0) → fndF g p f k = (m : Int)
  | 0, k, m, h1, h2, _, _ => by omega
  | f + 1, k, m, h1, h2, h3, h4 => by
    show (if dayN k g (7 + 5 * p) ≠ 0 then (k : Int) else fndF g p f (k + 1)) = (m : Int)
    by_cases e : k = m
    · subst e
      rw [if_pos h3]
    · rw [if_neg (fun q => q (h4 k (by omega) (by omega)))]
      exact fnd_m f (k + 1) m (by omega) (by omega) h3 (fun n n1 n2 => h4 n (by omega) n2)
theorem dwS.eq (hd : g 1 ≤ 4900) (a : dwS g p v) : v = dwF g p := by
  rcases a with ⟨a1, a2⟩ | ⟨a1, a2, a3, a4⟩
  · rw [a1]
    exact (fnd_0 61 0 (fun n _ n2 => a2 n (by omega))).symm
  · have := fnd_m (g := g) (p := p) 61 0 v.toNat (by omega) (by omega) a3 (fun n _ n2 => a4 n (by omega))
    unfold dwF
    rw [this]
    omega
theorem sr_beliefThen {e : Int} (hs : fS 202 [271, p, e, n] h v h') (R : RM h g) (W : WF g) (hd : g 1 ≤ 999) (p0 : 0 ≤ p) (p1 : p < g 0) (e0 : 0 ≤ e) (e1 : e < 5) (n0 : 0 ≤ n) (n1 : n ≤ 60) : v = dayN n.toNat g (38 + 5 * p + e) ∧ RM h' g := by
  have hB := W.1
  refine vr_beliefThen hs (fun v h' => v = dayN n.toNat g (38 + 5 * p + e) ∧ RM h' g) ?_
  intro v1 k1 hs1 v2 k2 hs2 z6 e6 z7 e7 z8 e8 v3 k3 hs3
  obtain ⟨a1, a2, a3⟩ := sr_down hs1 R (by omega)
  obtain ⟨b1, b2⟩ := sr_goDays hs2 a1 W n0 (by omega)
  have f6 := wr_d e6 (by omega) (by omega)
  have f7 := wr_d e7 (by omega) (by omega)
  have r := b1.bel (i := z7) (by omega) (by omega)
  obtain ⟨c1, c2, c3⟩ := sr_up (G := g) hs3 (fun i i1 i2 => by rw [b2 290 i (by omega)]; exact a2 i i1 i2) (by omega)
  refine ⟨?_, c1⟩
  rw [e8, r, show (38 : Int) + z7 = 38 + 5 * p + e by omega]
end SO
