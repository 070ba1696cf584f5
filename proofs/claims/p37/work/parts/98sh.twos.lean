/-! the saddest, twos who wish each other, rivals, who is free (made by a program) -/
/-- a two: what 0 they wish each other, 1 and are wed to one another, 2 they wish one third -/
noncomputable def twP (g : gV) (w a b : Int) : Prop := (w = 2 ∧ g (5 + 5 * a) = g (5 + 5 * b) ∧ g (5 + 5 * a) ≠ a ∧ g (5 + 5 * a) ≠ b ∧ g (5 + 5 * a) < g 0) ∨ (w ≠ 2 ∧ g (5 + 5 * a) = b ∧ g (5 + 5 * b) = a ∧ (w = 0 ∨ g (7 + 5 * a) = b + 1))
noncomputable def twR1 (g : gV) (w : Int) (a : Int) : Nat → Int := ctF (fun j => twP g w a (a + 1 + j))
noncomputable def twN (g : gV) (w : Int) (n : Nat) : Nat → Int
  | 0 => 0
  | k + 1 => twN g w n k + twR1 g w (k : Int) (n - 1 - k)
section TO
variable {h h' : fH} {g : gV} {p o e s t j w q a b c d i v x y n : Int} {m k : Nat}
theorem ctF_b (P : Int → Prop) : ∀ n : Nat, 0 ≤ ctF P n ∧ ctF P n ≤ (n : Int)
  | 0 => ⟨Int.le_refl 0, Int.le_refl 0⟩
  | n + 1 => by
    have := ctF_b P n
    show 0 ≤ ctF P n + bI (P (n : Int)) ∧ ctF P n + bI (P (n : Int)) ≤ ((n + 1 : Nat) : Int)
    by_cases hp : P (n : Int)
    · rw [bI_t hp]
      omega
    · rw [bI_f hp]
      omega
theorem ctF_0 {P : Int → Prop} : ∀ n : Nat, (∀ i, 0 ≤ i → i < (n : Int) → ¬ P i) → ctF P n = 0
  | 0, _ => rfl
  | n + 1, hp => by
    show ctF P n + bI (P (n : Int)) = 0
    rw [ctF_0 n (fun i i1 i2 => hp i i1 (by omega)), bI_f (hp n (by omega) (by omega))]
    rfl
theorem ctF_1 {P : Int → Prop} {i : Int} : ∀ n : Nat, 0 ≤ i → i < (n : Int) → P i → (∀ j, 0 ≤ j → j < (n : Int) → P j → j = i) → ctF P n = 1
  | 0, h1, h2, _, _ => by omega
  | n + 1, h1, h2, hp, hu => by
    show ctF P n + bI (P (n : Int)) = 1
    by_cases e : i = (n : Int)
    · rw [ctF_0 n (fun j j1 j2 q => by have := hu j j1 (by omega) q; omega), bI_t (e ▸ hp)]
      rfl
    · rw [ctF_1 n h1 (by omega) hp (fun j j1 j2 q => hu j j1 (by omega) q), bI_f (fun q => e (hu n (by omega) (by omega) q).symm)]
      rfl
theorem twN_b (g : gV) (w : Int) (n : Nat) : ∀ k : Nat, k ≤ n → 0 ≤ twN g w n k ∧ twN g w n k ≤ (n : Int) * (k : Int)
  | 0, _ => by
    show (0 : Int) ≤ 0 ∧ (0 : Int) ≤ (n : Int) * ((0 : Nat) : Int)
    rw [show ((0 : Nat) : Int) = 0 from rfl, Int.mul_zero]
    exact ⟨Int.le_refl 0, Int.le_refl 0⟩
  | k + 1, hk => by
    have i1 := twN_b g w n k (by omega)
    have i2 := ctF_b (fun j => twP g w (k : Int) ((k : Int) + 1 + j)) (n - 1 - k)
    show 0 ≤ twN g w n k + twR1 g w (k : Int) (n - 1 - k) ∧ twN g w n k + twR1 g w (k : Int) (n - 1 - k) ≤ (n : Int) * ((k + 1 : Nat) : Int)
    unfold twR1
    rw [show ((k + 1 : Nat) : Int) = (k : Int) + 1 by omega, Int.mul_add, Int.mul_one]
    omega
theorem tw_49 (W : WF g) (hk : (k : Int) ≤ g 0) (w : Int) : 0 ≤ twN g w (g 0).toNat k ∧ twN g w (g 0).toNat k ≤ 49 := by
  have hB := W.1
  have i1 := twN_b g w (g 0).toNat k (by omega)
  have : ((g 0).toNat : Int) * (k : Int) ≤ 7 * 7 := Int.mul_le_mul (by omega) (by omega) (by omega) (by omega)
  omega
/-- one row's worth, where one has at most one -/
theorem tw_row1 (hw : w ≠ 2) (h0 : 0 ≤ a) (h1 : a < g 0) : twR1 g w a ((g 0).toNat - 1 - a.toNat) = bI (a < g (5 + 5 * a) ∧ g (5 + 5 * a) < g 0 ∧ g (5 + 5 * g (5 + 5 * a)) = a ∧ (w = 0 ∨ g (7 + 5 * a) = g (5 + 5 * a) + 1)) := by
  unfold twR1
  by_cases hp : a < g (5 + 5 * a) ∧ g (5 + 5 * a) < g 0 ∧ g (5 + 5 * g (5 + 5 * a)) = a ∧ (w = 0 ∨ g (7 + 5 * a) = g (5 + 5 * a) + 1)
  · rw [bI_t hp]
    obtain ⟨p1, p2, p3, p4⟩ := hp
    refine ctF_1 (i := g (5 + 5 * a) - a - 1) _ (by omega) (by omega) (Or.inr ⟨hw, by omega, ?_, ?_⟩) (fun j j1 j2 q => ?_)
    · rw [show a + 1 + (g (5 + 5 * a) - a - 1) = g (5 + 5 * a) by omega]
      exact p3
    · rw [show a + 1 + (g (5 + 5 * a) - a - 1) = g (5 + 5 * a) by omega]
      exact p4
    · rcases q with q | q
      · exact absurd q.1 hw
      · have := q.2.1
        omega
  · rw [bI_f hp]
    refine ctF_0 _ (fun j j1 j2 q => hp ?_)
    rcases q with q | ⟨q1, q2, q3, q4⟩
    · exact absurd q.1 hw
    · refine ⟨by omega, by omega, ?_, ?_⟩
      · rw [q2]
        exact q3
      · rw [q2]
        exact q4
theorem tw_row0 (hn : g (5 + 5 * a) = a ∨ g 0 ≤ g (5 + 5 * a)) (n : Nat) : twR1 g 2 a n = 0 := ctF_0 _ (fun j j1 j2 q => by
  rcases q with q | q
  · have := q.2
    omega
  · exact q.1 rfl)
theorem ca_twos (hs : fS 140 [1, w] h v h') (R : RC h 11 g) (W : WF g) (hw : w = 0 ∨ w = 1) : v = twN g w (g 0).toNat (g 0).toNat := by
  have hB := W.1
  have jm : h 11 1 = g 0 := R.many
  refine vc_twosWhoWishEachOther hs (fun x0 x1 x2 x3 q => x1 = w ∧ q = h ∧ ∃ k : Nat, x3 = (k : Int) ∧ (k : Int) ≤ g 0 ∧ x2 = twN g w (g 0).toNat k) (fun v _ => v = twN g w (g 0).toNat (g 0).toNat) ?_ ?_
  · exact ⟨rfl, rfl, 0, rfl, by omega, rfl⟩
  · rintro x0 x1 x2 x3 q ⟨rfl, rfl, k, j1, j2, j3⟩ z4 e4
    rw [jm] at e4
    have tb := tw_49 W j2 x1
    refine ⟨fun q1 => ?_, fun q1 z5 e5 => ?_⟩
    · rw [toN (show g 0 = (k : Int) by omega)] at j3 ⊢
      exact j3
    · have e5 := e5.trans (R.wish (p := x3) (by omega) (by omega))
      have wp := W.per (p := x3) (by omega) (by omega)
      have wn : q 19 x3 = wedF (g (7 + 5 * x3)) := R.wed (p := x3) (by omega) (by omega)
      have hr := tw_row1 (g := g) (w := x1) (a := x3) (by omega) (by omega) (by omega)
      rw [j1, show ((k : Int)).toNat = k by omega] at hr
      rw [← j1] at hr
      have st : twN g x1 (g 0).toNat (k + 1) = x2 + bI (x3 < g (5 + 5 * x3) ∧ g (5 + 5 * x3) < g 0 ∧ g (5 + 5 * g (5 + 5 * x3)) = x3 ∧ (x1 = 0 ∨ g (7 + 5 * x3) = g (5 + 5 * x3) + 1)) := by
        show twN g x1 (g 0).toNat k + twR1 g x1 (k : Int) ((g 0).toNat - 1 - k) = _
        rw [← j1, hr, ← j3]
      have no : ¬ (x3 < g (5 + 5 * x3) ∧ g (5 + 5 * x3) < g 0 ∧ g (5 + 5 * g (5 + 5 * x3)) = x3 ∧ (x1 = 0 ∨ g (7 + 5 * x3) = g (5 + 5 * x3) + 1)) → ∀ {z : Int}, z = wr (x3 + 1) → x1 = x1 ∧ q = q ∧ ∃ k : Nat, z = (k : Int) ∧ (k : Int) ≤ g 0 ∧ x2 = twN g x1 (g 0).toNat k := fun hn {z} ez => by
        have fz := wr_d ez (by omega) (by omega)
        refine ⟨rfl, rfl, k + 1, by omega, by omega, ?_⟩
        rw [st, bI_f hn, Int.add_zero]
      have yes : (x3 < g (5 + 5 * x3) ∧ g (5 + 5 * x3) < g 0 ∧ g (5 + 5 * g (5 + 5 * x3)) = x3 ∧ (x1 = 0 ∨ g (7 + 5 * x3) = g (5 + 5 * x3) + 1)) → ∀ {y z : Int}, y = wr (x2 + 1) → z = wr (x3 + 1) → x1 = x1 ∧ q = q ∧ ∃ k : Nat, z = (k : Int) ∧ (k : Int) ≤ g 0 ∧ y = twN g x1 (g 0).toNat k := fun hn {y z} ey ez => by
        have fy := wr_d ey (by omega) (by omega)
        have fz := wr_d ez (by omega) (by omega)
        refine ⟨rfl, rfl, k + 1, by omega, by omega, ?_⟩
        rw [st, bI_t hn, fy]
      refine ⟨fun q2 z6 e6 => no (by omega) e6, fun q2 z6 e6 => ⟨fun q3 z7 e7 => no (by rw [jm] at e6; omega) e7, fun q3 z7 e7 => ?_⟩⟩
      rw [jm] at e6
      have e7 := e7.trans (R.wish (p := z5) (by omega) (by omega))
      rw [e5] at e7
      refine ⟨fun q4 z8 e8 => no (fun c => q4 (e7.trans c.2.2.1)) e8, fun q4 => ⟨fun q5 z8 e8 z9 e9 => yes ⟨by omega, by omega, e7.symm.trans q4, Or.inl q5⟩ e8 e9, fun q5 z8 e8 => ?_⟩⟩
      rw [wn] at e8
      have wu : wedF (g (7 + 5 * x3)) = z5 ↔ g (7 + 5 * x3) = z5 + 1 := by
        unfold wedF
        split <;> omega
      exact ⟨fun q6 z9 e9 => no (fun c => q6 (e8.trans (wu.mpr (by omega)))) e9, fun q6 z9 e9 z10 e10 => yes ⟨by omega, by omega, e7.symm.trans q4, Or.inr (by have := wu.mp (e8.symm.trans q6); omega)⟩ e9 e10⟩
theorem ca_rivals (hs : fS 148 [1] h v h') (R : RC h 11 g) (W : WF g) : v = twN g 2 (g 0).toNat (g 0).toNat := by
  have hB := W.1
  have jm : h 11 1 = g 0 := R.many
  refine vc_rivals hs (fun x0 x1 x2 q => q = h ∧ ∃ k : Nat, x2 = (k : Int) ∧ (k : Int) ≤ g 0 ∧ x1 = twN g 2 (g 0).toNat k) (fun x0 x1 x2 x3 x4 q => q = h ∧ ∃ k m : Nat, x2 = (k : Int) ∧ (k : Int) < g 0 ∧ x3 = g (5 + 5 * x2) ∧ x3 ≠ x2 ∧ 0 ≤ x3 ∧ x3 < g 0 ∧ x4 = x2 + 1 + (m : Int) ∧ x4 ≤ g 0 ∧ ∃ u, CT (fun j => twP g 2 x2 (x2 + 1 + j)) m u ∧ x1 = twN g 2 (g 0).toNat k + u) (fun v _ => v = twN g 2 (g 0).toNat (g 0).toNat) ?_ ?_ ?_
  · exact ⟨rfl, 0, rfl, by omega, rfl⟩
  · rintro x0 x1 x2 q ⟨rfl, k, j1, j2, j3⟩ z3 e3
    rw [jm] at e3
    refine ⟨fun q1 => ?_, fun q1 z4 e4 => ?_⟩
    · rw [toN (show g 0 = (k : Int) by omega)] at j3 ⊢
      exact j3
    · have e4 := e4.trans (R.wish (p := x2) (by omega) (by omega))
      have wp := W.per (p := x2) (by omega) (by omega)
      have no : (g (5 + 5 * x2) = x2 ∨ g 0 ≤ g (5 + 5 * x2)) → ∀ {z : Int}, z = wr (x2 + 1) → q = q ∧ ∃ k : Nat, z = (k : Int) ∧ (k : Int) ≤ g 0 ∧ x1 = twN g 2 (g 0).toNat k := fun hn {z} ez => by
        have fz := wr_d ez (by omega) (by omega)
        refine ⟨rfl, k + 1, by omega, by omega, ?_⟩
        show x1 = twN g 2 (g 0).toNat k + twR1 g 2 (k : Int) ((g 0).toNat - 1 - k)
        rw [← j1, tw_row0 hn, ← j3, Int.add_zero]
      refine ⟨fun q2 z5 e5 => no (Or.inl (by omega)) e5, fun q2 => ⟨fun q3 => by omega, fun q3 z5 e5 => ⟨fun q4 z6 e6 => no (Or.inr (by rw [jm] at e5; omega)) e6, fun q4 z6 e6 => ?_⟩⟩⟩
      rw [jm] at e5
      have f6 := wr_d e6 (by omega) (by omega)
      exact ⟨rfl, k, 0, j1, by omega, e4, q2, q3, by omega, by omega, by omega, 0, rfl, by rw [j3]; omega⟩
  · rintro x0 x1 x2 x3 x4 q ⟨rfl, k, m, j1, j2, j3, j4, j5, j6, j7, j8, u, j9, j10⟩ z5 e5
    rw [jm] at e5
    have cb := CT_b j9
    have tb := tw_49 W (k := k) (by omega) 2
    refine ⟨fun q1 z6 e6 => ?_, fun q1 => ⟨fun q2 z6 e6 => ?_, fun q2 z6 e6 => ?_⟩⟩
    · have f6 := wr_d e6 (by omega) (by omega)
      refine ⟨rfl, k + 1, by omega, by omega, ?_⟩
      show x1 = twN g 2 (g 0).toNat k + ctF (fun j => twP g 2 (k : Int) ((k : Int) + 1 + j)) ((g 0).toNat - 1 - k)
      rw [j10, j9.eq, ← j1, show (g 0).toNat - 1 - k = m by omega]
    · have f6 := wr_d e6 (by omega) (by omega)
      refine ⟨rfl, k, m + 1, j1, j2, j3, j4, j5, j6, by omega, by omega, u, j9.n (x := (m : Int)) rfl (fun c => ?_), j10⟩
      rcases c with c | c
      · have := c.2
        omega
      · exact c.1 rfl
    · have e6 := e6.trans (R.wish (p := x4) (by omega) (by omega))
      refine ⟨fun q3 z7 e7 => ?_, fun q3 z7 e7 z8 e8 => ?_⟩
      · have f7 := wr_d e7 (by omega) (by omega)
        refine ⟨rfl, k, m + 1, j1, j2, j3, j4, j5, j6, by omega, by omega, u, j9.n (x := (m : Int)) rfl (fun c => ?_), j10⟩
        rcases c with c | c
        · have := c.2.1
          rw [← j7] at this
          omega
        · exact c.1 rfl
      · have f7 := wr_d e7 (by omega) (by omega)
        have f8 := wr_d e8 (by omega) (by omega)
        refine ⟨rfl, k, m + 1, j1, j2, j3, j4, j5, j6, by omega, by omega, u + 1, j9.y (x := (m : Int)) rfl (Or.inl ⟨rfl, ?_, by omega, ?_, by omega⟩), by omega⟩
        · rw [← j7]
          omega
        · rw [← j7]
          omega
theorem ra_twos (hs : fS 236 [271, w] h v h') (R : RM h g) (W : WF g) (hw : 0 ≤ w ∧ w ≤ 2) : v = twN g w (g 0).toNat (g 0).toNat := by
  have hB := W.1
  refine vr_twosOf hs (fun x0 x1 x2 x3 q => x0 = 271 ∧ x1 = w ∧ q = h ∧ ∃ k : Nat, x3 = (k : Int) ∧ (k : Int) ≤ g 0 ∧ x2 = twN g w (g 0).toNat k) (fun x0 x1 x2 x3 x4 q => x0 = 271 ∧ x1 = w ∧ q = h ∧ ∃ k m : Nat, x3 = (k : Int) ∧ (k : Int) < g 0 ∧ x4 = x3 + 1 + (m : Int) ∧ x4 ≤ g 0 ∧ ∃ u, CT (fun j => twP g w x3 (x3 + 1 + j)) m u ∧ x2 = twN g w (g 0).toNat k + u) (fun v _ => v = twN g w (g 0).toNat (g 0).toNat) ?_ ?_ ?_
  · exact ⟨rfl, rfl, rfl, 0, rfl, by omega, rfl⟩
  · rintro x0 x1 x2 x3 q ⟨rfl, rfl, rfl, k, j1, j2, j3⟩ z4 e4
    rw [R.many] at e4
    refine ⟨fun q1 => ?_, fun q1 z5 e5 => ?_⟩
    · rw [toN (show g 0 = (k : Int) by omega)] at j3 ⊢
      exact j3
    · have f5 := wr_d e5 (by omega) (by omega)
      exact ⟨rfl, rfl, rfl, k, 0, j1, by omega, by omega, by omega, 0, rfl, by rw [j3]; omega⟩
  · rintro x0 x1 x2 x3 x4 q ⟨rfl, rfl, rfl, k, m, j1, j2, j7, j8, u, j9, j10⟩ z5 e5
    rw [R.many] at e5
    have cb := CT_b j9
    have tb := tw_49 W (k := k) (by omega) x1
    refine ⟨fun q1 z6 e6 => ?_, fun q1 z6 e6 z7 e7 => ?_⟩
    · have f6 := wr_d e6 (by omega) (by omega)
      refine ⟨rfl, rfl, rfl, k + 1, by omega, by omega, ?_⟩
      show x2 = twN g x1 (g 0).toNat k + ctF (fun j => twP g x1 (k : Int) ((k : Int) + 1 + j)) ((g 0).toNat - 1 - k)
      rw [j10, j9.eq, ← j1, show (g 0).toNat - 1 - k = m by omega]
    · have r3 : q 274 x3 = g (5 + 5 * x3) := R.wish (by omega) (by omega)
      have r4 : q 274 x4 = g (5 + 5 * x4) := R.wish (by omega) (by omega)
      have r5 : q 276 x3 = g (7 + 5 * x3) := R.wed (by omega) (by omega)
      have r6 : q 271 0 = g 0 := R.many
      have tp : ∀ {P : Prop}, P = ((x1 = 2 ∧ g (5 + 5 * x3) = g (5 + 5 * x4) ∧ g (5 + 5 * x3) ≠ x3 ∧ g (5 + 5 * x3) ≠ x4 ∧ g (5 + 5 * x3) < g 0) ∨ (x1 ≠ 2 ∧ g (5 + 5 * x3) = x4 ∧ g (5 + 5 * x4) = x3 ∧ (x1 = 0 ∨ g (7 + 5 * x3) = x4 + 1))) → P = twP g x1 x3 (x3 + 1 + (m : Int)) := fun e => by
        rw [e, ← j7]
        rfl
      have no : ¬ ((x1 = 2 ∧ g (5 + 5 * x3) = g (5 + 5 * x4) ∧ g (5 + 5 * x3) ≠ x3 ∧ g (5 + 5 * x3) ≠ x4 ∧ g (5 + 5 * x3) < g 0) ∨ (x1 ≠ 2 ∧ g (5 + 5 * x3) = x4 ∧ g (5 + 5 * x4) = x3 ∧ (x1 = 0 ∨ g (7 + 5 * x3) = x4 + 1))) → ∀ {y z : Int}, y = wr (x2 + 0) → z = wr (x4 + 1) → (271 : Int) = 271 ∧ x1 = x1 ∧ q = q ∧ ∃ k m : Nat, x3 = (k : Int) ∧ (k : Int) < g 0 ∧ z = x3 + 1 + (m : Int) ∧ z ≤ g 0 ∧ ∃ u, CT (fun j => twP g x1 x3 (x3 + 1 + j)) m u ∧ y = twN g x1 (g 0).toNat k + u := fun hn {y z} ey ez => by
        have fy := wr_d ey (by omega) (by omega)
        have fz := wr_d ez (by omega) (by omega)
        refine ⟨rfl, rfl, rfl, k, m + 1, j1, j2, by omega, by omega, u, j9.n (x := (m : Int)) rfl ?_, by omega⟩
        rw [← tp rfl]
        exact hn
      have yes : ((x1 = 2 ∧ g (5 + 5 * x3) = g (5 + 5 * x4) ∧ g (5 + 5 * x3) ≠ x3 ∧ g (5 + 5 * x3) ≠ x4 ∧ g (5 + 5 * x3) < g 0) ∨ (x1 ≠ 2 ∧ g (5 + 5 * x3) = x4 ∧ g (5 + 5 * x4) = x3 ∧ (x1 = 0 ∨ g (7 + 5 * x3) = x4 + 1))) → ∀ {y z : Int}, y = wr (x2 + 1) → z = wr (x4 + 1) → (271 : Int) = 271 ∧ x1 = x1 ∧ q = q ∧ ∃ k m : Nat, x3 = (k : Int) ∧ (k : Int) < g 0 ∧ z = x3 + 1 + (m : Int) ∧ z ≤ g 0 ∧ ∃ u, CT (fun j => twP g x1 x3 (x3 + 1 + j)) m u ∧ y = twN g x1 (g 0).toNat k + u := fun hn {y z} ey ez => by
        have fy := wr_d ey (by omega) (by omega)
        have fz := wr_d ez (by omega) (by omega)
        refine ⟨rfl, rfl, rfl, k, m + 1, j1, j2, by omega, by omega, u + 1, j9.y (x := (m : Int)) rfl ?_, by omega⟩
        rw [← tp rfl]
        exact hn
      clear tp cb tb j9 j10
      exact ⟨fun q1 => ⟨fun q2 => fun z8 e8 => ⟨fun q3 => fun z9 e9 => fun z10 e10 => no (by omega) e9 e10, fun q3 => fun z9 e9 => ⟨fun q4 => fun z10 e10 => fun z11 e11 => no (by omega) e10 e11, fun q4 => ⟨fun q5 => fun z10 e10 => fun z11 e11 => yes (by omega) e10 e11, fun q5 => fun z10 e10 => fun z11 e11 => ⟨fun q6 => fun z12 e12 => fun z13 e13 => no (by have := wr_d e11 (by omega) (by omega); omega) e12 e13, fun q6 => fun z12 e12 => fun z13 e13 => yes (by have := wr_d e11 (by omega) (by omega); omega) e12 e13⟩⟩⟩⟩, fun q2 => fun z8 e8 => fun z9 e9 => no (by omega) e8 e9⟩, fun q1 => fun z8 e8 => ⟨fun q7 => ⟨fun q8 => fun z9 e9 => ⟨fun q9 => fun z10 e10 => fun z11 e11 => no (by omega) e10 e11, fun q9 => fun z10 e10 => ⟨fun q10 => fun z11 e11 => fun z12 e12 => no (by omega) e11 e12, fun q10 => ⟨fun q11 => fun z11 e11 => fun z12 e12 => yes (by omega) e11 e12, fun q11 => fun z11 e11 => fun z12 e12 => ⟨fun q12 => fun z13 e13 => fun z14 e14 => no (by have := wr_d e12 (by omega) (by omega); omega) e13 e14, fun q12 => fun z13 e13 => fun z14 e14 => yes (by have := wr_d e12 (by omega) (by omega); omega) e13 e14⟩⟩⟩⟩, fun q8 => fun z9 e9 => fun z10 e10 => no (by omega) e9 e10⟩, fun q7 => fun z9 e9 => ⟨fun q13 => ⟨fun q14 => fun z10 e10 => ⟨fun q15 => fun z11 e11 => fun z12 e12 => no (by omega) e11 e12, fun q15 => fun z11 e11 => ⟨fun q16 => fun z12 e12 => fun z13 e13 => no (by omega) e12 e13, fun q16 => ⟨fun q17 => fun z12 e12 => fun z13 e13 => yes (by omega) e12 e13, fun q17 => fun z12 e12 => fun z13 e13 => ⟨fun q18 => fun z14 e14 => fun z15 e15 => no (by have := wr_d e13 (by omega) (by omega); omega) e14 e15, fun q18 => fun z14 e14 => fun z15 e15 => yes (by have := wr_d e13 (by omega) (by omega); omega) e14 e15⟩⟩⟩⟩, fun q14 => fun z10 e10 => fun z11 e11 => no (by omega) e10 e11⟩, fun q13 => fun z10 e10 => fun z11 e11 => ⟨fun q19 => ⟨fun q20 => fun z12 e12 => ⟨fun q21 => fun z13 e13 => fun z14 e14 => no (by omega) e13 e14, fun q21 => fun z13 e13 => ⟨fun q22 => fun z14 e14 => fun z15 e15 => no (by omega) e14 e15, fun q22 => ⟨fun q23 => fun z14 e14 => fun z15 e15 => yes (by omega) e14 e15, fun q23 => fun z14 e14 => fun z15 e15 => ⟨fun q24 => fun z16 e16 => fun z17 e17 => no (by have := wr_d e15 (by omega) (by omega); omega) e16 e17, fun q24 => fun z16 e16 => fun z17 e17 => yes (by have := wr_d e15 (by omega) (by omega); omega) e16 e17⟩⟩⟩⟩, fun q20 => fun z12 e12 => fun z13 e13 => no (by omega) e12 e13⟩, fun q19 => ⟨fun q25 => fun z12 e12 => ⟨fun q26 => fun z13 e13 => fun z14 e14 => no (by omega) e13 e14, fun q26 => fun z13 e13 => ⟨fun q27 => fun z14 e14 => fun z15 e15 => no (by omega) e14 e15, fun q27 => ⟨fun q28 => fun z14 e14 => fun z15 e15 => yes (by omega) e14 e15, fun q28 => fun z14 e14 => fun z15 e15 => ⟨fun q29 => fun z16 e16 => fun z17 e17 => no (by have := wr_d e15 (by omega) (by omega); omega) e16 e17, fun q29 => fun z16 e16 => fun z17 e17 => yes (by have := wr_d e15 (by omega) (by omega); omega) e16 e17⟩⟩⟩⟩, fun q25 => fun z12 e12 => fun z13 e13 => yes (by omega) e12 e13⟩⟩⟩⟩⟩

end TO
