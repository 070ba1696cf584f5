/-! answers: match, the reference's -/
noncomputable def rD (g : gV) (i : Int) : Int := MX (prF g) (g 0) (g 0 - i / 128).toNat (fun x => ¬ hb (i % 128) x)
def rdT (g : gV) (h : fH) (m : Int) : Prop := ∀ i, m < i → i ≤ 128 * g 0 + 127 → h 294 i = rD g i
def wgS (g : gV) (h : fH) (m : Int) : Prop := ∀ p, 0 ≤ p → p < m → h 295 p = btF (fun o => o ≠ p ∧ betE g o p) (g 0).toNat
def fr8 (h h' : fH) : Prop := ∀ c k, c ≠ 294 → c ≠ 295 → h' c k = h c k
def roP (g : gV) (k : Nat) (A : Int → Prop) : Int → Prop := fun q => g 0 - 1 - (k : Int) < q ∧ q < g 0 ∧ A q ∧ prF g (g 0 - 1 - (k : Int)) q
noncomputable def roF (g : gV) (k : Nat) (A : Int → Prop) : Int → Int := fun q => 1 + MX (prF g) (g 0) k (fun x => A x ∧ x ≠ q)
def ro2 (g : gV) (h : fH) (x0 x1 x2 x3 x4 : Int) (q : fH) : Prop := 271 = x0 ∧ 0 ≤ x1 ∧ x1 ≤ 128 * g 0 + 127 ∧ x2 = x1 / 128 ∧ x3 = x1 % 128 ∧ fr8 h q ∧ wgS g q (g 0) ∧ rdT g q x1 ∧ ((x2 = g 0 ∧ g 0 ≤ x4 ∧ q 294 x1 = 0) ∨ ∃ k m : Nat, g 0 = x2 + 1 + (k : Int) ∧ x4 = (m : Int) ∧ x2 + 1 ≤ x4 ∧ x4 ≤ g 0 ∧ (hb x3 x2 → q 294 x1 = MX (prF g) (g 0) k (fun x => ¬ hb x3 x)) ∧ (¬ hb x3 x2 → q 294 x1 = mxF (roP g k (fun x => ¬ hb x3 x)) (roF g k (fun x => ¬ hb x3 x)) (MX (prF g) (g 0) k (fun x => ¬ hb x3 x)) m))
section MB
variable {h h' : fH} {v x s t p q : Int} {g : gV} {G : gS} {k : Nat}
theorem wg_at (w : wgS g h (g 0)) (n0 : 0 ≤ g 0) (n1 : g 0 ≤ 7) (p0 : 0 ≤ p) (p1 : p < g 0) (q0 : 0 ≤ q) (q1 : q < g 0) : hb (h 295 p) q ↔ eF g q p := by
  obtain ⟨b1, b2⟩ := bt_hb (P := fun o => o ≠ p ∧ betE g o p) (g 0).toNat (by omega)
  rw [w p p0 p1, b2 q q0 (by omega)]
  exact ⟨fun u => u.2, fun u => ⟨by omega, u⟩⟩
/-- what is reckoned one further on, with one more taken -/
theorem rd_more (n1 : g 0 ≤ 7) (S : bS s) (p0 : 0 ≤ p) (hk : g 0 = p + 1 + (k : Int)) (q0 : p < q) (q1 : q < g 0) : bS (xor' (xor' s (xshl 1 q)) (xshl 1 p)) ∧ rD g (128 * (p + 1) + xor' (xor' s (xshl 1 q)) (xshl 1 p)) = MX (prF g) (g 0) k (fun x => ¬ hb s x ∧ x ≠ q) := by
  obtain ⟨a1, a2⟩ := sh_at (p := q) (by omega) (by omega)
  obtain ⟨b1, b2⟩ := sh_at p0 (by omega : p < 7)
  obtain ⟨c1, c2⟩ := or_at S a1
  obtain ⟨d1, d2⟩ := or_at c1 b1
  have d1' := d1
  unfold bS at d1'
  refine ⟨d1, ?_⟩
  unfold rD
  rw [show (128 * (p + 1) + xor' (xor' s (xshl 1 q)) (xshl 1 p)) / 128 = p + 1 by omega, show (128 * (p + 1) + xor' (xor' s (xshl 1 q)) (xshl 1 p)) % 128 = xor' (xor' s (xshl 1 q)) (xshl 1 p) by omega, show (g 0 - (p + 1)).toNat = k by omega]
  refine MX_cg k _ _ (fun x x0 x1 => ?_)
  rw [d2 x (by omega) (by omega), c2 x (by omega) (by omega), a2 x (by omega) (by omega), b2 x (by omega) (by omega)]
  exact ⟨fun u => ⟨fun w => u (Or.inl (Or.inl w)), fun w => u (Or.inl (Or.inr w))⟩, fun u w => w.elim (fun w => w.elim u.1 u.2) (fun w => by omega)⟩
theorem rd_same (S : bS s) (hk : g 0 = p + (k : Int)) : rD g (128 * p + s) = MX (prF g) (g 0) k (fun x => ¬ hb s x) := by
  unfold bS at S
  unfold rD
  rw [show (128 * p + s) / 128 = p by omega, show (128 * p + s) % 128 = s by omega, show (g 0 - p).toNat = k by omega]
theorem rD_b (i : Int) (h0 : 0 ≤ i) (h1 : 0 ≤ g 0) : 0 ≤ rD g i ∧ rD g i ≤ g 0 := by
  have b := MX_b (R := prF g) (n := g 0) (g 0 - i / 128).toNat (fun x => ¬ hb (i % 128) x)
  unfold rD
  omega
theorem sr_layMatch (hs : fS 215 [271] h v h') (M : RM h g) (W : WF g) (hd : g 1 ≤ 4900) : fr8 h h' ∧ wgS g h' (g 0) ∧ rdT g h' (-1) := by
  have hB := W.1
  refine vr_layMatch hs (fun x0 x1 q => 271 = x0 ∧ 0 ≤ x1 ∧ x1 ≤ g 0 ∧ fr8 h q ∧ wgS g q x1) (fun x0 x1 q => 271 = x0 ∧ -1 ≤ x1 ∧ x1 ≤ 128 * g 0 + 127 ∧ fr8 h q ∧ wgS g q (g 0) ∧ rdT g q x1) (fun x0 x1 x2 x3 x4 q => ro2 g h x0 x1 x2 x3 x4 q) (fun _ h' => fr8 h h' ∧ wgS g h' (g 0) ∧ rdT g h' (-1)) ?_ ?_ ?_ ?_
  · exact ⟨rfl, by omega, hB.1, fun c k _ _ => rfl, fun p p0 p1 => by omega⟩
  · rintro x0 x1 q ⟨rfl, i1, i2, i3, i4⟩ z2 e2
    have Mq : RM q g := RM_cg M (fun c k j1 j2 _ => i3 c k (by omega) (by omega))
    rw [Mq.many] at e2
    refine ⟨fun q1 z3 e3 z4 e4 z5 e5 => ?_, fun q1 v1 k1 hs1 k2 ek2 z4 e4 => ?_⟩
    · rw [Mq.many] at e3
      have f4 := wr_d e4 (by omega) (by omega)
      have f5 := wr_d e5 (by omega) (by omega)
      refine ⟨rfl, by omega, by omega, i3, by rw [show g 0 = x1 by omega]; exact i4, fun i a b => by omega⟩
    · obtain ⟨r0, r1⟩ := sr_wooersOf hs1 Mq W hd i1 (by omega)
      rw [r0] at ek2
      have f4 := wr_d e4 (by omega) (by omega)
      refine ⟨rfl, by omega, by omega, fun c k j1 j2 => ?_, fun p p0 p1 => ?_⟩
      · rw [ek2, fu_c j2]
        exact i3 c k j1 j2
      · rw [ek2]
        by_cases d : p = x1
        · rw [fu_e rfl d, d]
          exact r1
        · rw [fu_k d]
          exact i4 p p0 (by omega)
  · rintro x0 x1 q ⟨rfl, i1, i2, i3, i4, i5⟩
    have Mq : RM q g := RM_cg M (fun c k j1 j2 _ => i3 c k (by omega) (by omega))
    refine ⟨fun q1 => ⟨i3, i4, by rw [show (-1 : Int) = x1 by omega]; exact i5⟩, fun q1 z2 e2 z3 e3 z4 e4 => ?_⟩
    rw [xdiv_nn q1 (by omega) (by omega)] at e2
    rw [xrem_nn q1 (by omega) (by omega)] at e3
    rw [Mq.many] at e4
    refine ⟨fun q2 z5 e5 z6 e6 z7 e7 z8 e8 k1 ek1 z9 e9 => ?_, fun q2 k1 ek1 z5 e5 => ?_⟩
    · have f5 := wr_d e5 (by omega) (by omega)
      have f6 := wr_d e6 (by omega) (by omega)
      have f7 := wr_d e7 (by omega) (by omega)
      have f9 := wr_d e9 (by omega) (by omega)
      obtain ⟨k, hk⟩ : ∃ k : Nat, g 0 = z2 + 1 + (k : Int) := ⟨(g 0 - 1 - z2).toNat, by omega⟩
      obtain ⟨m, hm⟩ : ∃ m : Nat, z9 = (m : Int) := ⟨z9.toNat, by omega⟩
      have S : bS z3 := ⟨by omega, by omega⟩
      rw [i5 z7 (by omega) (by omega), f7, f6, f5, rd_same S (k := k) (by omega)] at e8
      have hx : k1 294 x1 = MX (prF g) (g 0) k (fun x => ¬ hb z3 x) := by
        rw [ek1, fu_e rfl rfl, e8]
      refine ⟨rfl, q1, i2, e2, e3, fun c k j1 j2 => ?_, fun p p0 p1 => ?_, fun i a b => ?_, Or.inr ⟨k, m, hk, hm, by omega, by omega, fun _ => hx, fun _ => ?_⟩⟩
      · rw [ek1, fu_c j1]
        exact i3 c k j1 j2
      · rw [ek1, fu_c (by omega)]
        exact i4 p p0 p1
      · rw [ek1, fu_k (by omega)]
        exact i5 i a b
      · rw [hx, mxF_hi (P := roP g k (fun x => ¬ hb z3 x)) (j := 0) m (by omega) (fun i j1 j2 w => by have := w.1; omega)]
        rfl
    · have f5 := wr_d e5 (by omega) (by omega)
      refine ⟨rfl, q1, i2, e2, e3, fun c k j1 j2 => ?_, fun p p0 p1 => ?_, fun i a b => ?_, Or.inl ⟨by omega, by omega, by rw [ek1, fu_e rfl rfl]⟩⟩
      · rw [ek1, fu_c j1]
        exact i3 c k j1 j2
      · rw [ek1, fu_c (by omega)]
        exact i4 p p0 p1
      · rw [ek1, fu_k (by omega)]
        exact i5 i a b
  · rintro x0 x1 x2 x3 x4 q ⟨rfl, i1, i2, i3, i4, i5, i6, i7, i8⟩ z5 e5
    have Mq : RM q g := RM_cg M (fun c k j1 j2 _ => i5 c k (by omega) (by omega))
    rw [Mq.many] at e5
    have S : bS x3 := ⟨by omega, by omega⟩
    refine ⟨fun q1 z6 e6 => ?_, fun q1 z6 e6 z7 e7 => ?_⟩
    · have f6 := wr_d e6 (by omega) (by omega)
      refine ⟨rfl, by omega, by omega, i5, i6, fun i a b => ?_⟩
      by_cases d : i = x1
      · rw [d]
        unfold rD
        rw [← i3, ← i4]
        rcases i8 with ⟨w1, w2, w3⟩ | ⟨k, m, w1, w2, w3, w4, w5, w6⟩
        · rw [w3, show (g 0 - x2).toNat = 0 by omega]
          rfl
        · rw [show (g 0 - x2).toNat = k + 1 by omega]
          have hk : g 0 - 1 - (k : Int) = x2 := by omega
          by_cases c : hb x3 x2
          · rw [w5 c, MX_n (A := fun x => ¬ hb x3 x) (by rw [hk]; exact fun u => u c)]
          · rw [w6 c, MX_y (A := fun x => ¬ hb x3 x) (by rw [hk]; exact c)]
            exact (mxF_hi (P := roP g k (fun x => ¬ hb x3 x)) (f := roF g k (fun x => ¬ hb x3 x)) (j := m) 7 (by omega) (fun i j1 j2 w => by have := w.2.1; omega)).symm
      · exact i7 i (by omega) b
    · rcases i8 with ⟨w1, w2, w3⟩ | ⟨k, m, w1, w2, w3, w4, w5, w6⟩
      · omega
      have hk : g 0 - 1 - (k : Int) = x2 := by omega
      have m7 : z7 = 1 ↔ hb x3 x2 := by rw [e7, e6]
      have nx : (¬ hb x3 x2 → ¬ roP g k (fun x => ¬ hb x3 x) x4) → ∀ {z : Int}, z = wr (x4 + 1) → ro2 g h 271 x1 x2 x3 z q := fun hn {z} ez => by
        have fz := wr_d ez (by omega) (by omega)
        refine ⟨rfl, i1, i2, i3, i4, i5, i6, i7, Or.inr ⟨k, m + 1, w1, by omega, by omega, by omega, w5, fun c => ?_⟩⟩
        rw [mxF_n (P := roP g k (fun x => ¬ hb x3 x)) (by rw [← w2]; exact hn c)]
        exact w6 c
      have yes : ¬ hb x3 x2 → ¬ hb x3 x4 → prF g x2 x4 → ∀ {y16 y17 y18 y19 y20 y21 y22 y23 y24 : Int}, y16 = wr (x2 + 1) → y17 = wr (128 * y16) → y18 = xshl 1 x4 → y19 = xor' x3 y18 → y20 = xshl 1 x2 → y21 = xor' y19 y20 → y22 = wr (y17 + y21) → y23 = q 294 y22 → y24 = wr (1 + y23) → ∀ {zz zn : Int} {kk : fH}, zz = xmax (q 294 x1) y24 → kk = fu q 294 x1 zz → zn = wr (x4 + 1) → ro2 g h 271 x1 x2 x3 zn kk := fun c1 c2 c3 {y16 y17 y18 y19 y20 y21 y22 y23 y24} d16 d17 d18 d19 d20 d21 d22 d23 d24 {zz zn kk} ez ek en => by
        obtain ⟨o1, o2⟩ := rd_more (by omega) S (by omega : 0 ≤ x2) w1 (by omega : x2 < x4) (by omega)
        have g21 : y21 = xor' (xor' x3 (xshl 1 x4)) (xshl 1 x2) := by rw [d21, d19, d20, d18]
        rw [← g21] at o1 o2
        unfold bS at o1
        have g16 := wr_d d16 (by omega) (by omega)
        have g17 := wr_d d17 (by omega) (by omega)
        have g22 := wr_d d22 (by omega) (by omega)
        have gn := wr_d en (by omega) (by omega)
        rw [i7 y22 (by omega) (by omega), g22, g17, g16, o2] at d23
        have bb := MX_b (R := prF g) (n := g 0) k (fun x => ¬ hb x3 x ∧ x ≠ x4)
        have g24 := wr_d d24 (by omega) (by omega)
        refine ⟨rfl, i1, i2, i3, i4, fun c k j1 j2 => ?_, fun p p0 p1 => ?_, fun i a b => ?_, Or.inr ⟨k, m + 1, w1, by omega, by omega, by omega, fun c => absurd c c1, fun _ => ?_⟩⟩
        · rw [ek, fu_c j1]
          exact i5 c k j1 j2
        · rw [ek, fu_c (by omega)]
          exact i6 p p0 p1
        · rw [ek, fu_k (by omega)]
          exact i7 i a b
        · rw [ek, fu_e rfl rfl, ez, w6 c1, g24, d23, w2, mxF_y (P := roP g k (fun x => ¬ hb x3 x)) (by rw [← w2]; exact ⟨by omega, by omega, c2, by rw [hk]; exact c3⟩)]
          rfl
      have pair : ∀ {u u' : Int}, u = xshr (q 295 x2) x4 → u' = xand u 1 → (u' = 1 ↔ eF g x4 x2) := fun {u u'} d1 d2 => by
        rw [d2, d1]
        exact wg_at i6 hB.1 hB.2.1 (by omega) (by omega) (by omega) (by omega)
      have pair' : ∀ {u u' : Int}, u = xshr (q 295 x4) x2 → u' = xand u 1 → (u' = 1 ↔ eF g x2 x4) := fun {u u'} d1 d2 => by
        rw [d2, d1]
        exact wg_at i6 hB.1 hB.2.1 (by omega) (by omega) (by omega) (by omega)
      have mx1 : ∀ {a b : Int}, b ≤ a → a = xmax a b := fun {a b} w => by
        unfold xmax
        split <;> omega
      have mx2 : ∀ {a b : Int}, a < b → b = xmax a b := fun {a b} w => by
        unfold xmax
        split <;> omega
      refine ⟨fun q2 z8 e8 z9 e9 => ?_, fun q2 z8 e8 => nx (fun c => absurd (m7.mp q2) c) e8⟩
      have c1 : ¬ hb x3 x2 := fun w => q2 (m7.mpr w)
      have m9 : z9 = 1 ↔ hb x3 x4 := by rw [e9, e8]
      refine ⟨fun q3 z10 e10 z11 e11 z12 e12 => ?_, fun q3 z10 e10 => nx (fun _ u => u.2.2.1 (m9.mp q3)) e10⟩
      have c2 : ¬ hb x3 x4 := fun w => q3 (m9.mpr w)
      rw [e10] at e11
      have m12 := pair e11 e12
      refine ⟨fun q4 z13 e13 z14 e14 z15 e15 => ?_, fun q4 z13 e13 z14 e14 z15 e15 z16 e16 z17 e17 z18 e18 z19 e19 z20 e20 z21 e21 z22 e22 => ⟨fun q5 z23 e23 k1 ek1 z24 e24 => ?_, fun q5 k1 ek1 z23 e23 => ?_⟩⟩
      · rw [e13] at e14
        have m15 := pair' e14 e15
        refine ⟨fun q5 z16 e16 => nx (fun _ u => ?_) e16, fun q5 z16 e16 z17 e17 z18 e18 z19 e19 z20 e20 z21 e21 z22 e22 z23 e23 z24 e24 z25 e25 => ⟨fun q6 z26 e26 k1 ek1 z27 e27 => ?_, fun q6 k1 ek1 z26 e26 => ?_⟩⟩
        · have u4 := u.2.2.2
          rw [hk] at u4
          exact u4.elim (fun w => q4 (m12.mpr w)) (fun w => q5 (m15.mpr w))
        · exact yes c1 c2 (Or.inr (m15.mp q5)) e16 e17 e18 e19 e20 e21 e22 e23 e24 (by rw [e26]; exact mx1 (by omega)) ek1 e27
        · exact yes c1 c2 (Or.inr (m15.mp q5)) e16 e17 e18 e19 e20 e21 e22 e23 e24 (mx2 (by omega)) ek1 e26
      · exact yes c1 c2 (Or.inl (m12.mp q4)) e13 e14 e15 e16 e17 e18 e19 e20 e21 (by rw [e23]; exact mx1 (by omega)) ek1 e24
      · exact yes c1 c2 (Or.inl (m12.mp q4)) e13 e14 e15 e16 e17 e18 e19 e20 e21 (mx2 (by omega)) ek1 e23
theorem sr_partnerOf (hs : fS 218 [271, p, s] h v h') (Mm : h 271 0 = g 0) (n0 : 0 ≤ g 0) (n1 : g 0 ≤ 7) (w : wgS g h (g 0)) (D : rdT g h (-1)) (S : bS s) (p0 : 0 ≤ p) (p1 : p < g 0) (hk : g 0 - 1 - (k : Int) = p) : h' = h ∧ (hb s p → v = -9) ∧ (¬ hb s p → FP (prF g) (g 0) k (fun x => ¬ hb s x) v) := by
  unfold FP
  rw [hk]
  have SS := S
  unfold bS at SS
  have same := rd_same (g := g) (p := p) (k := k + 1) S (by omega)
  refine vr_partnerOf hs (fun x0 x1 x2 x3 q => 271 = x0 ∧ p = x1 ∧ s = x2 ∧ h = q ∧ p + 1 ≤ x3 ∧ x3 ≤ g 0 ∧ ∀ i, p < i → i < x3 → ¬ hb s p → ¬ hb s i → prF g p i → ¬ eqF (prF g) (g 0) k (fun x => ¬ hb s x) i) (fun v h' => h' = h ∧ (hb s p → v = -9) ∧ (¬ hb s p → ((v = -9 ∧ ∀ q, p < q → q < g 0 → ¬ hb s q → prF g p q → ¬ eqF (prF g) (g 0) k (fun x => ¬ hb s x) q) ∨ (p < v ∧ v < g 0 ∧ ¬ hb s v ∧ prF g p v ∧ eqF (prF g) (g 0) k (fun x => ¬ hb s x) v ∧ ∀ q, p < q → q < v → ¬ hb s q → prF g p q → ¬ eqF (prF g) (g 0) k (fun x => ¬ hb s x) q)))) ?_ ?_
  · intro z3 e3
    have f3 := wr_d e3 (by omega) (by omega)
    exact ⟨rfl, rfl, rfl, rfl, by omega, by omega, fun i a b => by omega⟩
  · rintro x0 x1 x2 x3 q ⟨rfl, rfl, rfl, rfl, i1, i2, i3⟩ z4 e4
    have e4 := e4.trans Mm
    refine ⟨fun q1 => ⟨rfl, fun _ => rfl, fun c => Or.inl ⟨rfl, fun i a b c2 c3 => i3 i a (by omega) c c2 c3⟩⟩, fun q1 z5 e5 z6 e6 => ?_⟩
    have m6 : z6 = 1 ↔ hb s p := by rw [e6, e5]
    refine ⟨fun q2 z7 e7 z8 e8 => ?_, fun q2 => ⟨rfl, fun _ => rfl, fun c => absurd (m6.mp q2) c⟩⟩
    have c1 : ¬ hb s p := fun u => q2 (m6.mpr u)
    have m8 : z8 = 1 ↔ hb s x3 := by rw [e8, e7]
    have nx : (¬ hb s x3 → prF g p x3 → ¬ eqF (prF g) (g 0) k (fun x => ¬ hb s x) x3) → ∀ {z : Int}, z = wr (x3 + 1) → (271 : Int) = 271 ∧ p = p ∧ s = s ∧ h = h ∧ p + 1 ≤ z ∧ z ≤ g 0 ∧ ∀ i, p < i → i < z → ¬ hb s p → ¬ hb s i → prF g p i → ¬ eqF (prF g) (g 0) k (fun x => ¬ hb s x) i := fun hn {z} ez => by
      have fz := wr_d ez (by omega) (by omega)
      refine ⟨rfl, rfl, rfl, rfl, by omega, by omega, fun i a b u1 u2 u3 => ?_⟩
      by_cases d : i = x3
      · rw [d] at u2 u3 ⊢
        exact hn u2 u3
      · exact i3 i a (by omega) u1 u2 u3
    have pair : ∀ {u u' : Int}, u = xshr (h 295 p) x3 → u' = xand u 1 → (u' = 1 ↔ eF g x3 p) := fun {u u'} d1 d2 => by
      rw [d2, d1]
      exact wg_at w n0 n1 p0 p1 (by omega) (by omega)
    have pair' : ∀ {u u' : Int}, u = xshr (h 295 x3) p → u' = xand u 1 → (u' = 1 ↔ eF g p x3) := fun {u u'} d1 d2 => by
      rw [d2, d1]
      exact wg_at w n0 n1 (by omega) (by omega) p0 p1
    have yes : ¬ hb s x3 → prF g p x3 → ∀ {y16 y17 y18 y19 y20 y21 y22 y23 y24 y25 y26 y27 : Int}, y16 = wr (p + 1) → y17 = wr (128 * y16) → y18 = xshl 1 x3 → y19 = xor' s y18 → y20 = xshl 1 p → y21 = xor' y19 y20 → y22 = wr (y17 + y21) → y23 = h 294 y22 → y24 = wr (1 + y23) → y25 = wr (128 * p) → y26 = wr (y25 + s) → y27 = h 294 y26 → (y24 = y27 ↔ eqF (prF g) (g 0) k (fun x => ¬ hb s x) x3) := fun c2 c3 {y16 y17 y18 y19 y20 y21 y22 y23 y24 y25 y26 y27} d16 d17 d18 d19 d20 d21 d22 d23 d24 d25 d26 d27 => by
      obtain ⟨o1, o2⟩ := rd_more (g := g) (k := k) (by omega) S p0 (by omega) (by omega : p < x3) (by omega)
      have g21 : y21 = xor' (xor' s (xshl 1 x3)) (xshl 1 p) := by rw [d21, d19, d20, d18]
      rw [← g21] at o1 o2
      unfold bS at o1
      have g16 := wr_d d16 (by omega) (by omega)
      have g17 := wr_d d17 (by omega) (by omega)
      have g22 := wr_d d22 (by omega) (by omega)
      have g25 := wr_d d25 (by omega) (by omega)
      have g26 := wr_d d26 (by omega) (by omega)
      rw [D y22 (by omega) (by omega), g22, g17, g16, o2] at d23
      have bb := MX_b (R := prF g) (n := g 0) k (fun x => ¬ hb s x ∧ x ≠ x3)
      have g24 := wr_d d24 (by omega) (by omega)
      rw [D y26 (by omega) (by omega), g26, g25, same] at d27
      unfold eqF
      rw [g24, d27, d23]
    have fin : ¬ hb s x3 → prF g p x3 → eqF (prF g) (g 0) k (fun x => ¬ hb s x) x3 → h = h ∧ (hb s p → x3 = -9) ∧ (¬ hb s p → ((x3 = -9 ∧ ∀ q, p < q → q < g 0 → ¬ hb s q → prF g p q → ¬ eqF (prF g) (g 0) k (fun x => ¬ hb s x) q) ∨ (p < x3 ∧ x3 < g 0 ∧ ¬ hb s x3 ∧ prF g p x3 ∧ eqF (prF g) (g 0) k (fun x => ¬ hb s x) x3 ∧ ∀ q, p < q → q < x3 → ¬ hb s q → prF g p q → ¬ eqF (prF g) (g 0) k (fun x => ¬ hb s x) q))) := fun u1 u2 u3 => ⟨rfl, fun c => absurd c c1, fun _ => Or.inr ⟨by omega, by omega, u1, u2, u3, fun i a b => i3 i a b c1⟩⟩
    refine ⟨fun q3 z9 e9 z10 e10 z11 e11 => ?_, fun q3 z9 e9 => nx (fun c _ => absurd (m8.mp q3) c) e9⟩
    have c2 : ¬ hb s x3 := fun u => q3 (m8.mpr u)
    rw [e9] at e10
    have m11 := pair e10 e11
    refine ⟨fun q4 z12 e12 z13 e13 z14 e14 => ?_, fun q4 z12 e12 z13 e13 z14 e14 z15 e15 z16 e16 z17 e17 z18 e18 z19 e19 z20 e20 z21 e21 z22 e22 z23 e23 => ?_⟩
    · rw [e12] at e13
      have m14 := pair' e13 e14
      refine ⟨fun q5 z15 e15 => nx (fun _ u => absurd u (fun u => u.elim (fun w => q4 (m11.mpr w)) (fun w => q5 (m14.mpr w)))) e15, fun q5 z15 e15 z16 e16 z17 e17 z18 e18 z19 e19 z20 e20 z21 e21 z22 e22 z23 e23 z24 e24 z25 e25 z26 e26 => ?_⟩
      have c3 : prF g p x3 := Or.inr (m14.mp q5)
      have y := yes c2 c3 e15 e16 e17 e18 e19 e20 e21 e22 e23 e24 e25 e26
      exact ⟨fun q6 z27 e27 => nx (fun _ _ u => q6 (y.mpr u)) e27, fun q6 => fin c2 c3 (y.mp q6)⟩
    · have c3 : prF g p x3 := Or.inl (m11.mp q4)
      have y := yes c2 c3 e12 e13 e14 e15 e16 e17 e18 e19 e20 e21 e22 e23
      exact ⟨fun q6 z27 e27 => nx (fun _ _ u => q6 (y.mpr u)) e27, fun q6 => fin c2 c3 (y.mp q6)⟩
def ma1 (g : gV) (x : Int) (x0 x1 x2 x3 x4 : Int) (q : fH) : Prop := 271 = x0 ∧ x = x1 ∧ (q 271 0 = g 0 ∧ wgS g q (g 0) ∧ rdT g q (-1)) ∧ bS x2 ∧ 0 ≤ x4 ∧ x4 ≤ g 0 ∧ (0 ≤ x → ((x < x4 ∨ hb x2 x) → WK (prF g) (g 0) x (g 0).toNat (fun _ => True) x3) ∧ (¬ (x < x4 ∨ hb x2 x) → x3 = -9 ∧ ∀ r, WK (prF g) (g 0) x (g 0 - x4).toNat (fun y => ¬ hb x2 y) r → WK (prF g) (g 0) x (g 0).toNat (fun _ => True) r))
theorem ra_match (hs : fS 214 [271, x] h v h') (M : MJ G h) (W : GW G) (hx : -2147483648 ≤ x ∧ x ≤ 2147483647) : maR G.1 x v := by
  have hB := W.1.1.1
  have hD := W.1.2
  suffices hh : ∀ g : gV, g = G.1 → maR g x v from hh G.1 rfl
  intro g hg
  have W1 : WF g := by
    rw [hg]
    exact W.1.1
  rw [← hg] at hB hD
  by_cases hr : x < -1 ∨ g 0 ≤ x
  · refine vr_match hs (fun x0 x1 x2 x3 x4 q => False) (fun v _ => maR g x v) ?_ (fun x0 x1 x2 x3 x4 q w => absurd w id)
    intro k1 ek1
    have M1 : MJ G k1 := by
      rw [ek1]
      exact M.up (by omega)
    have jm : k1 271 0 = g 0 := by
      rw [hg]
      exact M1.1.many
    refine fun z2 e2 z3 e3 z4 e4 => ⟨fun q1 z5 _ z6 _ z7 _ k2 _ => Or.inl ⟨hr, rfl⟩, fun q1 z5 e5 => ⟨fun q2 z6 _ z7 _ z8 _ k2 _ => Or.inl ⟨hr, rfl⟩, fun q2 v2 k2 hs2 => ?_⟩⟩
    have f3 := wr_d e3 (by omega) (by omega)
    have r1 := xl_ge e4 q1
    have r2 := xl_le e5 q2
    omega
  · refine vr_match hs (fun x0 x1 x2 x3 x4 q => ma1 g x x0 x1 x2 x3 x4 q) (fun v _ => maR g x v) ?_ ?_
    · intro k1 ek1
      have M1 : MJ G k1 := by
        rw [ek1]
        exact M.up (by omega)
      have MR : RM k1 g := by
        rw [hg]
        exact M1.1
      have jm : k1 271 0 = g 0 := MR.many
      refine fun z2 e2 z3 e3 z4 e4 => ⟨fun q1 => ?_, fun q1 z5 e5 => ⟨fun q2 => ?_, fun q2 v2 k2 hs2 => ?_⟩⟩
      · have r1 := xl_lt e4 q1
        omega
      · have f3 := wr_d e3 (by omega) (by omega)
        have r2 := xl_gt e5 q2
        omega
      · obtain ⟨a1, a2, a3⟩ := sr_layMatch hs2 MR W1 (by omega)
        refine ⟨rfl, rfl, ⟨(a1 271 0 (by omega) (by omega)).trans jm, a2, a3⟩, ⟨by omega, by omega⟩, by omega, hB.1, fun x0 => ⟨fun w => w.elim (fun w => by omega) (fun w => absurd w (hb_0 x0 (by omega))), fun _ => ⟨rfl, fun r w => ?_⟩⟩⟩
        rw [show (g 0 - 0).toNat = (g 0).toNat by omega] at w
        exact WK.cg _ _ _ r (fun y y0 y1 => ⟨fun _ => trivial, fun _ => hb_0 (by omega) (by omega)⟩) w
    · rintro x0 x1 x2 x3 x4 q ⟨rfl, rfl, ⟨i1, i2, i3⟩, i4, i5, i6, i7⟩ z5 e5
      have e5 := e5.trans i1
      refine ⟨fun q1 => ⟨fun q2 => ?_, fun q2 z6 e6 => ?_⟩, fun q1 v1 k1 hs1 => ?_⟩
      · exact Or.inr (Or.inr ⟨q2, by omega, (i7 q2).1 (Or.inl (by omega))⟩)
      · refine Or.inr (Or.inl ⟨by omega, ?_⟩)
        rw [e6, i3 0 (by omega) (by omega), show (0 : Int) = 128 * 0 + 0 from rfl, rd_same (s := 0) ⟨by omega, by omega⟩ (k := (g 0).toNat) (by omega)]
        exact MX_cg _ _ _ (fun y y0 y1 => ⟨fun _ => trivial, fun _ => hb_0 (by omega) (by omega)⟩)
      · obtain ⟨k, hk⟩ : ∃ k : Nat, g 0 - 1 - (k : Int) = x4 := ⟨(g 0 - 1 - x4).toNat, by omega⟩
        obtain ⟨r0, r1, r2⟩ := sr_partnerOf hs1 i1 hB.1 hB.2.1 i2 i3 i4 i5 (by omega) hk
        rw [r0]
        have kk : (g 0 - x4).toNat = k + 1 := by omega
        have hv : v1 = -9 ∨ (0 ≤ v1 ∧ ¬ hb x2 x4 ∧ x4 < v1 ∧ v1 < g 0 ∧ ¬ hb x2 v1) := by
          by_cases c : hb x2 x4
          · exact Or.inl (r1 c)
          · rcases r2 c with ⟨w1, w2⟩ | ⟨w1, w2, w3, w4⟩
            · exact Or.inl w1
            · exact Or.inr ⟨by omega, c, by omega, w2, w3⟩
        have none : v1 < 0 → ∀ {z7 z8 : Int}, z7 = xor' x2 0 → z8 = wr (x4 + 1) → ma1 g x 271 x z7 x3 z8 q := fun n1 {z7 z8} e7 e8 => by
          have f8 := wr_d e8 (by omega) (by omega)
          have i4' := i4
          unfold bS at i4'
          rw [xor_0 (by omega) (by omega)] at e7
          have v9 : v1 = -9 := by omega
          rw [e7]
          refine ⟨rfl, rfl, ⟨i1, i2, i3⟩, i4, by omega, by omega, fun x0 => ?_⟩
          obtain ⟨j1, j2⟩ := i7 x0
          by_cases dd : x < x4 ∨ hb x2 x
          · exact ⟨fun _ => j1 dd, fun u => absurd (dd.elim (fun w => Or.inl (by omega)) Or.inr) u⟩
          · obtain ⟨j3, j4⟩ := j2 dd
            rw [kk] at j4
            by_cases de : x = x4
            · refine ⟨fun _ => j4 x3 ?_, fun u => absurd (Or.inl (by omega)) u⟩
              have c : ¬ hb x2 x4 := fun w => dd (Or.inr (by rw [de]; exact w))
              exact Or.inr ⟨by rw [hk]; exact c, v1, r2 c, Or.inl ⟨by rw [hk, de], by rw [j3, v9]⟩⟩
            · refine ⟨fun u => absurd (u.elim (fun w => Or.inl (by omega)) Or.inr) dd, fun _ => ⟨j3, fun r w => j4 r ?_⟩⟩
              rw [show (g 0 - z8).toNat = k by omega] at w
              by_cases c : hb x2 x4
              · exact Or.inl ⟨by rw [hk]; exact fun u => u c, w⟩
              · refine Or.inr ⟨by rw [hk]; exact c, v1, r2 c, Or.inr (Or.inr ⟨by rw [hk]; exact fun u => de u.symm, by omega, ?_⟩)⟩
                exact WK.cg k _ _ r (fun y y0 y1 => ⟨fun u => ⟨u, by omega⟩, fun u => u.1⟩) w
        have some : 0 ≤ v1 → ∀ {w z7 z8 z9 z10 z11 : Int}, ((x4 = x → w = v1) ∧ (x4 ≠ x → v1 = x → w = x4) ∧ (x4 ≠ x → v1 ≠ x → w = x3)) → z7 = xshl 1 v1 → z8 = xshl 1 x4 → z9 = xor' z7 z8 → z10 = xor' x2 z9 → z11 = wr (x4 + 1) → ma1 g x 271 x z10 w z11 q := fun n1 {w z7 z8 z9 z10 z11} hw e7 e8 e9 e10 e11 => by
          have f11 := wr_d e11 (by omega) (by omega)
          obtain ⟨h1, h2, h3, h4, h5⟩ : 0 ≤ v1 ∧ ¬ hb x2 x4 ∧ x4 < v1 ∧ v1 < g 0 ∧ ¬ hb x2 v1 := hv.elim (fun u => by omega) id
          obtain ⟨a1, a2⟩ := sh_at h1 (by omega : v1 < 7)
          obtain ⟨b1, b2⟩ := sh_at i5 (by omega : x4 < 7)
          obtain ⟨c1, c2⟩ := or_at a1 b1
          obtain ⟨d1, d2⟩ := or_at i4 c1
          have hz : z10 = xor' x2 (xor' (xshl 1 v1) (xshl 1 x4)) := by rw [e10, e9, e7, e8]
          rw [← hz] at d1 d2
          have hb' : ∀ y, 0 ≤ y → y < 7 → (hb z10 y ↔ (hb x2 y ∨ (y = v1 ∨ y = x4))) := fun y y0 y1 => by rw [d2 y y0 y1, c2 y y0 y1, a2 y y0 y1, b2 y y0 y1]
          refine ⟨rfl, rfl, ⟨i1, i2, i3⟩, d1, by omega, by omega, fun x0 => ?_⟩
          obtain ⟨j1, j2⟩ := i7 x0
          have hx7 := hb' x x0 (by omega)
          by_cases dd : x < x4 ∨ hb x2 x
          · have ne1 : x4 ≠ x := fun u => dd.elim (fun w => by omega) (fun w => h2 (by rw [u]; exact w))
            have ne2 : v1 ≠ x := fun u => dd.elim (fun w => by omega) (fun w => h5 (by rw [u]; exact w))
            rw [hw.2.2 ne1 ne2]
            exact ⟨fun _ => j1 dd, fun u => absurd (dd.elim (fun w => Or.inl (by omega)) (fun w => Or.inr (hx7.mpr (Or.inl w)))) u⟩
          · obtain ⟨j3, j4⟩ := j2 dd
            rw [kk] at j4
            have hA : ¬ hb x2 (g 0 - 1 - (k : Int)) := by
              rw [hk]
              exact h2
            by_cases de : x4 = x
            · rw [hw.1 de]
              exact ⟨fun _ => j4 v1 (Or.inr ⟨hA, v1, r2 h2, Or.inl ⟨hk.trans de, rfl⟩⟩), fun u => absurd (Or.inl (by omega)) u⟩
            · by_cases df : v1 = x
              · rw [hw.2.1 de df]
                exact ⟨fun _ => j4 x4 (Or.inr ⟨hA, v1, r2 h2, Or.inr (Or.inl ⟨by rw [hk]; exact de, df, hk.symm⟩)⟩), fun u => absurd (Or.inr (hx7.mpr (Or.inr (Or.inl df.symm)))) u⟩
              · rw [hw.2.2 de df]
                refine ⟨fun u => ?_, fun _ => ⟨j3, fun r w => j4 r (Or.inr ⟨hA, v1, r2 h2, Or.inr (Or.inr ⟨by rw [hk]; exact de, df, ?_⟩)⟩)⟩⟩
                · exfalso
                  rcases u with u | u
                  · exact dd (Or.inl (by omega))
                  · rcases hx7.mp u with u | u | u
                    · exact dd (Or.inr u)
                    · exact df u.symm
                    · exact de u.symm
                · rw [show (g 0 - z11).toNat = k by omega] at w
                  exact WK.cg k _ _ r (fun y y0 y1 => ⟨fun u => ⟨fun a => u ((hb' y (by omega) (by omega)).mpr (Or.inl a)), fun a => u ((hb' y (by omega) (by omega)).mpr (Or.inr (Or.inl a)))⟩, fun u a => ((hb' y (by omega) (by omega)).mp a).elim u.1 (fun a => a.elim u.2 (fun a => by omega))⟩) w
        refine ⟨fun q2 => ⟨fun q3 => ⟨fun q4 z7 e7 z8 e8 => none q4 e7 e8, fun q4 z7 e7 z8 e8 z9 e9 z10 e10 z11 e11 => some q4 ⟨fun u => absurd u q2, fun _ u => absurd u q3, fun _ _ => rfl⟩ e7 e8 e9 e10 e11⟩, fun q3 => ⟨fun q4 => ⟨fun _ z7 e7 z8 e8 => none q4 e7 e8, fun q5 => absurd q5 (by omega)⟩, fun q4 => ⟨fun q5 => absurd q5 (by omega), fun q5 z7 e7 z8 e8 z9 e9 z10 e10 z11 e11 => some q5 ⟨fun u => absurd u q2, fun _ _ => rfl, fun _ u => absurd q3 u⟩ e7 e8 e9 e10 e11⟩⟩⟩, fun q2 => ⟨fun q3 => ⟨fun q4 => ⟨fun _ z7 e7 z8 e8 => none q3 e7 e8, fun q5 => absurd q5 (by omega)⟩, fun q4 => ⟨fun _ => ⟨fun _ z7 e7 z8 e8 => none q3 e7 e8, fun q5 => absurd q5 (by omega)⟩, fun q5 => absurd q5 (by omega)⟩⟩, fun q3 => ⟨fun q4 => absurd q4 (by omega), fun q4 z7 e7 z8 e8 z9 e9 z10 e10 z11 e11 => some q4 ⟨fun _ => rfl, fun u => absurd q2 u, fun u => absurd q2 u⟩ e7 e8 e9 e10 e11⟩⟩⟩
end MB
