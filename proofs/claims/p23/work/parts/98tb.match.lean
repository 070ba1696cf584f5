/-! answers: match -/
def nearS (g : gV) (h : fH) (N : Int → Int → Prop) : Prop := ∀ o, 0 ≤ o → o < g 0 → bS (h 269 o) ∧ ∀ i, 0 ≤ i → i < 7 → (hb (h 269 o) i ↔ (i < g 0 ∧ N o i))
def dpT (g : gV) (h : fH) (m : Int) : Prop := ∀ t, 0 ≤ t → t < m → h 270 t = MN (prF g) (g 0) (hb t)
def fr7 (h h' : fH) : Prop := ∀ c k, c < 268 ∨ 270 < c → h' c k = h c k
def moP (g : gV) (A : Int → Prop) (p : Int) : Int → Prop := fun q => p < q ∧ q < g 0 ∧ A q ∧ prF g p q
noncomputable def moF (g : gV) (A : Int → Prop) (p : Int) : Int → Int := fun q => 1 + MN (prF g) (g 0) (fun x => (A x ∧ x ≠ p) ∧ x ≠ q)
noncomputable def moZ (g : gV) (A : Int → Prop) (p : Int) : Int := MN (prF g) (g 0) (fun x => A x ∧ x ≠ p)
def mo1 (g : gV) (h : fH) (s x2 x3 x4 x5 : Int) (q : fH) : Prop := h = q ∧ (0 ≤ x2 ∧ x2 < 7 ∧ hb s x2 ∧ ∀ i, 0 ≤ i → i < x2 → ¬ hb s i) ∧ x3 = clF s x2 ∧ ∃ k : Nat, x5 = (k : Int) ∧ k ≤ 7 ∧ x4 = mxF (moP g (hb s) x2) (moF g (hb s) x2) (moZ g (hb s) x2) k
def n0P (g : gV) (c : Int) : Int → Int → Prop := fun o i => (o < c ∧ eF g i o) ∨ (i < c ∧ eF g o i)
def n1P (g : gV) (c j : Int) : Int → Int → Prop := fun o i => (o < c ∧ eF g i o) ∨ (i < c ∧ eF g o i) ∨ (o = c ∧ eF g i o) ∨ (i = c ∧ o < j ∧ eF g o i)
def maR (g : gV) (x v : Int) : Prop := ((x < -1 ∨ g 0 ≤ x) ∧ v = -1) ∨ (x = -1 ∧ v = MN (prF g) (g 0) (fun _ => True)) ∨ (0 ≤ x ∧ x < g 0 ∧ WK (prF g) (g 0) x (g 0).toNat (fun _ => True) v)
theorem fl_269 : f_len 269 = 7 := by decide +kernel
section MA
variable {h h' : fH} {v x s t p : Int} {g : gV} {G : gS} {k : Nat}
theorem ma_un {w : Int} (n0 : 0 ≤ g 0) (a : maR g x v) (b : maR g x w) : v = w := by
  rcases a with ⟨a1, a2⟩ | ⟨a1, a2⟩ | ⟨a1, a2, a3⟩
  · rcases b with ⟨b1, b2⟩ | ⟨b1, b2⟩ | ⟨b1, b2, b3⟩ <;> omega
  · rcases b with ⟨b1, b2⟩ | ⟨b1, b2⟩ | ⟨b1, b2, b3⟩
    · omega
    · rw [a2, b2]
    · omega
  · rcases b with ⟨b1, b2⟩ | ⟨b1, b2⟩ | ⟨b1, b2, b3⟩
    · omega
    · omega
    · exact WK.un _ _ _ _ (by omega) a3 b3
theorem sc_fill269 (hs : fS 47 [269, 0] h v h') : (∀ c k, c ≠ 269 → h' c k = h c k) ∧ ∀ i, 0 ≤ i → i < 7 → h' 269 i = 0 := by
  refine vj_fill hs (fun x0 x1 x2 x3 q => 269 = x0 ∧ 0 = x1 ∧ 7 = x3 ∧ 0 ≤ x2 ∧ x2 ≤ 7 ∧ (∀ c k, c ≠ 269 → q c k = h c k) ∧ ∀ i, 0 ≤ i → i < x2 → q 269 i = 0) (fun _ h' => (∀ c k, c ≠ 269 → h' c k = h c k) ∧ ∀ i, 0 ≤ i → i < 7 → h' 269 i = 0) ?_ ?_
  · intro z2 e2
    rw [fl_269] at e2
    exact ⟨rfl, rfl, e2.symm, by omega, by omega, fun c k _ => rfl, fun i a b => by omega⟩
  · rintro x0 x1 x2 x3 q ⟨rfl, rfl, rfl, i1, i2, i3, i4⟩
    refine ⟨fun q1 => ⟨i3, fun i a b => i4 i a (by omega)⟩, fun q1 k1 ek1 z4 e4 => ?_⟩
    have f4 := wr_d e4 (by omega) (by omega)
    refine ⟨rfl, rfl, rfl, by omega, by omega, fun c k j => ?_, fun i a b => ?_⟩
    · rw [ek1, fu_c j]
      exact i3 c k j
    · rw [ek1]
      by_cases d : i = x2
      · exact fu_e rfl d
      · rw [fu_k d]
        exact i4 i a (by omega)
theorem sc_mostIn (hs : fS 114 [268, s] h v h') (n0 : 0 ≤ g 0) (n1 : g 0 ≤ 7) (S : bS s) (s0 : 1 ≤ s) (sa : s < xshl 1 (g 0)) (N : nearS g h (prF g)) (D : dpT g h s) : h' = h ∧ v = MN (prF g) (g 0) (hb s) := by
  have inn : ∀ q, 0 ≤ q → q < 7 → hb s q → q < g 0 := fun q q0 q1 w => al_in S n0 n1 sa q0 q1 w
  have Vc : ∀ p, 0 ≤ p → p < 7 → hb s p → h 270 (clF s p) = moZ g (hb s) p := fun p p0 p1 w => by
    obtain ⟨a1, a2, a3⟩ := cl_at S p0 p1
    rw [D _ a1.1 (cl_lt S p0 p1 w)]
    exact MN_cg n0 (fun x x0 x1 => a3 x x0 (by omega))
  have Vd : ∀ p q, 0 ≤ p → p < 7 → hb s p → 0 ≤ q → q < 7 → h 270 (clF (clF s p) q) = MN (prF g) (g 0) (fun x => (hb s x ∧ x ≠ p) ∧ x ≠ q) := fun p q p0 p1 w q0 q1 => by
    obtain ⟨a1, a2, a3⟩ := cl_at S p0 p1
    obtain ⟨b1, b2, b3⟩ := cl_at a1 q0 q1
    rw [D _ b1.1 (by have := cl_lt S p0 p1 w; omega)]
    exact MN_cg n0 (fun x x0 x1 => by rw [b3 x x0 (by omega), a3 x x0 (by omega)])
  refine vw_mostIn hs (fun x0 x1 x2 q => s = x1 ∧ h = q ∧ 0 ≤ x2 ∧ x2 ≤ 6 ∧ ∀ i, 0 ≤ i → i < x2 → ¬ hb s i) (fun x0 x2 x3 x4 x5 q => mo1 g h s x2 x3 x4 x5 q) (fun v h' => h' = h ∧ v = MN (prF g) (g 0) (hb s)) ⟨rfl, rfl, by omega, by omega, fun i a b => by omega⟩ ?_ ?_
  · rintro x0 x1 x2 q ⟨rfl, rfl, i1, i2, i3⟩
    have go : hb s x2 → ∀ {z5 z6 : Int}, z5 = clF s x2 → z6 = h 270 z5 → mo1 g h s x2 z5 z6 0 h := fun w {z5 z6} e5 e6 => ⟨rfl, ⟨i1, by omega, w, i3⟩, e5, 0, rfl, by omega, by
      rw [e6, e5, Vc x2 i1 (by omega) w]
      rfl⟩
    refine ⟨fun q1 z3 e3 z4 e4 z5 e5 z6 e6 => ?_, fun q1 z3 e3 z4 e4 => ⟨fun q2 z5 e5 => ?_, fun q2 z5 e5 z6 e6 z7 e7 z8 e8 => ?_⟩⟩
    · have w : hb s x2 := Classical.byContradiction (fun w => by
        have e := set_ne S (fun q q0 q2 => by
          by_cases d : q < x2
          · exact i3 q q0 d
          · rw [show q = x2 by omega]
            exact w)
        omega)
      exact go w (by rw [e5, e4, e3]; rfl) e6
    · have f5 := wr_d e5 (by omega) (by omega)
      rw [e4, e3] at q2
      exact ⟨rfl, rfl, by omega, by omega, fun i a b => by
        by_cases d : i = x2
        · rw [d]
          exact q2
        · exact i3 i a (by omega)⟩
    · rw [e4, e3] at q2
      exact go q2 (by rw [e7, e6, e5]; rfl) e8
  · rintro x0 x2 x3 x4 x5 q ⟨rfl, ⟨i1, i2, i3, i4⟩, i5, k, j1, j2, j3⟩
    refine ⟨fun q1 => ⟨rfl, ?_⟩, fun q1 z5 e5 z6 e6 z7 e7 z8 e8 => ?_⟩
    · rw [j3, show k = 7 by omega]
      exact (MN_step i1 (inn x2 i1 i2 i3) i4 i3).symm
    · obtain ⟨m1, m2⟩ := N x2 i1 (inn x2 i1 i2 i3)
      obtain ⟨a1, a2, a3⟩ := cl_at S i1 i2
      obtain ⟨b1, b2⟩ := and_at a1 m1
      have m6 : hb z6 x5 ↔ ((hb s x5 ∧ x5 ≠ x2) ∧ (x5 < g 0 ∧ prF g x2 x5)) := by
        rw [e6, e5, i5, b2 x5 (by omega) q1, a3 x5 (by omega) q1, m2 x5 (by omega) q1]
      have hP : moP g (hb s) x2 (k : Int) ↔ hb z6 x5 := by
        rw [m6, j1]
        exact ⟨fun u => ⟨⟨u.2.2.1, by have := u.1; omega⟩, u.2.1, u.2.2.2⟩, fun u => ⟨by
          have h1 := u.1.2
          have h2 : ¬ (k : Int) < x2 := fun d => i4 _ (by omega) d u.1.1
          omega, u.2.1, u.1.1, u.2.2⟩⟩
      refine ⟨fun q2 z9 e9 => ?_, fun q2 z9 e9 z10 e10 z11 e11 z12 e12 z13 e13 z14 e14 z15 e15 => ?_⟩
      · have f9 := wr_d e9 (by omega) (by omega)
        refine ⟨rfl, ⟨i1, i2, i3, i4⟩, i5, k + 1, by omega, by omega, ?_⟩
        rw [mxF_n (P := moP g (hb s) x2) (fun u => q2 (by rw [e8, e7]; exact hP.mp u))]
        exact j3
      · have f15 := wr_d e15 (by omega) (by omega)
        have w5 : hb z6 x5 := by
          rw [e8, e7] at q2
          exact q2
        have e11' : z11 = clF (clF s x2) x5 := by
          rw [e11, e10, e9, i5]
          rfl
        have v12 := Vd x2 x5 i1 i2 i3 (by omega) q1
        rw [← e11', ← e12] at v12
        have vb := MN_b (R := prF g) (A := fun x => (hb s x ∧ x ≠ x2) ∧ x ≠ x5) n0
        have f13 := wr_d e13 (by omega) (by omega)
        refine ⟨rfl, ⟨i1, i2, i3, i4⟩, i5, k + 1, by omega, by omega, ?_⟩
        rw [mxF_y (P := moP g (hb s) x2) (hP.mpr w5), ← j3, e14, f13, v12, j1]
        rfl
theorem sc_reckon (hs : fS 112 [268, 11] h v h') (R : RC h 11 g) (W : WF g) (hd : g 1 ≤ 4900) (Z : h 270 0 = 0) : fr7 h h' ∧ h' 268 2 = xshl 1 (g 0) - 1 ∧ nearS g h' (prF g) ∧ dpT g h' (xshl 1 (g 0)) := by
  have hB := W.1
  have hbg := W.bg
  obtain ⟨L1, L2, L3, L4⟩ := al_at (n := g 0) hB.1 hB.2.1
  refine vw_reckon hs (fun x0 x1 x2 q => 268 = x0 ∧ 11 = x1 ∧ 0 ≤ x2 ∧ x2 ≤ g 0 ∧ fr7 h q ∧ q 268 2 = xshl 1 (g 0) - 1 ∧ q 270 0 = 0 ∧ nearS g q (n0P g x2)) (fun x0 x1 x2 x3 x4 q => 268 = x0 ∧ 11 = x1 ∧ 0 ≤ x2 ∧ x2 < g 0 ∧ 0 ≤ x4 ∧ x4 ≤ g 0 ∧ x3 = btF (fun o => o ≠ x2 ∧ betE g o x2) (g 0).toNat ∧ fr7 h q ∧ q 268 2 = xshl 1 (g 0) - 1 ∧ q 270 0 = 0 ∧ nearS g q (n1P g x2 x4)) (fun x0 x2 q => 268 = x0 ∧ 1 ≤ x2 ∧ x2 ≤ xshl 1 (g 0) ∧ fr7 h q ∧ q 268 2 = xshl 1 (g 0) - 1 ∧ nearS g q (prF g) ∧ dpT g q x2) (fun _ h' => fr7 h h' ∧ h' 268 2 = xshl 1 (g 0) - 1 ∧ nearS g h' (prF g) ∧ dpT g h' (xshl 1 (g 0))) ?_ ?_ ?_ ?_
  · intro z2 e2 z3 e3 z4 e4 k1 ek1 v2 k2 hs2
    have e2 := e2.trans R.many
    rw [e2] at e3
    have f4 := wr_d e4 (by omega) (by omega)
    obtain ⟨a1, a2⟩ := sc_fill269 hs2
    refine ⟨rfl, rfl, by omega, hB.1, fun c k j => ?_, ?_, ?_, fun o o0 o1 => ?_⟩
    · rw [a1 c k (by omega), ek1, fu_c (by omega)]
    · rw [a1 268 2 (by omega), ek1, fu_e rfl rfl, f4, e3]
    · rw [a1 270 0 (by omega), ek1, fu_c (by omega)]
      exact Z
    · rw [a2 o o0 (by omega)]
      exact ⟨⟨by omega, by omega⟩, fun i a b => ⟨fun u => absurd u (hb_0 a b), fun u => u.2.elim (fun w => by have := w.1; omega) (fun w => by have := w.1; omega)⟩⟩
  · rintro x0 x1 x2 q ⟨rfl, rfl, i1, i2, i3, i4, i5, i6⟩ z3 e3
    have Rq : RC q 11 g := RC_cg R hbg (fun c k j1 j2 => i3 c k (by omega))
    rw [Rq.many] at e3
    refine ⟨fun q1 => ⟨rfl, by omega, by omega, i3, i4, ?_, ?_⟩, fun q1 v1 k1 hs1 z5 e5 z6 e6 k2 ek2 => ?_⟩
    · intro o o0 o1
      obtain ⟨m1, m2⟩ := i6 o o0 o1
      refine ⟨m1, fun i a b => ?_⟩
      rw [m2 i a b]
      exact ⟨fun u => ⟨u.1, u.2.elim (fun w => Or.inl w.2) (fun w => Or.inr w.2)⟩, fun u => ⟨u.1, u.2.elim (fun w => Or.inl ⟨by omega, w⟩) (fun w => Or.inr ⟨by have := u.1; omega, w⟩)⟩⟩
    · intro t t0 t1
      rw [show t = 0 by omega, i5]
      exact (MN_0 hB.1 (fun x a b => hb_0 a (by omega))).symm
    · obtain ⟨r0, r1⟩ := sc_wooerBits hs1 Rq W hd i1 (by omega)
      rw [r0] at e5 ek2
      obtain ⟨b1, b2⟩ := bt_hb (P := fun o => o ≠ x2 ∧ betE g o x2) (g 0).toNat (by omega)
      refine ⟨rfl, rfl, i1, by omega, by omega, by omega, r1, fun c k j => ?_, ?_, ?_, fun o o0 o1 => ?_⟩
      · rw [ek2, fu_c (by omega)]
        exact i3 c k j
      · rw [ek2, fu_c (by omega)]
        exact i4
      · rw [ek2, fu_c (by omega)]
        exact i5
      · obtain ⟨m1, m2⟩ := i6 o o0 o1
        by_cases d : o = x2
        · have e' : k2 269 o = xor' (q 269 o) (btF (fun o => o ≠ x2 ∧ betE g o x2) (g 0).toNat) := by
            rw [ek2, d, fu_e rfl rfl, e6, e5, r1]
          obtain ⟨c1, c2⟩ := or_at m1 b1
          rw [e']
          refine ⟨c1, fun i a b => ?_⟩
          rw [c2 i a b, m2 i a b, b2 i a b]
          constructor
          · rintro (⟨u1, u2⟩ | ⟨u1, u2⟩)
            · exact ⟨u1, u2.elim Or.inl (fun w => Or.inr (Or.inl w))⟩
            · exact ⟨by omega, Or.inr (Or.inr (Or.inl ⟨d, by rw [d]; exact u2⟩))⟩
          · rintro ⟨u1, u2⟩
            rcases u2 with w | w | w | w
            · exact Or.inl ⟨u1, Or.inl w⟩
            · exact Or.inl ⟨u1, Or.inr w⟩
            · exact Or.inr ⟨by omega, by have h2 := w.2; rw [d] at h2; exact h2⟩
            · exact absurd w.2.1 (by omega)
        · have e' : k2 269 o = q 269 o := by
            rw [ek2]
            exact fu_k d
          rw [e']
          refine ⟨m1, fun i a b => ?_⟩
          rw [m2 i a b]
          refine ⟨fun u => ⟨u.1, u.2.elim Or.inl (fun w => Or.inr (Or.inl w))⟩, fun u => ⟨u.1, ?_⟩⟩
          rcases u.2 with w | w | w | w
          · exact Or.inl w
          · exact Or.inr w
          · exact absurd w.1 d
          · exact absurd w.2.1 (by omega)
  · rintro x0 x1 x2 x3 x4 q ⟨rfl, rfl, i1, i2, i3, i4, i5, i6, i7, i8, i9⟩ z5 e5
    have Rq : RC q 11 g := RC_cg R hbg (fun c k j1 j2 => i6 c k (by omega))
    rw [Rq.many] at e5
    refine ⟨fun q1 z6 e6 => ?_, fun q1 z6 e6 z7 e7 => ?_⟩
    · have f6 := wr_d e6 (by omega) (by omega)
      refine ⟨rfl, rfl, by omega, by omega, i6, i7, i8, fun o o0 o1 => ?_⟩
      obtain ⟨m1, m2⟩ := i9 o o0 o1
      refine ⟨m1, fun i a b => ?_⟩
      rw [m2 i a b]
      refine ⟨fun u => ⟨u.1, ?_⟩, fun u => ⟨u.1, ?_⟩⟩
      · rcases u.2 with w | w | w | w
        · exact Or.inl ⟨by have := w.1; omega, w.2⟩
        · exact Or.inr ⟨by have := w.1; omega, w.2⟩
        · exact Or.inl ⟨by have := w.1; omega, w.2⟩
        · exact Or.inr ⟨by have := w.1; omega, w.2.2⟩
      · rcases u.2 with w | w
        · by_cases d : o = x2
          · exact Or.inr (Or.inr (Or.inl ⟨d, w.2⟩))
          · exact Or.inl ⟨by have := w.1; omega, w.2⟩
        · by_cases d : i = x2
          · exact Or.inr (Or.inr (Or.inr ⟨d, by omega, w.2⟩))
          · exact Or.inr (Or.inl ⟨by have := w.1; omega, w.2⟩)
    · obtain ⟨b1, b2⟩ := bt_hb (P := fun o => o ≠ x2 ∧ betE g o x2) (g 0).toNat (by omega)
      have hx : z7 = 1 ↔ eF g x4 x2 := by
        rw [e7, e6, i5]
        exact (b2 x4 i3 (by omega)).trans ⟨fun u => u.2, fun u => ⟨by omega, u⟩⟩
      refine ⟨fun q2 z8 e8 => ?_, fun q2 z8 e8 z9 e9 z10 e10 k1 ek1 z11 e11 => ?_⟩
      · have f8 := wr_d e8 (by omega) (by omega)
        refine ⟨rfl, rfl, i1, i2, by omega, by omega, i5, i6, i7, i8, fun o o0 o1 => ?_⟩
        obtain ⟨m1, m2⟩ := i9 o o0 o1
        refine ⟨m1, fun i a b => ?_⟩
        rw [m2 i a b]
        refine ⟨fun u => ⟨u.1, ?_⟩, fun u => ⟨u.1, ?_⟩⟩
        · rcases u.2 with w | w | w | w
          · exact Or.inl w
          · exact Or.inr (Or.inl w)
          · exact Or.inr (Or.inr (Or.inl w))
          · exact Or.inr (Or.inr (Or.inr ⟨w.1, by have := w.2.1; omega, w.2.2⟩))
        · rcases u.2 with w | w | w | w
          · exact Or.inl w
          · exact Or.inr (Or.inl w)
          · exact Or.inr (Or.inr (Or.inl w))
          · have hn : o ≠ x4 := fun d => q2 (hx.mpr (by rw [← d, ← w.1]; exact w.2.2))
            exact Or.inr (Or.inr (Or.inr ⟨w.1, by have := w.2.1; omega, w.2.2⟩))
      · have f11 := wr_d e11 (by omega) (by omega)
        have hE := hx.mp q2
        refine ⟨rfl, rfl, i1, i2, by omega, by omega, i5, fun c k j => ?_, ?_, ?_, fun o o0 o1 => ?_⟩
        · rw [ek1, fu_c (by omega)]
          exact i6 c k j
        · rw [ek1, fu_c (by omega)]
          exact i7
        · rw [ek1, fu_c (by omega)]
          exact i8
        · obtain ⟨m1, m2⟩ := i9 o o0 o1
          by_cases d : o = x4
          · have e' : k1 269 o = xor' (q 269 o) (xshl 1 x2) := by
              rw [ek1, d, fu_e rfl rfl, e10, e8, e9]
            obtain ⟨s1, s2⟩ := sh_at i1 (by omega : x2 < 7)
            obtain ⟨c1, c2⟩ := or_at m1 s1
            rw [e']
            refine ⟨c1, fun i a b => ?_⟩
            rw [c2 i a b, m2 i a b, s2 i a b]
            constructor
            · rintro (⟨u1, u2⟩ | u)
              · refine ⟨u1, ?_⟩
                rcases u2 with w | w | w | w
                · exact Or.inl w
                · exact Or.inr (Or.inl w)
                · exact Or.inr (Or.inr (Or.inl w))
                · exact Or.inr (Or.inr (Or.inr ⟨w.1, by have := w.2.1; omega, w.2.2⟩))
              · exact ⟨by omega, Or.inr (Or.inr (Or.inr ⟨u, by omega, by rw [d, u]; exact hE⟩))⟩
            · rintro ⟨u1, u2⟩
              rcases u2 with w | w | w | w
              · exact Or.inl ⟨u1, Or.inl w⟩
              · exact Or.inl ⟨u1, Or.inr (Or.inl w)⟩
              · exact Or.inl ⟨u1, Or.inr (Or.inr (Or.inl w))⟩
              · exact Or.inr w.1
          · have e' : k1 269 o = q 269 o := by
              rw [ek1]
              exact fu_k d
            rw [e']
            refine ⟨m1, fun i a b => ?_⟩
            rw [m2 i a b]
            refine ⟨fun u => ⟨u.1, ?_⟩, fun u => ⟨u.1, ?_⟩⟩
            · rcases u.2 with w | w | w | w
              · exact Or.inl w
              · exact Or.inr (Or.inl w)
              · exact Or.inr (Or.inr (Or.inl w))
              · exact Or.inr (Or.inr (Or.inr ⟨w.1, by have := w.2.1; omega, w.2.2⟩))
            · rcases u.2 with w | w | w | w
              · exact Or.inl w
              · exact Or.inr (Or.inl w)
              · exact Or.inr (Or.inr (Or.inl w))
              · exact Or.inr (Or.inr (Or.inr ⟨w.1, by have := w.2.1; omega, w.2.2⟩))
  · rintro x0 x2 q ⟨rfl, i1, i2, i3, i4, i5, i6⟩ z2 e2
    rw [i4] at e2
    refine ⟨fun q1 => ⟨i3, i4, i5, fun t t0 t1 => i6 t t0 (by omega)⟩, fun q1 v1 k1 hs1 k2 ek2 z4 e4 => ?_⟩
    obtain ⟨r0, r1⟩ := sc_mostIn hs1 hB.1 hB.2.1 ⟨by omega, by omega⟩ i1 (by omega) i5 i6
    rw [r0] at ek2
    have f4 := wr_d e4 (by omega) (by omega)
    refine ⟨rfl, by omega, by omega, fun c k j => ?_, ?_, fun o o0 o1 => ?_, fun t t0 t1 => ?_⟩
    · rw [ek2, fu_c (by omega)]
      exact i3 c k j
    · rw [ek2, fu_c (by omega)]
      exact i4
    · have e' : k2 269 o = q 269 o := by
        rw [ek2]
        exact fu_c (by omega)
      rw [e']
      exact i5 o o0 o1
    · rw [ek2]
      by_cases d : t = x2
      · rw [fu_e rfl d, d]
        exact r1
      · rw [fu_k d]
        exact i6 t t0 (by omega)
theorem sc_firstPartner (hs : fS 117 [268, s, p] h v h') (n0 : 0 ≤ g 0) (n1 : g 0 ≤ 7) (S : bS s) (sa : s < xshl 1 (g 0)) (N : nearS g h (prF g)) (D : dpT g h (xshl 1 (g 0))) (p0 : 0 ≤ p) (p1 : p < g 0) (hp : hb s p) (hl : ∀ i, 0 ≤ i → i < p → ¬ hb s i) (hk : g 0 - 1 - (k : Int) = p) : h' = h ∧ FP (prF g) (g 0) k (hb s) v := by
  obtain ⟨a1, a2, a3⟩ := cl_at S p0 (by omega : p < 7)
  obtain ⟨m1, m2⟩ := N p p0 p1
  obtain ⟨c1, c2⟩ := and_at a1 m1
  have ev : ∀ q, 0 ≤ q → q < 7 → (1 + h 270 (clF (clF s p) q) = h 270 s ↔ eqF (prF g) (g 0) k (hb s) q) := fun q q0 q1 => by
    obtain ⟨b1, b2, b3⟩ := cl_at a1 q0 q1
    have hx : ∀ x, 0 ≤ x → x < 7 → (hb (clF (clF s p) q) x ↔ ((hb s x ∧ x ≠ p) ∧ x ≠ q)) := fun x x0 x1 => by rw [b3 x x0 x1, a3 x x0 x1]
    unfold eqF
    rw [D s S.1 sa, D _ b1.1 (by omega), MN_to (k := k + 1) n0 (by omega) (fun x x0 x1 => hl x x0 (by omega)), MN_to (k := k) n0 (by omega) (fun x x0 x1 w => by
      have u := (hx x x0 (by omega)).mp w
      by_cases d : x = p
      · exact u.1.2 d
      · exact hl x x0 (by omega) u.1.1), MX_cg k (hb (clF (clF s p) q)) (fun x => hb s x ∧ x ≠ q) (fun x x0 x1 => (hx x (by omega) (by omega)).trans ⟨fun u => ⟨u.1.1, u.2⟩, fun u => ⟨⟨u.1, by omega⟩, u.2⟩⟩)]
  unfold FP
  rw [hk]
  refine vw_firstPartner hs (fun x0 x1 x2 x3 x4 q => s = x1 ∧ p = x2 ∧ clF s p = x3 ∧ h = q ∧ 0 ≤ x4 ∧ x4 ≤ 7 ∧ ∀ i, p < i → i < g 0 → i < x4 → hb s i → prF g p i → ¬ eqF (prF g) (g 0) k (hb s) i) (fun v h' => h' = h ∧ ((v = -9 ∧ ∀ q, p < q → q < g 0 → hb s q → prF g p q → ¬ eqF (prF g) (g 0) k (hb s) q) ∨ (p < v ∧ v < g 0 ∧ hb s v ∧ prF g p v ∧ eqF (prF g) (g 0) k (hb s) v ∧ ∀ q, p < q → q < v → hb s q → prF g p q → ¬ eqF (prF g) (g 0) k (hb s) q))) ?_ ?_
  · intro z3 e3 z4 e4 z5 e5
    exact ⟨rfl, rfl, by rw [e5, e4, e3]; rfl, rfl, by omega, by omega, fun i i0 i1 i2 => by omega⟩
  · rintro x0 x1 x2 x3 x4 q ⟨rfl, rfl, rfl, rfl, i1, i2, i3⟩
    refine ⟨fun q1 => ⟨rfl, Or.inl ⟨rfl, fun i j0 j1 => i3 i j0 j1 (by omega)⟩⟩, fun q1 z5 e5 z6 e6 z7 e7 z8 e8 => ?_⟩
    have m6 : z8 = 1 ↔ ((hb s x4 ∧ x4 ≠ p) ∧ (x4 < g 0 ∧ prF g p x4)) := by
      rw [e8, e7, e6, e5]
      exact (c2 x4 i1 q1).trans (by rw [a3 x4 i1 q1, m2 x4 i1 q1])
    have nx : (p < x4 → x4 < g 0 → hb s x4 → prF g p x4 → ¬ eqF (prF g) (g 0) k (hb s) x4) → ∀ {z : Int}, z = wr (x4 + 1) → s = s ∧ p = p ∧ clF s p = clF s p ∧ h = h ∧ 0 ≤ z ∧ z ≤ 7 ∧ ∀ i, p < i → i < g 0 → i < z → hb s i → prF g p i → ¬ eqF (prF g) (g 0) k (hb s) i := fun hn {z} ez => by
      have fz := wr_d ez (by omega) (by omega)
      refine ⟨rfl, rfl, rfl, rfl, by omega, by omega, fun i j0 j1 j2 j3 j4 => ?_⟩
      by_cases d : i = x4
      · rw [d] at j0 j1 j3 j4 ⊢
        exact hn j0 j1 j3 j4
      · exact i3 i j0 j1 (by omega) j3 j4
    refine ⟨fun q2 z9 e9 => nx (fun j0 j1 j2 j3 => absurd (m6.mpr ⟨⟨j2, by omega⟩, j1, j3⟩) q2) e9, fun q2 z9 e9 z10 e10 z11 e11 z12 e12 z13 e13 z14 e14 => ?_⟩
    obtain ⟨⟨w1, w2⟩, w3, w4⟩ := m6.mp q2
    have e11' : z11 = clF (clF s p) x4 := by
      rw [e11, e10, e9]
      rfl
    rw [e11'] at e12
    have vv := D s S.1 sa
    have vb := MN_b (R := prF g) (A := hb s) n0
    obtain ⟨b1, b2, b3⟩ := cl_at a1 i1 q1
    have v2 := D _ b1.1 (by omega : clF (clF s p) x4 < xshl 1 (g 0))
    have vc := MN_b (R := prF g) (A := hb (clF (clF s p) x4)) n0
    have f13 := wr_d e13 (by omega) (by omega)
    have hv := ev x4 i1 q1
    rw [← e12, ← e14, ← f13] at hv
    refine ⟨fun q3 z15 e15 => nx (fun _ _ _ _ u => q3 (hv.mpr u)) e15, fun q3 => ⟨rfl, Or.inr ⟨?_, w3, w1, w4, hv.mp q3, fun i j0 j1 => i3 i j0 (by omega) j1⟩⟩⟩
    have hn : ¬ x4 < p := fun d => hl x4 i1 d w1
    omega
theorem sc_partnerOf (hs : fS 116 [268, t] h v h') (n0 : 0 ≤ g 0) (n1 : g 0 ≤ 7) (A2 : h 268 2 = xshl 1 (g 0) - 1) (N : nearS g h (prF g)) (D : dpT g h (xshl 1 (g 0))) : WK (prF g) (g 0) t (g 0).toNat (fun _ => True) v := by
  obtain ⟨L1, L2, L3, L4⟩ := al_at (n := g 0) n0 n1
  refine vw_partnerOf hs (fun x0 x1 x2 x3 q => 268 = x0 ∧ t = x1 ∧ h = q ∧ bS x2 ∧ x2 < xshl 1 (g 0) ∧ 0 ≤ x3 ∧ x3 ≤ 7 ∧ (∀ i, 0 ≤ i → i < x3 → ¬ hb x2 i) ∧ ∀ r, WK (prF g) (g 0) t (g 0 - x3).toNat (hb x2) r → WK (prF g) (g 0) t (g 0).toNat (fun _ => True) r) (fun v _ => WK (prF g) (g 0) t (g 0).toNat (fun _ => True) v) ?_ ?_
  · intro z2 e2
    have e2 := e2.trans A2
    rw [e2]
    refine ⟨rfl, rfl, rfl, L1, by omega, by omega, by omega, fun i a b => by omega, fun r w => ?_⟩
    rw [show (g 0 - 0).toNat = (g 0).toNat by omega] at w
    exact WK.cg _ _ _ r (fun x x0 x1 => ⟨fun _ => trivial, fun _ => (L4 x (by omega) (by omega)).mpr x1⟩) w
  · rintro x0 x1 x2 x3 q ⟨rfl, rfl, rfl, i1, i2, i3, i4, i5, i6⟩
    refine ⟨fun q1 => i6 (-9) ?_, fun q1 z4 e4 z5 e5 => ?_⟩
    · rw [show (g 0 - x3).toNat = 0 by omega]
      show (-9 : Int) = -9
      rfl
    have m5 : z5 = 1 ↔ hb x2 x3 := by rw [e5, e4]
    refine ⟨fun q2 z6 e6 => ?_, fun q2 v1 k1 hs1 => ?_⟩
    · have f6 := wr_d e6 (by omega) (by omega)
      have hn : ¬ hb x2 x3 := fun w => q2 (m5.mpr w)
      refine ⟨rfl, rfl, rfl, i1, i2, by omega, by omega, fun i a b => ?_, fun r w => i6 r ?_⟩
      · by_cases d : i = x3
        · rw [d]
          exact hn
        · exact i5 i a (by omega)
      · by_cases d : x3 < g 0
        · obtain ⟨k, hk⟩ : ∃ k : Nat, g 0 - 1 - (k : Int) = x3 := ⟨(g 0 - 1 - x3).toNat, by omega⟩
          rw [show (g 0 - x3).toNat = k + 1 by omega]
          rw [show (g 0 - z6).toNat = k by omega] at w
          exact Or.inl ⟨by rw [hk]; exact hn, w⟩
        · rw [show (g 0 - x3).toNat = 0 by omega]
          rw [show (g 0 - z6).toNat = 0 by omega] at w
          exact w
    · have hp := m5.mp q2
      have d := al_in i1 n0 n1 i2 i3 q1 hp
      obtain ⟨k, hk⟩ : ∃ k : Nat, g 0 - 1 - (k : Int) = x3 := ⟨(g 0 - 1 - x3).toNat, by omega⟩
      obtain ⟨r0, r1⟩ := sc_firstPartner hs1 n0 n1 i1 i2 N D i3 d hp i5 hk
      obtain ⟨a1, a2, a3⟩ := cl_at i1 i3 q1
      have kk : (g 0 - x3).toNat = k + 1 := by omega
      rw [kk] at i6
      have hA : hb x2 (g 0 - 1 - (k : Int)) := by
        rw [hk]
        exact hp
      refine ⟨fun q3 => ⟨fun q4 z7 e7 z8 e8 z9 e9 => ?_, fun q4 => i6 _ (Or.inr ⟨hA, v1, r1, Or.inr (Or.inl ⟨by rw [hk]; exact q3, q4, hk.symm⟩)⟩)⟩, fun q3 => i6 _ (Or.inr ⟨hA, v1, r1, Or.inl ⟨hk.trans q3, rfl⟩⟩)⟩
      have e9' : z9 = clF x2 x3 := by
        rw [e9, e8, e7]
        rfl
      refine ⟨fun q5 z10 e10 => ?_, fun q5 z10 e10 z11 e11 z12 e12 z13 e13 => ?_⟩
      · have f10 := wr_d e10 (by omega) (by omega)
        rw [e9']
        refine ⟨rfl, rfl, r0.symm, a1, by omega, by omega, by omega, fun i a b w => ?_, fun r w => i6 r (Or.inr ⟨hA, v1, r1, Or.inr (Or.inr ⟨by rw [hk]; exact q3, q4, ?_⟩)⟩)⟩
        · have u := (a3 i a (by omega)).mp w
          exact i5 i a (by have := u.2; omega) u.1
        · rw [show (g 0 - z10).toNat = k by omega] at w
          exact WK.cg k _ _ r (fun x x0 x1 => (a3 x (by omega) (by omega)).trans ⟨fun u => ⟨u.1, by omega⟩, fun u => ⟨u.1, by omega⟩⟩) w
      · have f13 := wr_d e13 (by omega) (by omega)
        have hv : x3 < v1 ∧ v1 < g 0 := by
          rcases r1 with ⟨w1, w2⟩ | ⟨w1, w2, w3⟩
          · exact absurd w1 q5
          · omega
        obtain ⟨b1, b2, b3⟩ := cl_at a1 (by omega : 0 ≤ v1) (by omega : v1 < 7)
        have e12' : z12 = clF (clF x2 x3) v1 := by
          rw [e12, e11, e10, e9']
          rfl
        rw [e12']
        refine ⟨rfl, rfl, r0.symm, b1, by omega, by omega, by omega, fun i a b w => ?_, fun r w => i6 r (Or.inr ⟨hA, v1, r1, Or.inr (Or.inr ⟨by rw [hk]; exact q3, q4, ?_⟩)⟩)⟩
        · have u := (a3 i a (by omega)).mp ((b3 i a (by omega)).mp w).1
          exact i5 i a (by have := u.2; omega) u.1
        · rw [show (g 0 - z13).toNat = k by omega] at w
          exact WK.cg k _ _ r (fun x x0 x1 => ((b3 x (by omega) (by omega)).trans (and_congr (a3 x (by omega) (by omega)) Iff.rfl)).trans ⟨fun u => ⟨u.1.1, u.2⟩, fun u => ⟨⟨u.1, by omega⟩, u.2⟩⟩) w
theorem ca_match (hs : fS 111 [1, x] h v h') (C : CJ G h) (W : GW G) (Z : h 270 0 = 0) : maR G.1 x v ∧ h' 270 0 = 0 := by
  have hB := W.1.1.1
  have hD := W.1.2
  have jm : h 11 1 = G.1 0 := C.1.many
  obtain ⟨L1, L2, L3, L4⟩ := al_at (n := G.1 0) hB.1 hB.2.1
  have ref : ∀ {c z : Int} {k1 : fH}, k1 = fu h 3 c z → (x < -1 ∨ G.1 0 ≤ x) → maR G.1 x (-1) ∧ k1 270 0 = 0 := fun e w => ⟨Or.inl ⟨w, rfl⟩, by
    rw [e, fu_c (by decide)]
    exact Z⟩
  refine vc_match hs (fun v h' => maR G.1 x v ∧ h' 270 0 = 0) ⟨fun q1 v1 k1 hs1 => ?_, fun q1 => ⟨fun q2 z2 _ z3 _ z4 _ k1 ek1 => ref ek1 (by omega), fun q2 z2 e2 => ⟨fun q3 z3 _ z4 _ z5 _ k1 ek1 => ref ek1 (by omega), fun q3 v1 k1 hs1 => ?_⟩⟩⟩
  · obtain ⟨r1, r2, r3, r4⟩ := sc_reckon hs1 C.1 W.1.1 (by omega) Z
    have z1 : k1 270 0 = 0 := (r4 0 (by omega) (by omega)).trans (MN_0 hB.1 (fun y a b => hb_0 a (by omega)))
    refine ⟨fun q2 => absurd q1 q2, fun q2 v2 k2 hs2 => ?_⟩
    refine vw_most hs2 (fun v h' => maR G.1 x v ∧ h' 270 0 = 0) (fun z1 e1 z2 e2 => ⟨Or.inr (Or.inl ⟨q1, ?_⟩), by assumption⟩)
    rw [e2, e1, r2, r4 _ L1.1 (by omega)]
    exact MN_cg hB.1 (fun x x0 x1 => ⟨fun _ => trivial, fun _ => (L4 x x0 (by omega)).mpr x1⟩)
  · obtain ⟨r1, r2, r3, r4⟩ := sc_reckon hs1 C.1 W.1.1 (by omega) Z
    have z1 : k1 270 0 = 0 := (r4 0 (by omega) (by omega)).trans (MN_0 hB.1 (fun y a b => hb_0 a (by omega)))
    refine ⟨fun q4 v2 k2 hs2 => ?_, fun q4 => absurd q4 q1⟩
    have e := S0_eq (fun _ => fz_vw_partnerOf) (show xR (List.replicate 2 none) [268, x] from xR_n rfl) hs2
    rw [e]
    exact ⟨Or.inr (Or.inr ⟨q2, by omega, sc_partnerOf hs2 hB.1 hB.2.1 r2 r3 r4⟩), z1⟩
end MA
