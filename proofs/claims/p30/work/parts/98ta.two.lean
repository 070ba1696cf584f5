/-! answers: two (made by a program) -/
section AA
variable {h h' : fH} {v x y z w : Int} {G : gS}
noncomputable def g2F (g : gV) (o t e a b : Int) : gV := gu (gu g (38 + 5 * o + e) (9 * a)) (38 + 5 * t + e) (9 * b)
noncomputable def gaF (g : gV) (o t e a b : Int) : Int := bI (cbF (g2F g o t e a b) o t e 1 ∧ ¬ cmF (g2F g o t e a b) e (g2F g o t e a b 1 + 1)) * 5
noncomputable def stI (γ : Int → Int → Int) (a b : Int) : Prop := γ (1 - a) b - 2 * (1 - a) ≤ γ a b - 2 * a ∧ γ a (1 - b) - 2 * (1 - b) ≤ γ a b - 2 * b
noncomputable def stP (γ : Int → Int → Int) (k : Nat) : Prop := stI γ ((k / 2 : Nat) : Int) ((k % 2 : Nat) : Int)
noncomputable def fstF (P : Nat → Prop) : Nat → Nat → Int
  | 0, _ => -9
  | f + 1, k => @ite Int (P k) (Classical.propDecidable _) (10 * ((k / 2 : Nat) : Int) + ((k % 2 : Nat) : Int)) (fstF P f (k + 1))
theorem fst_0 {P : Nat → Prop} : ∀ (f k : Nat), (∀ n : Nat, k ≤ n → n < k + f → ¬ P n) → fstF P f k = -9
  | 0, _, _ => rfl
  | f + 1, k, h => by
    show @ite Int (P k) (Classical.propDecidable _) _ (fstF P f (k + 1)) = -9
    rw [if_neg (h k (by omega) (by omega))]
    exact fst_0 f (k + 1) (fun n n1 n2 => h n (by omega) (by omega))
theorem fst_m {P : Nat → Prop} : ∀ (f k m : Nat), k ≤ m → m < k + f → P m → (∀ n : Nat, k ≤ n → n < m → ¬ P n) → fstF P f k = 10 * ((m / 2 : Nat) : Int) + ((m % 2 : Nat) : Int)
  | 0, k, m, h1, h2, _, _ => by omega
  | f + 1, k, m, h1, h2, h3, h4 => by
    show @ite Int (P k) (Classical.propDecidable _) _ (fstF P f (k + 1)) = _
    by_cases e : k = m
    · rw [e, if_pos h3]
    · rw [if_neg (h4 k (by omega) (by omega))]
      exact fst_m f (k + 1) m (by omega) (by omega) h3 (fun n n1 n2 => h4 n (by omega) n2)
noncomputable def GVs (γ : Int → Int → Int) (q : fH) (k : Nat) : Prop := ∀ m : Nat, m < k → q 297 (2 * (m : Int)) = γ ((m / 2 : Nat) : Int) ((m % 2 : Nat) : Int) - 2 * ((m / 2 : Nat) : Int) ∧ q 297 (2 * (m : Int) + 1) = γ ((m / 2 : Nat) : Int) ((m % 2 : Nat) : Int) - 2 * ((m % 2 : Nat) : Int)
section TW
variable {g g' : gV} {o t e a b : Int} {h0 k1 k2 k3 k4 k5 k6 q : fH} {γ : Int → Int → Int} {k : Nat}
theorem GVs_up {A B a1 a2 : Int} (hq : GVs γ q k) (h3 : ∀ c, k3 297 c = q 297 c) (e4 : k4 = fu k3 297 a1 A) (e5 : k5 = fu k4 297 a2 B) (ha1 : a1 = 2 * (k : Int)) (ha2 : a2 = 2 * (k : Int) + 1) (h6 : ∀ c, k6 297 c = k5 297 c) (hA : A = γ ((k / 2 : Nat) : Int) ((k % 2 : Nat) : Int) - 2 * ((k / 2 : Nat) : Int)) (hB : B = γ ((k / 2 : Nat) : Int) ((k % 2 : Nat) : Int) - 2 * ((k % 2 : Nat) : Int)) : GVs γ k6 (k + 1) := fun m hm => by
  rw [h6, h6, e5, e4, ha1, ha2]
  by_cases c : m = k
  · rw [c, fu_k (by omega), fu_e rfl rfl, fu_e rfl rfl]
    exact ⟨hA, hB⟩
  · rw [fu_k (by omega), fu_k (by omega), fu_k (by omega), fu_k (by omega), h3, h3]
    exact hq m (by omega)
theorem ga_b (g : gV) (o t e a b : Int) : gaF g o t e a b = 0 ∨ gaF g o t e a b = 5 := by
  unfold gaF
  by_cases c : cbF (g2F g o t e a b) o t e 1 ∧ ¬ cmF (g2F g o t e a b) e (g2F g o t e a b 1 + 1)
  · rw [bI_t c]
    omega
  · rw [bI_f c]
    omega
theorem g2_n {k : Int} (c1 : k ≠ 38 + 5 * o + e) (c2 : k ≠ 38 + 5 * t + e) : g2F g o t e a b k = g k := by
  unfold g2F
  rw [gu_n c2, gu_n c1]
theorem WF_g2 (W : WF g) (o0 : 0 ≤ o) (o1 : o < g 0) (t0 : 0 ≤ t) (t1 : t < g 0) (e0 : 0 ≤ e) (e1 : e < 5) (a0 : 0 ≤ a) (a1 : a ≤ 1) (b0 : 0 ≤ b) (b1 : b ≤ 1) : WF (g2F g o t e a b) := by
  have hB := W.1
  have W1 := WF_bel (z := 9 * a) W o0 o1 e0 e1 (by omega) (by omega)
  have d0 : gu g (38 + 5 * o + e) (9 * a) 0 = g 0 := gu_n (by omega)
  exact WF_bel W1 t0 (by omega) e0 e1 (by omega) (by omega)
theorem sc_gain (hs : fS 126 [1, o, t, e, a, b] h v h') (S : SC h0 h) (R : RC h 34 g') (hg : ∀ k, k ≠ 38 + 5 * o + e → k ≠ 38 + 5 * t + e → g' k = g k) (W : WF g) (hd : g 1 ≤ 999) (o0 : 0 ≤ o) (o1 : o < g 0) (t0 : 0 ≤ t) (t1 : t < g 0) (ne : o ≠ t) (e0 : 0 ≤ e) (e1 : e < 5) (a0 : 0 ≤ a) (a1 : a ≤ 1) (b0 : 0 ≤ b) (b1 : b ≤ 1) : v = gaF g o t e a b ∧ SC h0 h' ∧ RC h' 34 (g2F g o t e a b) := by
  have hB := W.1
  have d0 : g' 0 = g 0 := hg 0 (by omega) (by omega)
  have d2 : g' 2 = g 2 := hg 2 (by omega) (by omega)
  have B' : BG g' := by
    have B0 := W.bg
    unfold BG at *
    rw [d0, d2]
    exact B0
  refine vc_gainOfTwo hs (fun v h' => v = gaF g o t e a b ∧ SC h0 h' ∧ RC h' 34 (g2F g o t e a b)) ?_
  intro z6 e6 z7 e7 k1 ek1 z8 e8 z9 e9 k2 ek2 v3 k3 hs3
  have f7 := wr_d e7 (by omega) (by omega)
  have f9 := wr_d e9 (by omega) (by omega)
  have r1 := R.u_bel (z := z7) (p := o) (e := e) B' o0 (by omega) e0 e1
  rw [show (34 : Int) + 10 + o = z6 by omega, ← ek1] at r1
  have c0 : gu g' (38 + 5 * o + e) z7 0 = g' 0 := gu_n (by omega)
  have c2 : gu g' (38 + 5 * o + e) z7 2 = g' 2 := gu_n (by omega)
  have B1 : BG (gu g' (38 + 5 * o + e) z7) := by
    unfold BG at *
    rw [c0, c2]
    exact B'
  have r2 := r1.u_bel (z := z9) (p := t) (e := e) B1 t0 (by omega) e0 e1
  rw [show (34 : Int) + 10 + t = z8 by omega, ← ek2] at r2
  have hx : gu (gu g' (38 + 5 * o + e) z7) (38 + 5 * t + e) z9 = g2F g o t e a b := by
    funext k
    unfold g2F
    rw [f7, f9]
    by_cases c1 : k = 38 + 5 * t + e
    · rw [gu_e c1, gu_e c1]
    · rw [gu_n c1, gu_n c1]
      by_cases c2 : k = 38 + 5 * o + e
      · rw [gu_e c2, gu_e c2]
      · rw [gu_n c2, gu_n c2]
        exact hg k c2 c1
  rw [hx] at r2
  have s1 := S.up (c := z6) (k := e) (z := z7) (by omega)
  rw [← ek1] at s1
  have s2 := s1.up (c := z8) (k := e) (z := z9) (by omega)
  rw [← ek2] at s2
  have W2 := WF_g2 W o0 o1 t0 t1 e0 e1 a0 a1 b0 b1
  have n0 : g2F g o t e a b 0 = g 0 := g2_n (by omega) (by omega)
  have n1 : g2F g o t e a b 1 = g 1 := g2_n (by omega) (by omega)
  obtain ⟨u0, u1⟩ := sc_canBe hs3 r2 W2 o0 (by omega) t0 (by omega) e0 e1
  rw [u0]
  refine ⟨fun q1 => ⟨?_, s2, r2⟩, fun q1 z11 e11 z12 e12 z13 e13 z14 e14 z15 e15 z16 e16 => ?_⟩
  · unfold gaF
    rw [bI_f (fun u => u1.f q1 u.1)]
    rfl
  · have e11 := e11.trans r2.day
    have f12 := wr_d e12 (by omega) (by omega)
    have e13 := e13.trans (r2.on (e := e) e0 e1)
    have e15 := e15.trans (r2.ev (e := e) e0 e1)
    rw [e14, f12, e11, e13, e15] at e16
    refine ⟨fun q2 => ⟨?_, s2, r2⟩, fun q2 => ⟨?_, s2, r2⟩⟩
    · unfold gaF
      rw [bI_t ⟨u1.t q1, fun u => q2 (e16.trans u)⟩]
      rfl
    · unfold gaF
      rw [bI_f (fun u => u.2 (e16.symm.trans q2))]
      rfl
end TW
theorem ca_two (hs : fS 125 [1, x, y, z] h v h') (C : CJ G h) (W : GW G) : v = if x < 0 ∨ G.1 0 ≤ x ∨ y < 0 ∨ G.1 0 ≤ y ∨ x = y ∨ z < 0 ∨ 4 < z then -1 else if bI (frF G.1 x ∧ frF G.1 y) = 0 then -3 else fstF (stP (gaF G.1 x y z)) 4 0 := by
  have jm : h 11 1 = G.1 0 := C.1.many
  have jd : h 11 15 = G.1 1 := C.1.day
  have jo : h 11 14 = G.1 2 := C.1.opn
  have hB := W.1.1.1
  have hD := W.1.2
  refine vc_two hs (fun x0 x1 x2 x3 x4 q => x0 = 1 ∧ x1 = x ∧ x2 = y ∧ x3 = z ∧ SC h q ∧ 0 ≤ x ∧ x < G.1 0 ∧ 0 ≤ y ∧ y < G.1 0 ∧ x ≠ y ∧ 0 ≤ z ∧ z < 5 ∧ bI (frF G.1 x ∧ frF G.1 y) ≠ 0 ∧ ∃ a : Nat, x4 = (a : Int) ∧ a ≤ 2 ∧ (∃ g, RC q 34 g ∧ ∀ k, k ≠ 38 + 5 * x + z → k ≠ 38 + 5 * y + z → g k = G.1 k) ∧ ∀ m : Nat, m < 2 * a → ¬ stP (gaF G.1 x y z) m) (fun x0 x1 x2 x3 x4 x5 q => x0 = 1 ∧ x1 = x ∧ x2 = y ∧ x3 = z ∧ SC h q ∧ 0 ≤ x ∧ x < G.1 0 ∧ 0 ≤ y ∧ y < G.1 0 ∧ x ≠ y ∧ 0 ≤ z ∧ z < 5 ∧ bI (frF G.1 x ∧ frF G.1 y) ≠ 0 ∧ ∃ a b : Nat, x4 = (a : Int) ∧ a ≤ 1 ∧ x5 = (b : Int) ∧ b ≤ 2 ∧ (∃ g, RC q 34 g ∧ ∀ k, k ≠ 38 + 5 * x + z → k ≠ 38 + 5 * y + z → g k = G.1 k) ∧ ∀ m : Nat, m < 2 * a + b → ¬ stP (gaF G.1 x y z) m) (fun v _ => v = if x < 0 ∨ G.1 0 ≤ x ∨ y < 0 ∨ G.1 0 ≤ y ∨ x = y ∨ z < 0 ∨ 4 < z then -1 else if bI (frF G.1 x ∧ frF G.1 y) = 0 then -3 else fstF (stP (gaF G.1 x y z)) 4 0) ?_ ?_ ?_
  · refine ⟨fun q1 => fun _ _ _ _ _ _ _ ek => (by rw [if_pos (by omega)]), fun q1 => fun z4 e4 => ⟨fun q2 => fun _ _ _ _ _ _ _ ek => (by rw [if_pos (by omega)]), fun q2 => ⟨fun q3 => fun _ _ _ _ _ _ _ ek => (by rw [if_pos (by omega)]), fun q3 => fun z5 e5 => ⟨fun q4 => fun _ _ _ _ _ _ _ ek => (by rw [if_pos (by omega)]), fun q4 => ⟨fun q5 => fun _ _ _ _ _ _ _ ek => (by rw [if_pos (by omega)]), fun q5 => ⟨fun q6 => fun _ _ _ _ _ _ _ ek => (by rw [if_pos (by omega)]), fun q6 => ⟨fun q7 => fun _ _ _ _ _ _ _ ek => (by rw [if_pos (by omega)]), fun q7 => fun v1 k1 hs1 => ⟨fun q8 => fun _ _ _ _ _ _ _ ek => (by obtain ⟨-, r⟩ := sc_isFree hs1 C.1 W.1.1 (by omega) (by omega); rw [if_neg (by omega), if_pos (bI_f (fun u => r.f q8 u.1))]), fun q8 => fun v2 k2 hs2 => ⟨fun q9 => fun v3 k3 hs3 => ?_, fun q9 => fun _ _ _ _ _ _ _ ek => (by obtain ⟨r0, -⟩ := sc_isFree hs1 C.1 W.1.1 (by omega) (by omega); rw [r0] at hs2; obtain ⟨-, r⟩ := sc_isFree hs2 C.1 W.1.1 (by omega) (by omega); rw [if_neg (by omega), if_pos (bI_f (fun u => r.f q9 u.2))])⟩⟩⟩⟩⟩⟩⟩⟩⟩
    · obtain ⟨r0, r⟩ := sc_isFree hs1 C.1 W.1.1 (by omega) (by omega)
      rw [r0] at hs2
      obtain ⟨p0, p⟩ := sc_isFree hs2 C.1 W.1.1 (by omega) (by omega)
      rw [p0] at hs3
      obtain ⟨S1, R1⟩ := sm_copy hs3 (SC.rf C.w34) C.1 W.1.1.bg
      have hb : bI (frF G.1 x ∧ frF G.1 y) ≠ 0 := by
        rw [bI_t ⟨r.t (by assumption), p.t (by assumption)⟩]
        decide
      exact ⟨rfl, rfl, rfl, rfl, S1, by omega, by omega, by omega, by omega, by omega, by omega, by omega, hb, 0, rfl, by omega, ⟨_, R1, fun _ _ _ => rfl⟩, fun m hm => by omega⟩
  · rintro x0 x1 x2 x3 x4 q ⟨rfl, rfl, rfl, rfl, i0, i1, i2, i3, i4, i5, i6, i7, i8, a, j1, j2, j3, j4⟩
    refine ⟨fun q1 => ?_, fun q1 => ⟨rfl, rfl, rfl, rfl, i0, i1, i2, i3, i4, i5, i6, i7, i8, a, 0, j1, by omega, rfl, by omega, j3, fun m hm => j4 m (by omega)⟩⟩
    rw [if_neg (by omega), if_neg i8]
    exact (fst_0 4 0 (fun n _ n2 => j4 n (by omega))).symm
  · rintro x0 x1 x2 x3 x4 x5 q ⟨rfl, rfl, rfl, rfl, i0, i1, i2, i3, i4, i5, i6, i7, i8, a, b, j1, j2, j3, j4, ⟨g', j5, j6⟩, j7⟩
    refine ⟨fun q1 z6 e6 => ?_, fun q1 v1 k1 hs1 z7 e7 z8 e8 z9 e9 v2 k2 hs2 z11 e11 z12 e12 z13 e13 => ?_⟩
    · have f6 := wr_d e6 (by omega) (by omega)
      exact ⟨rfl, rfl, rfl, rfl, i0, i1, i2, i3, i4, i5, i6, i7, i8, a + 1, by omega, by omega, ⟨g', j5, j6⟩, fun m hm => j7 m (by omega)⟩
    · obtain ⟨t1, s1, r1⟩ := sc_gain hs1 i0 j5 j6 W.1.1 W.1.2 i1 i2 i3 i4 i5 i6 i7 (by omega) (by omega) (by omega) (by omega)
      have g1 := ga_b G.1 x1 x2 x3 x4 x5
      have f7 := wr_d e7 (by omega) (by omega)
      have f8 := wr_d e8 (by omega) (by omega)
      have f9 := wr_d e9 (by omega) (by omega)
      rw [f9] at hs2
      obtain ⟨t2, s2, r2⟩ := sc_gain hs2 s1 r1 (fun k c1 c2 => g2_n c1 c2) W.1.1 W.1.2 i1 i2 i3 i4 i5 i6 i7 (by omega) (by omega) (by omega) (by omega)
      have g2 := ga_b G.1 x1 x2 x3 (1 - x4) x5
      have f11 := wr_d e11 (by omega) (by omega)
      have f12 := wr_d e12 (by omega) (by omega)
      have f13 := wr_d e13 (by omega) (by omega)
      have g3 := ga_b G.1 x1 x2 x3 x4 (1 - x5)
      have hP : stP (gaF G.1 x1 x2 x3) (2 * a + b) = stI (gaF G.1 x1 x2 x3) x4 x5 := by
        unfold stP
        rw [show (2 * a + b) / 2 = a by omega, show (2 * a + b) % 2 = b by omega, ← j1, ← j3]
      have nx : ¬ stI (gaF G.1 x1 x2 x3) x4 x5 → ∀ m : Nat, m < 2 * a + (b + 1) → ¬ stP (gaF G.1 x1 x2 x3) m := fun hn m hm => by
        by_cases c : m = 2 * a + b
        · rw [c, hP]
          exact hn
        · exact j7 m (by omega)
      refine ⟨fun q2 z14 e14 z15 e15 z16 e16 v3 k3 hs3 z18 e18 z19 e19 z20 e20 => ?_, fun q2 z14 e14 z15 e15 z16 e16 v3 k3 hs3 z18 e18 z19 e19 z20 e20 => ?_⟩
      · have f16 := wr_d e16 (by omega) (by omega)
        rw [f16] at hs3
        obtain ⟨t3, s3, r3⟩ := sc_gain hs3 s2 r2 (fun k c1 c2 => g2_n c1 c2) W.1.1 W.1.2 i1 i2 i3 i4 i5 i6 i7 (by omega) (by omega) (by omega) (by omega)
        have hn : ¬ stI (gaF G.1 x1 x2 x3) x4 x5 := fun u => by
          have u1 := u.1
          omega
        refine ⟨fun q3 z21 e21 => ?_, fun q3 z21 e21 => ?_⟩
        · have f21 := wr_d e21 (by omega) (by omega)
          exact ⟨rfl, rfl, rfl, rfl, s3, i1, i2, i3, i4, i5, i6, i7, i8, a, b + 1, j1, j2, by omega, by omega, ⟨_, r3, fun k c1 c2 => g2_n c1 c2⟩, nx hn⟩
        · have f21 := wr_d e21 (by omega) (by omega)
          exact ⟨rfl, rfl, rfl, rfl, s3, i1, i2, i3, i4, i5, i6, i7, i8, a, b + 1, j1, j2, by omega, by omega, ⟨_, r3, fun k c1 c2 => g2_n c1 c2⟩, nx hn⟩
      · have f14 := wr_d e14 (by omega) (by omega)
        have f15 := wr_d e15 (by omega) (by omega)
        have f16 := wr_d e16 (by omega) (by omega)
        rw [f16] at hs3
        obtain ⟨t3, s3, r3⟩ := sc_gain hs3 s2 r2 (fun k c1 c2 => g2_n c1 c2) W.1.1 W.1.2 i1 i2 i3 i4 i5 i6 i7 (by omega) (by omega) (by omega) (by omega)
        have f18 := wr_d e18 (by omega) (by omega)
        have f19 := wr_d e19 (by omega) (by omega)
        have f20 := wr_d e20 (by omega) (by omega)
        refine ⟨fun q3 z21 e21 => ?_, fun q3 z21 e21 z22 e22 => ?_⟩
        · have hn : ¬ stI (gaF G.1 x1 x2 x3) x4 x5 := fun u => by
            have u2 := u.2
            omega
          have f21 := wr_d e21 (by omega) (by omega)
          exact ⟨rfl, rfl, rfl, rfl, s3, i1, i2, i3, i4, i5, i6, i7, i8, a, b + 1, j1, j2, by omega, by omega, ⟨_, r3, fun k c1 c2 => g2_n c1 c2⟩, nx hn⟩
        · have hy : stI (gaF G.1 x1 x2 x3) x4 x5 := ⟨by omega, by omega⟩
          have f21 := wr_d e21 (by omega) (by omega)
          have f22 := wr_d e22 (by omega) (by omega)
          have fm := fst_m (P := stP (gaF G.1 x1 x2 x3)) 4 0 (2 * a + b) (by omega) (by omega) (by rw [hP]; exact hy) (fun n _ n2 => j7 n n2)
          rw [if_neg (by omega), if_neg i8, fm]
          omega
theorem ra_two (hs : fS 229 [271, x, y, z] h v h') (M : MJ G h) (W : GW G) : v = if x < 0 ∨ G.1 0 ≤ x ∨ y < 0 ∨ G.1 0 ≤ y ∨ x = y ∨ z < 0 ∨ 4 < z then -1 else if bI (frF G.1 x ∧ frF G.1 y) = 0 then -3 else fstF (stP (gaF G.1 x y z)) 4 0 := by
  have hB := W.1.1.1
  have hD := W.1.2
  refine vr_two hs (fun x0 x1 x2 x3 x5 q => x0 = 271 ∧ x1 = x ∧ x2 = y ∧ x3 = z ∧ RM q G.1 ∧ (∀ i, 0 ≤ i → i < 113 → q 290 i = G.1 i) ∧ 0 ≤ x ∧ x < G.1 0 ∧ 0 ≤ y ∧ y < G.1 0 ∧ x ≠ y ∧ 0 ≤ z ∧ z < 5 ∧ bI (frF G.1 x ∧ frF G.1 y) ≠ 0 ∧ ∃ k : Nat, x5 = (k : Int) ∧ k ≤ 4 ∧ GVs (gaF G.1 x y z) q k) (fun x0 x5 q => x0 = 271 ∧ ¬ (x < 0 ∨ G.1 0 ≤ x ∨ y < 0 ∨ G.1 0 ≤ y ∨ x = y ∨ z < 0 ∨ 4 < z) ∧ bI (frF G.1 x ∧ frF G.1 y) ≠ 0 ∧ GVs (gaF G.1 x y z) q 4 ∧ ∃ k : Nat, x5 = (k : Int) ∧ k ≤ 4 ∧ ∀ m : Nat, m < k → ¬ stP (gaF G.1 x y z) m) (fun v _ => v = if x < 0 ∨ G.1 0 ≤ x ∨ y < 0 ∨ G.1 0 ≤ y ∨ x = y ∨ z < 0 ∨ 4 < z then -1 else if bI (frF G.1 x ∧ frF G.1 y) = 0 then -3 else fstF (stP (gaF G.1 x y z)) 4 0) ?_ ?_ ?_
  · intro k1 ek1
    have M1 : MJ G k1 := by
      rw [ek1]
      exact M.up (by omega)
    have jm : k1 271 0 = G.1 0 := M1.1.many
    have jd : k1 271 15 = G.1 1 := M1.1.day
    have jo : k1 271 9 = G.1 2 := M1.1.opn
    refine fun z4 e4 => fun z5 e5 => (have f5 := wr_d e5 (by omega) (by omega); fun z6 e6 => ⟨fun q1 => (have r1 := xl_lt e6 q1; fun _ _ _ _ _ _ _ ek => (by rw [if_pos (by omega)])), fun q1 => (have r1 := xl_ge e6 q1; fun z7 e7 => ⟨fun q2 => (have r2 := xl_gt e7 q2; fun _ _ _ _ _ _ _ ek => (by rw [if_pos (by omega)])), fun q2 => (have r2 := xl_le e7 q2; fun z8 e8 => fun z9 e9 => (have f9 := wr_d e9 (by omega) (by omega); fun z10 e10 => ⟨fun q3 => (have r3 := xl_lt e10 q3; fun _ _ _ _ _ _ _ ek => (by rw [if_pos (by omega)])), fun q3 => (have r3 := xl_ge e10 q3; fun z11 e11 => ⟨fun q4 => (have r4 := xl_gt e11 q4; fun _ _ _ _ _ _ _ ek => (by rw [if_pos (by omega)])), fun q4 => (have r4 := xl_le e11 q4; ⟨fun q5 => fun _ _ _ _ _ _ _ ek => (by rw [if_pos (by omega)]), fun q5 => fun z12 e12 => ⟨fun q6 => (have r6 := xl_lt e12 q6; fun _ _ _ _ _ _ _ ek => (by rw [if_pos (by omega)])), fun q6 => (have r6 := xl_ge e12 q6; fun z13 e13 => ⟨fun q7 => (have r7 := xl_gt e13 q7; fun _ _ _ _ _ _ _ ek => (by rw [if_pos (by omega)])), fun q7 => (have r7 := xl_le e13 q7; fun v2 k2 hs2 => ⟨fun q8 => fun _ _ _ _ _ _ _ ek => (by obtain ⟨-, r⟩ := sr_isFree hs2 M1.1 W.1.1 (by omega) (by omega); rw [if_neg (by omega), if_pos (bI_f (fun u => r.f q8 u.1))]), fun q8 => fun v3 k3 hs3 => ⟨fun q9 => fun v4 k4 hs4 => ?_, fun q9 => fun _ _ _ _ _ _ _ ek => (by obtain ⟨r0, -⟩ := sr_isFree hs2 M1.1 W.1.1 (by omega) (by omega); rw [r0] at hs3; obtain ⟨-, r⟩ := sr_isFree hs3 M1.1 W.1.1 (by omega) (by omega); rw [if_neg (by omega), if_pos (bI_f (fun u => r.f q9 u.2))])⟩⟩)⟩)⟩⟩)⟩)⟩))⟩)⟩)
    · obtain ⟨r0, r⟩ := sr_isFree hs2 M1.1 W.1.1 (by omega) (by omega)
      rw [r0] at hs3
      obtain ⟨p0, p⟩ := sr_isFree hs3 M1.1 W.1.1 (by omega) (by omega)
      rw [p0] at hs4
      obtain ⟨a1, a2, a3⟩ := sr_down hs4 M1.1 (by omega)
      have hb : bI (frF G.1 x ∧ frF G.1 y) ≠ 0 := by
        rw [bI_t ⟨r.t (by assumption), p.t (by assumption)⟩]
        decide
      exact ⟨rfl, rfl, rfl, rfl, a1, a2, by omega, by omega, by omega, by omega, by omega, by omega, by omega, hb, 0, rfl, by omega, fun m hm => by omega⟩
  · rintro x0 x1 x2 x3 x5 q ⟨rfl, rfl, rfl, rfl, i0, i9, i1, i2, i3, i4, i5, i6, i7, i8, k, j1, j2, j3⟩
    refine ⟨fun q1 => ?_, fun q1 z5 e5 z6 e6 z7 e7 z8 e8 k1 ek1 z9 e9 z10 e10 z11 e11 z12 e12 k2 ek2 v3 k3 hs3 => ?_⟩
    · have hk : k = 4 := by omega
      subst hk
      exact ⟨rfl, by omega, i8, j3, 0, rfl, by omega, fun m hm => by omega⟩
    · have d7 : xdiv x5 2 = ((k / 2 : Nat) : Int) := by
        rw [xdiv_nn (by omega) (by omega) (by omega)]
        omega
      have d11 : xrem x5 2 = ((k % 2 : Nat) : Int) := by
        rw [xrem_nn (by omega) (by omega) (by omega)]
        omega
      rw [d7] at e7
      rw [d11] at e11
      have f5 := wr_d e5 (by omega) (by omega)
      have f6 := wr_d e6 (by omega) (by omega)
      have f8 := wr_d e8 (by omega) (by omega)
      have f9 := wr_d e9 (by omega) (by omega)
      have f10 := wr_d e10 (by omega) (by omega)
      have f12 := wr_d e12 (by omega) (by omega)
      have r1 := i0.u_bel (i := z6) (z := z8) (by omega) (by omega)
      rw [← ek1] at r1
      have r2 := r1.u_bel (i := z10) (z := z12) (by omega) (by omega)
      rw [← ek2] at r2
      have hx : gu (gu G.1 (38 + z6) z8) (38 + z10) z12 = g2F G.1 x1 x2 x3 z7 z11 := by
        unfold g2F
        rw [show 38 + z6 = 38 + 5 * x1 + x3 by omega, show 38 + z10 = 38 + 5 * x2 + x3 by omega, f8, f12]
      rw [hx] at r2
      have W2 := WF_g2 (a := z7) (b := z11) W.1.1 i1 i2 i3 i4 i6 i7 (by omega) (by omega) (by omega) (by omega)
      have n0 : g2F G.1 x1 x2 x3 z7 z11 0 = G.1 0 := g2_n (by omega) (by omega)
      have n1 : g2F G.1 x1 x2 x3 z7 z11 1 = G.1 1 := g2_n (by omega) (by omega)
      obtain ⟨u0, u1⟩ := sr_couldBe hs3 r2 W2 i1 (by omega) i3 (by omega) i6 i7
      rw [u0]
      have K2 : ∀ i, 0 ≤ i → i < 113 → k2 290 i = G.1 i := fun i a b => by
        rw [ek2, fu_c (by omega), ek1, fu_c (by omega)]
        exact i9 i a b
      have h2 : ∀ c, k2 297 c = q 297 c := fun c => by rw [ek2, fu_c (by omega), ek1, fu_c (by omega)]
      refine ⟨fun q2 z14 e14 z15 e15 z16 e16 z17 e17 k4 ek4 z18 e18 z19 e19 z20 e20 z21 e21 z22 e22 k5 ek5 v6 k6 hs6 z24 e24 => ?_, fun q2 z14 e14 z15 e15 v4 k4 hs4 => ?_⟩
      · have ga : gaF G.1 x1 x2 x3 z7 z11 = 0 := by
          unfold gaF
          rw [bI_f (fun u => u1.f q2 u.1)]
          rfl
        rw [d7] at e15
        rw [d11] at e20
        have f14 := wr_d e14 (by omega) (by omega)
        have f16 := wr_d e16 (by omega) (by omega)
        have f17 := wr_d e17 (by omega) (by omega)
        have f18 := wr_d e18 (by omega) (by omega)
        have f19 := wr_d e19 (by omega) (by omega)
        have f21 := wr_d e21 (by omega) (by omega)
        have f22 := wr_d e22 (by omega) (by omega)
        have f24 := wr_d e24 (by omega) (by omega)
        obtain ⟨c1, c2, c3⟩ := sr_up (G := G.1) hs6 (fun i a b => by rw [ek5, fu_c (by omega), ek4, fu_c (by omega)]; exact K2 i a b) (by omega)
        have up := GVs_up (γ := gaF G.1 x1 x2 x3) j3 h2 ek4 ek5 (by omega) (by omega) (fun c => c3 297 c (by omega) (by omega)) (by rw [← e7, ← e11, ga]; omega) (by rw [← e7, ← e11, ga]; omega)
        exact ⟨rfl, rfl, rfl, rfl, c1, c2, i1, i2, i3, i4, i5, i6, i7, i8, k + 1, by omega, by omega, up⟩
      · have e14 := e14.trans r2.day
        have f15 := wr_d e15 (by omega) (by omega)
        obtain ⟨t0, t1⟩ := sr_isLost hs4 r2 i6 i7
        rw [f15, e14] at t1
        rw [t0]
        refine ⟨fun q3 z17 e17 z18 e18 z19 e19 z20 e20 k5 ek5 z21 e21 z22 e22 z23 e23 z24 e24 z25 e25 k6 ek6 v7 k7 hs7 z27 e27 => ?_, fun q3 z17 e17 z18 e18 z19 e19 z20 e20 k5 ek5 z21 e21 z22 e22 z23 e23 z24 e24 z25 e25 k6 ek6 v7 k7 hs7 z27 e27 => ?_⟩
        · have ga : gaF G.1 x1 x2 x3 z7 z11 = 0 := by
            unfold gaF
            rw [bI_f (fun u => t1.f q3 (fun w => u.2 (w.mpr rfl)))]
            rfl
          rw [d7] at e18
          rw [d11] at e23
          have f17 := wr_d e17 (by omega) (by omega)
          have f19 := wr_d e19 (by omega) (by omega)
          have f20 := wr_d e20 (by omega) (by omega)
          have f21 := wr_d e21 (by omega) (by omega)
          have f22 := wr_d e22 (by omega) (by omega)
          have f24 := wr_d e24 (by omega) (by omega)
          have f25 := wr_d e25 (by omega) (by omega)
          have f27 := wr_d e27 (by omega) (by omega)
          obtain ⟨c1, c2, c3⟩ := sr_up (G := G.1) hs7 (fun i a b => by rw [ek6, fu_c (by omega), ek5, fu_c (by omega)]; exact K2 i a b) (by omega)
          have up := GVs_up (γ := gaF G.1 x1 x2 x3) j3 h2 ek5 ek6 (by omega) (by omega) (fun c => c3 297 c (by omega) (by omega)) (by rw [← e7, ← e11, ga]; omega) (by rw [← e7, ← e11, ga]; omega)
          exact ⟨rfl, rfl, rfl, rfl, c1, c2, i1, i2, i3, i4, i5, i6, i7, i8, k + 1, by omega, by omega, up⟩
        · have ga : gaF G.1 x1 x2 x3 z7 z11 = 5 := by
            unfold gaF
            rw [bI_t ⟨u1.t q2, fun u => t1.t q3 ⟨fun _ => rfl, fun _ => u⟩⟩]
            rfl
          rw [d7] at e18
          rw [d11] at e23
          have f17 := wr_d e17 (by omega) (by omega)
          have f19 := wr_d e19 (by omega) (by omega)
          have f20 := wr_d e20 (by omega) (by omega)
          have f21 := wr_d e21 (by omega) (by omega)
          have f22 := wr_d e22 (by omega) (by omega)
          have f24 := wr_d e24 (by omega) (by omega)
          have f25 := wr_d e25 (by omega) (by omega)
          have f27 := wr_d e27 (by omega) (by omega)
          obtain ⟨c1, c2, c3⟩ := sr_up (G := G.1) hs7 (fun i a b => by rw [ek6, fu_c (by omega), ek5, fu_c (by omega)]; exact K2 i a b) (by omega)
          have up := GVs_up (γ := gaF G.1 x1 x2 x3) j3 h2 ek5 ek6 (by omega) (by omega) (fun c => c3 297 c (by omega) (by omega)) (by rw [← e7, ← e11, ga]; omega) (by rw [← e7, ← e11, ga]; omega)
          exact ⟨rfl, rfl, rfl, rfl, c1, c2, i1, i2, i3, i4, i5, i6, i7, i8, k + 1, by omega, by omega, up⟩
  · rintro x0 x5 q ⟨rfl, i1, i2, i3, k, j1, j2, j3⟩
    refine ⟨fun q1 => ?_, fun q1 z2 e2 z3 e3 z4 e4 z5 e5 z6 e6 z7 e7 z8 e8 z9 e9 z10 e10 z11 e11 z12 e12 z13 e13 z14 e14 z15 e15 => ?_⟩
    · rw [if_neg i1, if_neg i2]
      exact (fst_0 4 0 (fun n _ n2 => j3 n (by omega))).symm
    · have d7 : xdiv x5 2 = ((k / 2 : Nat) : Int) := by
        rw [xdiv_nn (by omega) (by omega) (by omega)]
        omega
      have d11 : xrem x5 2 = ((k % 2 : Nat) : Int) := by
        rw [xrem_nn (by omega) (by omega) (by omega)]
        omega
      rw [d7] at e2 e7
      rw [d11] at e5 e10
      have f3 := wr_d e3 (by omega) (by omega)
      have f4 := wr_d e4 (by omega) (by omega)
      have f6 := wr_d e6 (by omega) (by omega)
      have f8 := wr_d e8 (by omega) (by omega)
      have f9 := wr_d e9 (by omega) (by omega)
      have f11 := wr_d e11 (by omega) (by omega)
      have f12 := wr_d e12 (by omega) (by omega)
      have f14 := wr_d e14 (by omega) (by omega)
      obtain ⟨p1, p2⟩ := i3 k (by omega)
      obtain ⟨y1, -⟩ := i3 (2 * (1 - k / 2) + k % 2) (by omega)
      obtain ⟨-, w2⟩ := i3 (2 * (k / 2) + (1 - k % 2)) (by omega)
      rw [show (2 * (1 - k / 2) + k % 2) / 2 = 1 - k / 2 by omega, show (2 * (1 - k / 2) + k % 2) % 2 = k % 2 by omega, show ((1 - k / 2 : Nat) : Int) = 1 - ((k / 2 : Nat) : Int) by omega] at y1
      rw [show (2 * (k / 2) + (1 - k % 2)) / 2 = k / 2 by omega, show (2 * (k / 2) + (1 - k % 2)) % 2 = 1 - k % 2 by omega, show ((1 - k % 2 : Nat) : Int) = 1 - ((k % 2 : Nat) : Int) by omega] at w2
      rw [f12, j1, p1] at e13
      rw [show z14 = 2 * ((2 * (1 - k / 2) + k % 2 : Nat) : Int) by omega, y1] at e15
      have nx : ¬ stP (gaF G.1 x y z) k → ∀ m : Nat, m < k + 1 → ¬ stP (gaF G.1 x y z) m := fun hn m hm => by
        by_cases c : m = k
        · rw [c]
          exact hn
        · exact j3 m (by omega)
      refine ⟨fun q2 z16 e16 => ?_, fun q2 z16 e16 z17 e17 z18 e18 z19 e19 z20 e20 z21 e21 => ?_⟩
      · have f16 := wr_d e16 (by omega) (by omega)
        exact ⟨rfl, i1, i2, i3, k + 1, by omega, by omega, nx (fun u => by
          have u1 := u.1
          omega)⟩
      · have f16 := wr_d e16 (by omega) (by omega)
        have f17 := wr_d e17 (by omega) (by omega)
        have f19 := wr_d e19 (by omega) (by omega)
        have f20 := wr_d e20 (by omega) (by omega)
        rw [show z17 = 2 * (k : Int) + 1 by omega, p2] at e18
        rw [show z20 = 2 * ((2 * (k / 2) + (1 - k % 2) : Nat) : Int) + 1 by omega, w2] at e21
        refine ⟨fun q3 z22 e22 => ?_, fun q3 z22 e22 z23 e23 z24 e24 z25 e25 => ?_⟩
        · have f22 := wr_d e22 (by omega) (by omega)
          exact ⟨rfl, i1, i2, i3, k + 1, by omega, by omega, nx (fun u => by
            have u1 := u.2
            omega)⟩
        · rw [d7] at e22
          rw [d11] at e24
          have f23 := wr_d e23 (by omega) (by omega)
          have f25 := wr_d e25 (by omega) (by omega)
          have hy : stP (gaF G.1 x y z) k := ⟨by omega, by omega⟩
          have fm := fst_m (P := stP (gaF G.1 x y z)) 4 0 k (by omega) (by omega) hy (fun n _ n2 => j3 n n2)
          rw [if_neg i1, if_neg i2, fm]
          omega
theorem pq_two : PJ 125 229 3 true := pj_ans ak_two (fun {G as h h1 h2 v v2} hl hb W C M s1 s2 => by
  obtain ⟨x, y, z, rfl⟩ := as3 hl
  exact (ca_two s1 C W).trans (ra_two s2 M W).symm)
end AA
