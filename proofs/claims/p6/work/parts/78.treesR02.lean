/-! the trees of the methods (made by a program) -/
def vr_carry_T : xT := [(0, [.inl 0], 30, 0), (10, [.inl 2, .inr 0], 0, 8), (0, [.inl 0], 29, 0), (8, [.inl 3, .inr 1], 0, 0), (2, [.inl 0, .inl 4], 29, 0), (0, [.inl 0], 31, 0), (0, [.inl 0], 29, 0), (8, [.inl 6, .inr 1], 1, 0), (1, [.inl 5, .inl 7], 0, 0), (11, [.inl 8], 0, 0), (0, [.inl 0], 31, 0), (0, [.inl 0], 29, 0),
  (3, [.inl 3, .inl 4, .inl 1], 0, 0), (0, [.inl 0], 29, 0), (8, [.inl 5, .inr 1], 0, 0), (2, [.inl 0, .inl 6], 29, 0), (0, [.inl 0], 31, 0), (0, [.inl 0], 29, 0), (8, [.inl 8, .inr 1], 1, 0), (1, [.inl 7, .inl 9], 0, 0), (11, [.inl 10], 0, 0)]
theorem vr_carry_k : x_chk 160 [] vr_carry_T [] 600 = true := by decide +kernel
theorem vr_carry {a0 a1 v : Int} {h h' : fH} (hs : fS 160 [a0, a1] h v h') (Q : Int → fH → Prop) (h0 : ∀ z2 : Int, z2 = h a0 30 → ((z2 = 0 → ∀ z3 : Int, z3 = h a0 29 → ∀ z4 : Int, z4 = wr (z3 + 1) → ∀ h1 : fH, h1 = fu h a0 29 z4 → ∀ z5 : Int, z5 = h1 a0 31 → ∀ z6 : Int, z6 = h1 a0 29 → ∀ z7 : Int, z7 = wr (z6 - 1) → ∀ z8 : Int, z8 = h1 z5 z7 → Q z8 h1) ∧ (z2 ≠ 0 → ∀ z3 : Int, z3 = h a0 31 → ∀ z4 : Int, z4 = h a0 29 → ∀ h1 : fH, h1 = fu h z3 z4 a1 → ∀ z5 : Int, z5 = h1 a0 29 → ∀ z6 : Int, z6 = wr (z5 + 1) → ∀ h2 : fH, h2 = fu h1 a0 29 z6 → ∀ z7 : Int, z7 = h2 a0 31 → ∀ z8 : Int, z8 = h2 a0 29 → ∀ z9 : Int, z9 = wr (z8 - 1) → ∀ z10 : Int, z10 = h2 z7 z9 → Q z10 h2))) : Q v h' := by
  exact x_mef vr_carry_k hs (fun _ _ _ => False) Q h0 (fun i Ti hT => by cases hT)
def vr_comesTold_T : xT := [(8, [.inr 5, .inl 1], 2, 0), (1, [.inr 289, .inl 2], 0, 0), (8, [.inr 5, .inl 1], 2, 0), (8, [.inl 4, .inr 1], 0, 0), (1, [.inr 289, .inl 5], 0, 0), (8, [.inr 5, .inl 1], 2, 0), (8, [.inl 7, .inr 2], 0, 0), (1, [.inr 289, .inl 8], 0, 0), (1, [.inr 288, .inl 1], 0, 0), (10, [.inl 10, .inr 97], 0, 8), (8, [.inr 5, .inl 1], 2, 0), (8, [.inl 11, .inr 3], 0, 0),
  (1, [.inr 289, .inl 12], 0, 0), (8, [.inr 5, .inl 1], 2, 0), (8, [.inl 14, .inr 4], 0, 0), (1, [.inr 289, .inl 15], 0, 0), (13, [.inl 0, .inl 3, .inl 6, .inl 9, .inl 13, .inl 16], 165, 0), (11, [.inl 17], 0, 0), (10, [.inl 10, .inr 98], 0, 18), (0, [.inl 0], 0, 0), (8, [.inl 11, .inr 1], 1, 0), (8, [.inl 3, .inr 0], 18, 0), (10, [.inl 13, .inr 0], 2, 1), (11, [.inr 0], 0, 0),
  (8, [.inl 3, .inl 12], 18, 0), (10, [.inl 14, .inr 0], 4, 1), (11, [.inr 0], 0, 0), (8, [.inl 6, .inr 0], 18, 0), (10, [.inl 15, .inr 0], 2, 1), (11, [.inr 0], 0, 0), (8, [.inl 6, .inr 4], 18, 0), (10, [.inl 16, .inr 0], 4, 1), (11, [.inr 0], 0, 0), (8, [.inr 5, .inl 3], 2, 0), (8, [.inl 17, .inl 6], 0, 0), (3, [.inr 277, .inl 18, .inl 9], 0, 0),
  (11, [.inr 1], 0, 0), (10, [.inl 10, .inr 101], 0, 17), (8, [.inl 3, .inr 0], 18, 0), (10, [.inl 11, .inr 0], 2, 1), (11, [.inr 0], 0, 0), (8, [.inl 3, .inr 4], 18, 0), (10, [.inl 12, .inr 0], 4, 1), (11, [.inr 0], 0, 0), (8, [.inl 6, .inr 1], 18, 0), (10, [.inl 13, .inr 0], 2, 1), (11, [.inr 0], 0, 0), (8, [.inl 6, .inr 9], 18, 0),
  (10, [.inl 14, .inr 0], 4, 1), (11, [.inr 0], 0, 0), (10, [.inl 9, .inr 8], 4, 1), (11, [.inr 0], 0, 0), (3, [.inr 278, .inl 3, .inl 6], 0, 0), (3, [.inr 279, .inl 3, .inl 9], 0, 0), (11, [.inr 1], 0, 0), (10, [.inl 10, .inr 112], 0, 2), (13, [.inl 0, .inl 3, .inl 6], 162, 0), (11, [.inl 11], 0, 0), (10, [.inl 10, .inr 119], 0, 12), (0, [.inl 0], 0, 0),
  (8, [.inl 11, .inr 1], 1, 0), (8, [.inl 3, .inr 0], 18, 0), (10, [.inl 13, .inr 0], 2, 1), (11, [.inr 0], 0, 0), (8, [.inl 3, .inl 12], 18, 0), (10, [.inl 14, .inr 0], 4, 1), (11, [.inr 0], 0, 0), (10, [.inl 6, .inr 7], 3, 1), (11, [.inr 0], 0, 0), (3, [.inr 274, .inl 3, .inl 6], 0, 0), (11, [.inr 1], 0, 0), (8, [.inr 10, .inl 3], 2, 0),
  (8, [.inl 11, .inl 6], 0, 0), (8, [.inl 12, .inr 1], 18, 0), (10, [.inl 13, .inr 0], 2, 1), (11, [.inr 0], 0, 0), (8, [.inl 12, .inr 60], 18, 0), (10, [.inl 14, .inr 0], 4, 1), (11, [.inr 0], 0, 0), (0, [.inl 0], 15, 0), (8, [.inr 10, .inl 3], 2, 0), (8, [.inl 15, .inl 16], 0, 0), (8, [.inl 17, .inl 6], 0, 0), (10, [.inl 18, .inr 999], 4, 1),
  (11, [.inr 0], 0, 0), (8, [.inr 10, .inl 3], 2, 0), (8, [.inl 19, .inl 6], 0, 0), (13, [.inl 0, .inl 20], 172, 0), (11, [.inr 1], 0, 0)]
theorem vr_comesTold_k : x_chk 161 [] vr_comesTold_T [] 600 = true := by decide +kernel
theorem vr_comesTold {a0 a1 v : Int} {h h' : fH} (hs : fS 161 [a0, a1] h v h') (Q : Int → fH → Prop) (h0 : ∀ z2 : Int, z2 = wr (5 * a1) → ∀ z3 : Int, z3 = h 289 z2 → ∀ z4 : Int, z4 = wr (5 * a1) → ∀ z5 : Int, z5 = wr (z4 + 1) → ∀ z6 : Int, z6 = h 289 z5 → ∀ z7 : Int, z7 = wr (5 * a1) → ∀ z8 : Int, z8 = wr (z7 + 2) → ∀ z9 : Int, z9 = h 289 z8 → ∀ z10 : Int, z10 = h 288 a1 → ((z10 = 97 → ∀ z11 : Int, z11 = wr (5 * a1) → ∀ z12 : Int, z12 = wr (z11 + 3) → ∀ z13 : Int, z13 = h 289 z12 → ∀ z14 : Int, z14 = wr (5 * a1) → ∀ z15 : Int, z15 = wr (z14 + 4) → ∀ z16 : Int, z16 = h 289 z15 → ∀ (v1 : Int) (h1 : fH), fS 165 [a0, z3, z6, z9, z13, z16] h v1 h1 → Q v1 h1) ∧ (z10 ≠ 97 → ((z10 = 98 → ∀ z11 : Int, z11 = h a0 0 → ∀ z12 : Int, z12 = wr (z11 - 1) → ∀ z13 : Int, z13 = xlcmp z3 0 → ((z13 < 0 → Q 0 h) ∧ (0 ≤ z13 → ∀ z14 : Int, z14 = xlcmp z3 z12 → ((0 < z14 → Q 0 h) ∧ (z14 ≤ 0 → ∀ z15 : Int, z15 = xlcmp z6 0 → ((z15 < 0 → Q 0 h) ∧ (0 ≤ z15 → ∀ z16 : Int, z16 = xlcmp z6 4 → ((0 < z16 → Q 0 h) ∧ (z16 ≤ 0 → ∀ z17 : Int, z17 = wr (5 * z3) → ∀ z18 : Int, z18 = wr (z17 + z6) → ∀ h1 : fH, h1 = fu h 277 z18 z9 → Q 1 h1))))))))) ∧ (z10 ≠ 98 → ((z10 = 101 → ∀ z11 : Int, z11 = xlcmp z3 0 → ((z11 < 0 → Q 0 h) ∧ (0 ≤ z11 → ∀ z12 : Int, z12 = xlcmp z3 4 → ((0 < z12 → Q 0 h) ∧ (z12 ≤ 0 → ∀ z13 : Int, z13 = xlcmp z6 1 → ((z13 < 0 → Q 0 h) ∧ (0 ≤ z13 → ∀ z14 : Int, z14 = xlcmp z6 9 → ((0 < z14 → Q 0 h) ∧ (z14 ≤ 0 → ((8 < z9 → Q 0 h) ∧ (z9 ≤ 8 → ∀ h1 : fH, h1 = fu h 278 z3 z6 → ∀ h2 : fH, h2 = fu h1 279 z3 z9 → Q 1 h2))))))))))) ∧ (z10 ≠ 101 → ((z10 = 112 → ∀ (v1 : Int) (h1 : fH), fS 162 [a0, z3, z6] h v1 h1 → Q v1 h1) ∧ (z10 ≠ 112 → ((z10 = 119 → ∀ z11 : Int, z11 = h a0 0 → ∀ z12 : Int, z12 = wr (z11 - 1) → ∀ z13 : Int, z13 = xlcmp z3 0 → ((z13 < 0 → Q 0 h) ∧ (0 ≤ z13 → ∀ z14 : Int, z14 = xlcmp z3 z12 → ((0 < z14 → Q 0 h) ∧ (z14 ≤ 0 → ((7 ≤ z6 → Q 0 h) ∧ (z6 < 7 → ∀ h1 : fH, h1 = fu h 274 z3 z6 → Q 1 h1))))))) ∧ (z10 ≠ 119 → ∀ z11 : Int, z11 = wr (10 * z3) → ∀ z12 : Int, z12 = wr (z11 + z6) → ∀ z13 : Int, z13 = xlcmp z12 1 → ((z13 < 0 → Q 0 h) ∧ (0 ≤ z13 → ∀ z14 : Int, z14 = xlcmp z12 60 → ((0 < z14 → Q 0 h) ∧ (z14 ≤ 0 → ∀ z15 : Int, z15 = h a0 15 → ∀ z16 : Int, z16 = wr (10 * z3) → ∀ z17 : Int, z17 = wr (z15 + z16) → ∀ z18 : Int, z18 = wr (z17 + z6) → ((999 < z18 → Q 0 h) ∧ (z18 ≤ 999 → ∀ z19 : Int, z19 = wr (10 * z3) → ∀ z20 : Int, z20 = wr (z19 + z6) → ∀ (v1 : Int) (h1 : fH), fS 172 [a0, z20] h v1 h1 → Q 1 h1))))))))))))))))) : Q v h' := by
  exact x_mef vr_comesTold_k hs (fun _ _ _ => False) Q h0 (fun i Ti hT => by cases hT)
def vr_personComes_T : xT := [(10, [.inl 1, .inr 6], 3, 1), (11, [.inr 0], 0, 0), (0, [.inl 0], 0, 0), (10, [.inl 3, .inr 7], 3, 1), (11, [.inr 0], 0, 0), (0, [.inl 0], 0, 0), (3, [.inr 272, .inl 4, .inl 1], 0, 0), (0, [.inl 0], 0, 0), (3, [.inr 273, .inl 5, .inl 2], 0, 0), (0, [.inl 0], 0, 0), (0, [.inl 0], 0, 0), (3, [.inr 274, .inl 6, .inl 7], 0, 0),
  (0, [.inl 0], 0, 0), (3, [.inr 275, .inl 8, .inr 0], 0, 0), (0, [.inl 0], 0, 0), (3, [.inr 276, .inl 9, .inr 0], 0, 0), (12, [.inl 0, .inr 1, .inr 0], 0, 0)]
def vr_personComes_T0 : xT := [(10, [.inl 2, .inr 5], 3, 4), (0, [.inl 0], 0, 0), (8, [.inl 3, .inr 1], 0, 0), (2, [.inl 0, .inl 4], 0, 0), (11, [.inl 1], 0, 0), (0, [.inl 0], 0, 0), (8, [.inr 5, .inl 3], 2, 0), (8, [.inl 4, .inl 2], 0, 0), (3, [.inr 277, .inl 5, .inr 5], 0, 0), (8, [.inl 2, .inr 1], 0, 0), (12, [.inl 0, .inl 1, .inl 6], 0, 0)]
theorem vr_personComes_k : x_chk 162 [(81, [(0, 0), (3, 0), (4, 0)])] vr_personComes_T [vr_personComes_T0] 600 = true := by decide +kernel
theorem vr_personComes {a0 a1 a2 v : Int} {h h' : fH} (hs : fS 162 [a0, a1, a2] h v h') (I0 : Int → Int → Int → fH → Prop) (Q : Int → fH → Prop) (h0 : ((6 ≤ a1 → Q 0 h) ∧ (a1 < 6 → ∀ z3 : Int, z3 = h a0 0 → ((7 ≤ z3 → Q 0 h) ∧ (z3 < 7 → ∀ z4 : Int, z4 = h a0 0 → ∀ h1 : fH, h1 = fu h 272 z4 a1 → ∀ z5 : Int, z5 = h1 a0 0 → ∀ h2 : fH, h2 = fu h1 273 z5 a2 → ∀ z6 : Int, z6 = h2 a0 0 → ∀ z7 : Int, z7 = h2 a0 0 → ∀ h3 : fH, h3 = fu h2 274 z6 z7 → ∀ z8 : Int, z8 = h3 a0 0 → ∀ h4 : fH, h4 = fu h3 275 z8 0 → ∀ z9 : Int, z9 = h4 a0 0 → ∀ h5 : fH, h5 = fu h4 276 z9 0 → I0 a0 1 0 h5))))) (k0 : ∀ (x0 x3 x4 : Int) (h : fH), I0 x0 x3 x4 h → ((5 ≤ x4 → ∀ z3 : Int, z3 = h x0 0 → ∀ z4 : Int, z4 = wr (z3 + 1) → ∀ h1 : fH, h1 = fu h x0 0 z4 → Q x3 h1) ∧ (x4 < 5 → ∀ z3 : Int, z3 = h x0 0 → ∀ z4 : Int, z4 = wr (5 * z3) → ∀ z5 : Int, z5 = wr (z4 + x4) → ∀ h1 : fH, h1 = fu h 277 z5 5 → ∀ z6 : Int, z6 = wr (x4 + 1) → I0 x0 x3 z6 h1))) : Q v h' := by
  refine x_mef vr_personComes_k hs (fun k l h => match k with
    | 0 => (match l with | [x0, x3, x4] => I0 x0 x3 x4 h | _ => False)
    | _ => False) Q h0 ?_
  intro i Ti hT vals h hi
  match i, hT, hi with
  | 0, hT, hi =>
    cases hT
    match vals, hi with
    | [x0, x3, x4], hi => exact k0 _ _ _ _ hi
    | [], hi => exact False.elim hi
    | [_], hi => exact False.elim hi
    | [_, _], hi => exact False.elim hi
    | _ :: _ :: _ :: _ :: _, hi => exact False.elim hi
  | _ + 1, hT, _ => cases hT
def vr_wagerTold_T : xT := [(0, [.inl 0], 0, 0), (8, [.inl 6, .inr 1], 1, 0), (8, [.inl 1, .inr 0], 18, 0), (10, [.inl 8, .inr 0], 2, 1), (11, [.inr 0], 0, 0), (8, [.inl 1, .inl 7], 18, 0), (10, [.inl 9, .inr 0], 4, 1), (11, [.inr 0], 0, 0), (0, [.inl 0], 0, 0), (8, [.inl 10, .inr 1], 1, 0), (8, [.inl 2, .inr 0], 18, 0), (10, [.inl 12, .inr 0], 2, 1),
  (11, [.inr 0], 0, 0), (8, [.inl 2, .inl 11], 18, 0), (10, [.inl 13, .inr 0], 4, 1), (11, [.inr 0], 0, 0), (10, [.inl 1, .inl 2], 0, 1), (11, [.inr 0], 0, 0), (8, [.inl 3, .inr 0], 18, 0), (10, [.inl 14, .inr 0], 2, 1), (11, [.inr 0], 0, 0), (8, [.inl 3, .inr 4], 18, 0), (10, [.inl 15, .inr 0], 4, 1), (11, [.inr 0], 0, 0),
  (10, [.inl 4, .inr 2], 3, 1), (11, [.inr 0], 0, 0), (10, [.inl 5, .inr 0], 5, 1), (11, [.inr 0], 0, 0), (0, [.inl 0], 9, 0), (10, [.inl 16, .inr 6], 3, 1), (11, [.inr 0], 0, 0), (13, [.inl 0, .inl 1, .inl 2, .inl 3, .inl 4], 166, 0), (10, [.inl 17, .inr 0], 0, 1), (11, [.inr 0], 0, 0), (0, [.inl 0], 9, 0), (3, [.inr 280, .inl 18, .inl 1], 0, 0),
  (0, [.inl 0], 9, 0), (3, [.inr 281, .inl 19, .inl 2], 0, 0), (0, [.inl 0], 9, 0), (3, [.inr 282, .inl 20, .inl 3], 0, 0), (0, [.inl 0], 9, 0), (3, [.inr 283, .inl 21, .inl 4], 0, 0), (0, [.inl 0], 9, 0), (3, [.inr 284, .inl 22, .inl 5], 0, 0), (0, [.inl 0], 9, 0), (8, [.inl 23, .inr 1], 0, 0), (2, [.inl 0, .inl 24], 9, 0), (11, [.inr 1], 0, 0)]
theorem vr_wagerTold_k : x_chk 165 [] vr_wagerTold_T [] 600 = true := by decide +kernel
theorem vr_wagerTold {a0 a1 a2 a3 a4 a5 v : Int} {h h' : fH} (hs : fS 165 [a0, a1, a2, a3, a4, a5] h v h') (Q : Int → fH → Prop) (h0 : ∀ z6 : Int, z6 = h a0 0 → ∀ z7 : Int, z7 = wr (z6 - 1) → ∀ z8 : Int, z8 = xlcmp a1 0 → ((z8 < 0 → Q 0 h) ∧ (0 ≤ z8 → ∀ z9 : Int, z9 = xlcmp a1 z7 → ((0 < z9 → Q 0 h) ∧ (z9 ≤ 0 → ∀ z10 : Int, z10 = h a0 0 → ∀ z11 : Int, z11 = wr (z10 - 1) → ∀ z12 : Int, z12 = xlcmp a2 0 → ((z12 < 0 → Q 0 h) ∧ (0 ≤ z12 → ∀ z13 : Int, z13 = xlcmp a2 z11 → ((0 < z13 → Q 0 h) ∧ (z13 ≤ 0 → ((a1 = a2 → Q 0 h) ∧ (a1 ≠ a2 → ∀ z14 : Int, z14 = xlcmp a3 0 → ((z14 < 0 → Q 0 h) ∧ (0 ≤ z14 → ∀ z15 : Int, z15 = xlcmp a3 4 → ((0 < z15 → Q 0 h) ∧ (z15 ≤ 0 → ((2 ≤ a4 → Q 0 h) ∧ (a4 < 2 → ((a5 ≤ 0 → Q 0 h) ∧ (0 < a5 → ∀ z16 : Int, z16 = h a0 9 → ((6 ≤ z16 → Q 0 h) ∧ (z16 < 6 → ∀ (v1 : Int) (h1 : fH), fS 166 [a0, a1, a2, a3, a4] h v1 h1 → ((v1 = 0 → Q 0 h1) ∧ (v1 ≠ 0 → ∀ z18 : Int, z18 = h1 a0 9 → ∀ h2 : fH, h2 = fu h1 280 z18 a1 → ∀ z19 : Int, z19 = h2 a0 9 → ∀ h3 : fH, h3 = fu h2 281 z19 a2 → ∀ z20 : Int, z20 = h3 a0 9 → ∀ h4 : fH, h4 = fu h3 282 z20 a3 → ∀ z21 : Int, z21 = h4 a0 9 → ∀ h5 : fH, h5 = fu h4 283 z21 a4 → ∀ z22 : Int, z22 = h5 a0 9 → ∀ h6 : fH, h6 = fu h5 284 z22 a5 → ∀ z23 : Int, z23 = h6 a0 9 → ∀ z24 : Int, z24 = wr (z23 + 1) → ∀ h7 : fH, h7 = fu h6 a0 9 z24 → Q 1 h7))))))))))))))))))))))) : Q v h' := by
  exact x_mef vr_wagerTold_k hs (fun _ _ _ => False) Q h0 (fun i Ti hT => by cases hT)
def vr_couldBe_T : xT := [(13, [.inl 0, .inl 1], 167, 0), (10, [.inl 5, .inr 0], 0, 1), (11, [.inr 0], 0, 0), (13, [.inl 0, .inl 2], 167, 0), (10, [.inl 6, .inr 0], 0, 1), (11, [.inr 0], 0, 0), (13, [.inl 0, .inl 1, .inl 3, .inl 4], 168, 0), (10, [.inl 7, .inr 4], 4, 1), (11, [.inr 0], 0, 0), (13, [.inl 0, .inl 2, .inl 1, .inl 3, .inl 4], 169, 0), (10, [.inl 8, .inr 0], 0, 1), (11, [.inr 0], 0, 0),
  (11, [.inr 1], 0, 0)]
theorem vr_couldBe_k : x_chk 166 [] vr_couldBe_T [] 600 = true := by decide +kernel
theorem vr_couldBe {a0 a1 a2 a3 a4 v : Int} {h h' : fH} (hs : fS 166 [a0, a1, a2, a3, a4] h v h') (Q : Int → fH → Prop) (h0 : ∀ (v1 : Int) (h1 : fH), fS 167 [a0, a1] h v1 h1 → ((v1 = 0 → Q 0 h1) ∧ (v1 ≠ 0 → ∀ (v2 : Int) (h2 : fH), fS 167 [a0, a2] h1 v2 h2 → ((v2 = 0 → Q 0 h2) ∧ (v2 ≠ 0 → ∀ (v3 : Int) (h3 : fH), fS 168 [a0, a1, a3, a4] h2 v3 h3 → ((4 < v3 → Q 0 h3) ∧ (v3 ≤ 4 → ∀ (v4 : Int) (h4 : fH), fS 169 [a0, a2, a1, a3, a4] h3 v4 h4 → ((v4 = 0 → Q 0 h4) ∧ (v4 ≠ 0 → Q 1 h4))))))))) : Q v h' := by
  exact x_mef vr_couldBe_k hs (fun _ _ _ => False) Q h0 (fun i Ti hT => by cases hT)
def vr_isFree_T : xT := [(1, [.inr 276, .inl 1], 0, 0), (10, [.inl 2, .inr 0], 1, 1), (12, [.inl 0, .inl 1, .inr 0, .inr 0], 0, 0), (12, [.inl 0, .inl 1, .inr 1, .inr 0], 0, 0)]
def vr_isFree_T0 : xT := [(0, [.inl 0], 9, 0), (10, [.inl 3, .inl 4], 3, 1), (11, [.inl 2], 0, 0), (10, [.inl 2, .inr 0], 0, 2), (8, [.inl 3, .inr 1], 0, 0), (12, [.inl 0, .inl 1, .inr 0, .inl 5], 0, 0), (1, [.inr 280, .inl 3], 0, 0), (10, [.inl 5, .inl 1], 0, 2), (8, [.inl 3, .inr 1], 0, 0), (12, [.inl 0, .inl 1, .inr 0, .inl 6], 0, 0), (1, [.inr 281, .inl 3], 0, 0), (10, [.inl 6, .inl 1], 0, 2),
  (8, [.inl 3, .inr 1], 0, 0), (12, [.inl 0, .inl 1, .inr 0, .inl 7], 0, 0), (8, [.inl 3, .inr 1], 0, 0), (12, [.inl 0, .inl 1, .inr 1, .inl 7], 0, 0)]
theorem vr_isFree_k : x_chk 167 [(17, [(0, 0), (1, 0), (2, 0), (3, 0)])] vr_isFree_T [vr_isFree_T0] 600 = true := by decide +kernel
theorem vr_isFree {a0 a1 v : Int} {h h' : fH} (hs : fS 167 [a0, a1] h v h') (I0 : Int → Int → Int → Int → fH → Prop) (Q : Int → fH → Prop) (h0 : ∀ z2 : Int, z2 = h 276 a1 → ((z2 ≠ 0 → I0 a0 a1 0 0 h) ∧ (z2 = 0 → I0 a0 a1 1 0 h))) (k0 : ∀ (x0 x1 x2 x3 : Int) (h : fH), I0 x0 x1 x2 x3 h → ∀ z4 : Int, z4 = h x0 9 → ((z4 ≤ x3 → Q x2 h) ∧ (x3 < z4 → ((x2 = 0 → ∀ z5 : Int, z5 = wr (x3 + 1) → I0 x0 x1 0 z5 h) ∧ (x2 ≠ 0 → ∀ z5 : Int, z5 = h 280 x3 → ((z5 = x1 → ∀ z6 : Int, z6 = wr (x3 + 1) → I0 x0 x1 0 z6 h) ∧ (z5 ≠ x1 → ∀ z6 : Int, z6 = h 281 x3 → ((z6 = x1 → ∀ z7 : Int, z7 = wr (x3 + 1) → I0 x0 x1 0 z7 h) ∧ (z6 ≠ x1 → ∀ z7 : Int, z7 = wr (x3 + 1) → I0 x0 x1 1 z7 h))))))))) : Q v h' := by
  refine x_mef vr_isFree_k hs (fun k l h => match k with
    | 0 => (match l with | [x0, x1, x2, x3] => I0 x0 x1 x2 x3 h | _ => False)
    | _ => False) Q h0 ?_
  intro i Ti hT vals h hi
  match i, hT, hi with
  | 0, hT, hi =>
    cases hT
    match vals, hi with
    | [x0, x1, x2, x3], hi => exact k0 _ _ _ _ _ hi
    | [], hi => exact False.elim hi
    | [_], hi => exact False.elim hi
    | [_, _], hi => exact False.elim hi
    | [_, _, _], hi => exact False.elim hi
    | _ :: _ :: _ :: _ :: _ :: _, hi => exact False.elim hi
  | _ + 1, hT, _ => cases hT
def vr_trustOf_T : xT := [(10, [.inl 3, .inr 1], 1, 5), (8, [.inr 5, .inl 1], 2, 0), (8, [.inl 4, .inl 2], 0, 0), (1, [.inr 277, .inl 5], 0, 0), (8, [.inr 9, .inl 6], 1, 0), (11, [.inl 7], 0, 0), (8, [.inr 5, .inl 1], 2, 0), (8, [.inl 4, .inl 2], 0, 0), (1, [.inr 277, .inl 5], 0, 0), (11, [.inl 6], 0, 0)]
theorem vr_trustOf_k : x_chk 168 [] vr_trustOf_T [] 600 = true := by decide +kernel
theorem vr_trustOf {a0 a1 a2 a3 v : Int} {h h' : fH} (hs : fS 168 [a0, a1, a2, a3] h v h') (Q : Int → fH → Prop) (h0 : ((a3 ≠ 1 → ∀ z4 : Int, z4 = wr (5 * a1) → ∀ z5 : Int, z5 = wr (z4 + a2) → ∀ z6 : Int, z6 = h 277 z5 → ∀ z7 : Int, z7 = wr (9 - z6) → Q z7 h) ∧ (a3 = 1 → ∀ z4 : Int, z4 = wr (5 * a1) → ∀ z5 : Int, z5 = wr (z4 + a2) → ∀ z6 : Int, z6 = h 277 z5 → Q z6 h))) : Q v h' := by
  exact x_mef vr_trustOf_k hs (fun _ _ _ => False) Q h0 (fun i Ti hT => by cases hT)
def vr_isTaking_T : xT := [(1, [.inr 274, .inl 1], 0, 0), (10, [.inl 5, .inl 2], 0, 1), (11, [.inr 1], 0, 0), (13, [.inl 0, .inl 1, .inl 3, .inl 4], 168, 0), (13, [.inl 0, .inl 1], 170, 0), (10, [.inl 6, .inl 7], 2, 1), (11, [.inr 0], 0, 0), (11, [.inr 1], 0, 0)]
theorem vr_isTaking_k : x_chk 169 [] vr_isTaking_T [] 600 = true := by decide +kernel
theorem vr_isTaking {a0 a1 a2 a3 a4 v : Int} {h h' : fH} (hs : fS 169 [a0, a1, a2, a3, a4] h v h') (Q : Int → fH → Prop) (h0 : ∀ z5 : Int, z5 = h 274 a1 → ((z5 = a2 → Q 1 h) ∧ (z5 ≠ a2 → ∀ (v1 : Int) (h1 : fH), fS 168 [a0, a1, a3, a4] h v1 h1 → ∀ (v2 : Int) (h2 : fH), fS 170 [a0, a1] h1 v2 h2 → ((v1 < v2 → Q 0 h2) ∧ (v2 ≤ v1 → Q 1 h2))))) : Q v h' := by
  exact x_mef vr_isTaking_k hs (fun _ _ _ => False) Q h0 (fun i Ti hT => by cases hT)
def vr_asksOf_T : xT := [(1, [.inr 272, .inl 1], 0, 0), (10, [.inl 2, .inr 1], 0, 1), (11, [.inr 6], 0, 0), (10, [.inl 2, .inr 2], 0, 2), (1, [.inr 273, .inl 1], 0, 0), (11, [.inl 3], 0, 0), (10, [.inl 2, .inr 3], 0, 1), (11, [.inr 0], 0, 0), (10, [.inl 2, .inr 4], 0, 4), (1, [.inr 273, .inl 1], 0, 0), (8, [.inl 3, .inr 3], 9, 0), (8, [.inr 6, .inl 4], 0, 0),
  (11, [.inl 5], 0, 0), (10, [.inl 2, .inr 5], 0, 1), (11, [.inr 3], 0, 0), (11, [.inr 5], 0, 0)]
theorem vr_asksOf_k : x_chk 170 [] vr_asksOf_T [] 600 = true := by decide +kernel
theorem vr_asksOf {a0 a1 v : Int} {h h' : fH} (hs : fS 170 [a0, a1] h v h') (Q : Int → fH → Prop) (h0 : ∀ z2 : Int, z2 = h 272 a1 → ((z2 = 1 → Q 6 h) ∧ (z2 ≠ 1 → ((z2 = 2 → ∀ z3 : Int, z3 = h 273 a1 → Q z3 h) ∧ (z2 ≠ 2 → ((z2 = 3 → Q 0 h) ∧ (z2 ≠ 3 → ((z2 = 4 → ∀ z3 : Int, z3 = h 273 a1 → ∀ z4 : Int, z4 = xdiv z3 3 → ∀ z5 : Int, z5 = wr (6 + z4) → Q z5 h) ∧ (z2 ≠ 4 → ((z2 = 5 → Q 3 h) ∧ (z2 ≠ 5 → Q 5 h))))))))))) : Q v h' := by
  exact x_mef vr_asksOf_k hs (fun _ _ _ => False) Q h0 (fun i Ti hT => by cases hT)
def vr_goDays_T : xT := [(12, [.inl 0, .inl 1, .inr 0], 0, 0)]
def vr_goDays_T0 : xT := [(10, [.inl 2, .inl 1], 3, 1), (11, [.inr 0], 0, 0), (13, [.inl 0, .inr 0], 173, 0), (8, [.inl 2, .inr 1], 0, 0), (12, [.inl 0, .inl 1, .inl 4], 0, 0)]
theorem vr_goDays_k : x_chk 172 [(2, [(0, 0), (1, 0), (2, 0)])] vr_goDays_T [vr_goDays_T0] 600 = true := by decide +kernel
theorem vr_goDays {a0 a1 v : Int} {h h' : fH} (hs : fS 172 [a0, a1] h v h') (I0 : Int → Int → Int → fH → Prop) (Q : Int → fH → Prop) (h0 : I0 a0 a1 0 h) (k0 : ∀ (x0 x1 x2 : Int) (h : fH), I0 x0 x1 x2 h → ((x1 ≤ x2 → Q 0 h) ∧ (x2 < x1 → ∀ (v1 : Int) (h1 : fH), fS 173 [x0, 0] h v1 h1 → ∀ z4 : Int, z4 = wr (x2 + 1) → I0 x0 x1 z4 h1))) : Q v h' := by
  refine x_mef vr_goDays_k hs (fun k l h => match k with
    | 0 => (match l with | [x0, x1, x2] => I0 x0 x1 x2 h | _ => False)
    | _ => False) Q h0 ?_
  intro i Ti hT vals h hi
  match i, hT, hi with
  | 0, hT, hi =>
    cases hT
    match vals, hi with
    | [x0, x1, x2], hi => exact k0 _ _ _ _ hi
    | [], hi => exact False.elim hi
    | [_], hi => exact False.elim hi
    | [_, _], hi => exact False.elim hi
    | _ :: _ :: _ :: _ :: _, hi => exact False.elim hi
  | _ + 1, hT, _ => cases hT
def vr_dayBy_T : xT := [(0, [.inl 0], 15, 0), (8, [.inl 2, .inr 1], 0, 0), (2, [.inl 0, .inl 3], 15, 0), (12, [.inl 0, .inl 1, .inr 0], 0, 0)]
def vr_dayBy_T0 : xT := [(0, [.inl 0], 9, 0), (10, [.inl 2, .inl 3], 3, 1), (12, [.inl 0, .inl 1, .inr 0], 1, 0), (1, [.inr 284, .inl 2], 0, 0), (8, [.inl 4, .inr 1], 1, 0), (3, [.inr 284, .inl 2, .inl 5], 0, 0), (1, [.inr 284, .inl 2], 0, 0), (10, [.inl 6, .inr 0], 5, 35), (10, [.inl 1, .inr 0], 1, 9), (1, [.inr 283, .inl 2], 0, 0), (10, [.inl 7, .inr 1], 1, 5), (1, [.inr 280, .inl 2], 0, 0),
  (1, [.inr 281, .inl 2], 0, 0), (13, [.inl 0, .inl 8, .inl 9], 175, 0), (13, [.inl 0, .inl 2], 178, 0), (12, [.inl 0, .inl 1, .inl 2], 0, 0), (13, [.inl 0, .inl 2], 178, 0), (12, [.inl 0, .inl 1, .inl 2], 0, 0), (1, [.inr 282, .inl 2], 0, 0), (0, [.inl 0], 15, 0), (1, [.inr 279, .inl 7], 0, 0), (8, [.inl 8, .inl 9], 0, 0), (1, [.inr 278, .inl 7], 0, 0), (8, [.inl 10, .inl 11], 10, 0),
  (10, [.inl 12, .inr 0], 1, 9), (1, [.inr 283, .inl 2], 0, 0), (10, [.inl 13, .inr 1], 1, 2), (13, [.inl 0, .inl 2], 178, 0), (12, [.inl 0, .inl 1, .inl 2], 0, 0), (1, [.inr 280, .inl 2], 0, 0), (1, [.inr 281, .inl 2], 0, 0), (13, [.inl 0, .inl 14, .inl 15], 175, 0), (13, [.inl 0, .inl 2], 178, 0), (12, [.inl 0, .inl 1, .inl 2], 0, 0), (1, [.inr 283, .inl 2], 0, 0), (10, [.inl 13, .inr 1], 1, 5),
  (1, [.inr 280, .inl 2], 0, 0), (1, [.inr 281, .inl 2], 0, 0), (13, [.inl 0, .inl 14, .inl 15], 175, 0), (13, [.inl 0, .inl 2], 178, 0), (12, [.inl 0, .inl 1, .inl 2], 0, 0), (13, [.inl 0, .inl 2], 178, 0), (12, [.inl 0, .inl 1, .inl 2], 0, 0), (8, [.inl 2, .inr 1], 0, 0), (12, [.inl 0, .inl 1, .inl 7], 0, 0)]
def vr_dayBy_T1 : xT := [(0, [.inl 0], 0, 0), (8, [.inr 5, .inl 3], 2, 0), (10, [.inl 2, .inl 4], 3, 1), (11, [.inr 0], 0, 0), (8, [.inl 2, .inr 5], 9, 0), (13, [.inl 0, .inl 5], 179, 0), (1, [.inr 277, .inl 2], 0, 0), (10, [.inl 1, .inr 0], 1, 5), (8, [.inl 7, .inl 6], 0, 0), (13, [.inl 8, .inr 9], 177, 0), (3, [.inr 277, .inl 2, .inl 9], 0, 0), (8, [.inl 2, .inr 1], 0, 0),
  (12, [.inl 0, .inl 1, .inl 10], 1, 0), (8, [.inl 2, .inr 5], 10, 0), (0, [.inl 0], 15, 0), (1, [.inr 279, .inl 8], 0, 0), (8, [.inl 9, .inl 10], 0, 0), (1, [.inr 278, .inl 8], 0, 0), (8, [.inl 11, .inl 12], 10, 0), (10, [.inl 13, .inr 0], 1, 6), (9, [.inl 6], 0, 0), (8, [.inl 7, .inl 14], 0, 0), (13, [.inl 15, .inr 9], 177, 0), (3, [.inr 277, .inl 2, .inl 16], 0, 0),
  (8, [.inl 2, .inr 1], 0, 0), (12, [.inl 0, .inl 1, .inl 17], 1, 0), (8, [.inl 7, .inl 6], 0, 0), (13, [.inl 14, .inr 9], 177, 0), (3, [.inr 277, .inl 2, .inl 15], 0, 0), (8, [.inl 2, .inr 1], 0, 0), (12, [.inl 0, .inl 1, .inl 16], 1, 0)]
theorem vr_dayBy_k : x_chk 173 [(12, [(0, 0), (1, 0), (2, 0)]), (117, [(0, 0), (1, 0), (3, 0)])] vr_dayBy_T [vr_dayBy_T0, vr_dayBy_T1] 600 = true := by decide +kernel
theorem vr_dayBy {a0 a1 v : Int} {h h' : fH} (hs : fS 173 [a0, a1] h v h') (I0 : Int → Int → Int → fH → Prop) (I1 : Int → Int → Int → fH → Prop) (Q : Int → fH → Prop) (h0 : ∀ z2 : Int, z2 = h a0 15 → ∀ z3 : Int, z3 = wr (z2 + 1) → ∀ h1 : fH, h1 = fu h a0 15 z3 → I0 a0 a1 0 h1) (k0 : ∀ (x0 x1 x2 : Int) (h : fH), I0 x0 x1 x2 h → ∀ z3 : Int, z3 = h x0 9 → ((z3 ≤ x2 → I1 x0 x1 0 h) ∧ (x2 < z3 → ∀ z4 : Int, z4 = h 284 x2 → ∀ z5 : Int, z5 = wr (z4 - 1) → ∀ h1 : fH, h1 = fu h 284 x2 z5 → ∀ z6 : Int, z6 = h1 284 x2 → ((z6 ≤ 0 → ((x1 ≠ 0 → ∀ z7 : Int, z7 = h1 283 x2 → ((z7 ≠ 1 → ∀ z8 : Int, z8 = h1 280 x2 → ∀ z9 : Int, z9 = h1 281 x2 → ∀ (v2 : Int) (h2 : fH), fS 175 [x0, z8, z9] h1 v2 h2 → ∀ (v3 : Int) (h3 : fH), fS 178 [x0, x2] h2 v3 h3 → I0 x0 x1 x2 h3) ∧ (z7 = 1 → ∀ (v2 : Int) (h2 : fH), fS 178 [x0, x2] h1 v2 h2 → I0 x0 x1 x2 h2))) ∧ (x1 = 0 → ∀ z7 : Int, z7 = h1 282 x2 → ∀ z8 : Int, z8 = h1 x0 15 → ∀ z9 : Int, z9 = h1 279 z7 → ∀ z10 : Int, z10 = wr (z8 + z9) → ∀ z11 : Int, z11 = h1 278 z7 → ∀ z12 : Int, z12 = xrem z10 z11 → ((z12 ≠ 0 → ∀ z13 : Int, z13 = h1 283 x2 → ((z13 ≠ 1 → ∀ (v2 : Int) (h2 : fH), fS 178 [x0, x2] h1 v2 h2 → I0 x0 x1 x2 h2) ∧ (z13 = 1 → ∀ z14 : Int, z14 = h1 280 x2 → ∀ z15 : Int, z15 = h1 281 x2 → ∀ (v2 : Int) (h2 : fH), fS 175 [x0, z14, z15] h1 v2 h2 → ∀ (v3 : Int) (h3 : fH), fS 178 [x0, x2] h2 v3 h3 → I0 x0 x1 x2 h3))) ∧ (z12 = 0 → ∀ z13 : Int, z13 = h1 283 x2 → ((z13 ≠ 1 → ∀ z14 : Int, z14 = h1 280 x2 → ∀ z15 : Int, z15 = h1 281 x2 → ∀ (v2 : Int) (h2 : fH), fS 175 [x0, z14, z15] h1 v2 h2 → ∀ (v3 : Int) (h3 : fH), fS 178 [x0, x2] h2 v3 h3 → I0 x0 x1 x2 h3) ∧ (z13 = 1 → ∀ (v2 : Int) (h2 : fH), fS 178 [x0, x2] h1 v2 h2 → I0 x0 x1 x2 h2))))))) ∧ (0 < z6 → ∀ z7 : Int, z7 = wr (x2 + 1) → I0 x0 x1 z7 h1))))) (k1 : ∀ (x0 x1 x3 : Int) (h : fH), I1 x0 x1 x3 h → ∀ z3 : Int, z3 = h x0 0 → ∀ z4 : Int, z4 = wr (5 * z3) → ((z4 ≤ x3 → Q 0 h) ∧ (x3 < z4 → ∀ z5 : Int, z5 = xdiv x3 5 → ∀ (v1 : Int) (h1 : fH), fS 179 [x0, z5] h v1 h1 → ∀ z7 : Int, z7 = h1 277 x3 → ((x1 ≠ 0 → ∀ z8 : Int, z8 = wr (z7 + v1) → ∀ (v2 : Int) (h2 : fH), fS 177 [z8, 9] h1 v2 h2 → ∀ h3 : fH, h3 = fu h2 277 x3 v2 → ∀ z10 : Int, z10 = wr (x3 + 1) → I1 x0 x1 z10 h3) ∧ (x1 = 0 → ∀ z8 : Int, z8 = xrem x3 5 → ∀ z9 : Int, z9 = h1 x0 15 → ∀ z10 : Int, z10 = h1 279 z8 → ∀ z11 : Int, z11 = wr (z9 + z10) → ∀ z12 : Int, z12 = h1 278 z8 → ∀ z13 : Int, z13 = xrem z11 z12 → ((z13 ≠ 0 → ∀ z14 : Int, z14 = wr (-v1) → ∀ z15 : Int, z15 = wr (z7 + z14) → ∀ (v2 : Int) (h2 : fH), fS 177 [z15, 9] h1 v2 h2 → ∀ h3 : fH, h3 = fu h2 277 x3 v2 → ∀ z17 : Int, z17 = wr (x3 + 1) → I1 x0 x1 z17 h3) ∧ (z13 = 0 → ∀ z14 : Int, z14 = wr (z7 + v1) → ∀ (v2 : Int) (h2 : fH), fS 177 [z14, 9] h1 v2 h2 → ∀ h3 : fH, h3 = fu h2 277 x3 v2 → ∀ z16 : Int, z16 = wr (x3 + 1) → I1 x0 x1 z16 h3))))))) : Q v h' := by
  refine x_mef vr_dayBy_k hs (fun k l h => match k with
    | 0 => (match l with | [x0, x1, x2] => I0 x0 x1 x2 h | _ => False)
    | 1 => (match l with | [x0, x1, x3] => I1 x0 x1 x3 h | _ => False)
    | _ => False) Q h0 ?_
  intro i Ti hT vals h hi
  match i, hT, hi with
  | 0, hT, hi =>
    cases hT
    match vals, hi with
    | [x0, x1, x2], hi => exact k0 _ _ _ _ hi
    | [], hi => exact False.elim hi
    | [_], hi => exact False.elim hi
    | [_, _], hi => exact False.elim hi
    | _ :: _ :: _ :: _ :: _, hi => exact False.elim hi
  | 1, hT, hi =>
    cases hT
    match vals, hi with
    | [x0, x1, x3], hi => exact k1 _ _ _ _ hi
    | [], hi => exact False.elim hi
    | [_], hi => exact False.elim hi
    | [_, _], hi => exact False.elim hi
    | _ :: _ :: _ :: _ :: _, hi => exact False.elim hi
  | _ + 2, hT, _ => cases hT
