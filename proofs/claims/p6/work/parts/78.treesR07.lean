/-! the trees of the methods (made by a program) -/
def vr_partnerOf_T : xT := [(8, [.inl 1, .inr 1], 0, 0), (12, [.inl 0, .inl 1, .inl 2, .inl 3], 0, 0)]
def vr_partnerOf_T0 : xT := [(0, [.inl 0], 0, 0), (10, [.inl 3, .inl 4], 3, 1), (11, [.inr (-9)], 0, 0), (8, [.inl 2, .inl 1], 7, 0), (8, [.inl 5, .inr 1], 3, 0), (10, [.inl 6, .inr 1], 1, 47), (8, [.inl 2, .inl 3], 7, 0), (8, [.inl 7, .inr 1], 3, 0), (10, [.inl 8, .inr 1], 1, 42), (1, [.inr 295, .inl 1], 0, 0), (8, [.inl 9, .inl 3], 7, 0), (8, [.inl 10, .inr 1], 3, 0),
  (10, [.inl 11, .inr 1], 1, 22), (1, [.inr 295, .inl 3], 0, 0), (8, [.inl 12, .inl 1], 7, 0), (8, [.inl 13, .inr 1], 3, 0), (10, [.inl 14, .inr 1], 1, 2), (8, [.inl 3, .inr 1], 0, 0), (12, [.inl 0, .inl 1, .inl 2, .inl 15], 0, 0), (8, [.inl 1, .inr 1], 0, 0), (8, [.inr 128, .inl 15], 2, 0), (8, [.inr 1, .inl 3], 6, 0), (8, [.inl 2, .inl 17], 4, 0), (8, [.inr 1, .inl 1], 6, 0),
  (8, [.inl 18, .inl 19], 4, 0), (8, [.inl 16, .inl 20], 0, 0), (1, [.inr 294, .inl 21], 0, 0), (8, [.inr 1, .inl 22], 0, 0), (8, [.inr 128, .inl 1], 2, 0), (8, [.inl 24, .inl 2], 0, 0), (1, [.inr 294, .inl 25], 0, 0), (10, [.inl 23, .inl 26], 1, 2), (8, [.inl 3, .inr 1], 0, 0), (12, [.inl 0, .inl 1, .inl 2, .inl 27], 0, 0), (11, [.inl 3], 0, 0), (8, [.inl 1, .inr 1], 0, 0),
  (8, [.inr 128, .inl 12], 2, 0), (8, [.inr 1, .inl 3], 6, 0), (8, [.inl 2, .inl 14], 4, 0), (8, [.inr 1, .inl 1], 6, 0), (8, [.inl 15, .inl 16], 4, 0), (8, [.inl 13, .inl 17], 0, 0), (1, [.inr 294, .inl 18], 0, 0), (8, [.inr 1, .inl 19], 0, 0), (8, [.inr 128, .inl 1], 2, 0), (8, [.inl 21, .inl 2], 0, 0), (1, [.inr 294, .inl 22], 0, 0), (10, [.inl 20, .inl 23], 1, 2),
  (8, [.inl 3, .inr 1], 0, 0), (12, [.inl 0, .inl 1, .inl 2, .inl 24], 0, 0), (11, [.inl 3], 0, 0), (8, [.inl 3, .inr 1], 0, 0), (12, [.inl 0, .inl 1, .inl 2, .inl 9], 0, 0), (11, [.inr (-9)], 0, 0)]
theorem vr_partnerOf_k : x_chk 218 [(4, [(0, 0), (1, 0), (2, 0), (3, 0)])] vr_partnerOf_T [vr_partnerOf_T0] 600 = true := by decide +kernel
theorem vr_partnerOf {a0 a1 a2 v : Int} {h h' : fH} (hs : fS 218 [a0, a1, a2] h v h') (I0 : Int → Int → Int → Int → fH → Prop) (Q : Int → fH → Prop) (h0 : ∀ z3 : Int, z3 = wr (a1 + 1) → I0 a0 a1 a2 z3 h) (k0 : ∀ (x0 x1 x2 x3 : Int) (h : fH), I0 x0 x1 x2 x3 h → ∀ z4 : Int, z4 = h x0 0 → ((z4 ≤ x3 → Q (-9) h) ∧ (x3 < z4 → ∀ z5 : Int, z5 = xshr x2 x1 → ∀ z6 : Int, z6 = xand z5 1 → ((z6 ≠ 1 → ∀ z7 : Int, z7 = xshr x2 x3 → ∀ z8 : Int, z8 = xand z7 1 → ((z8 ≠ 1 → ∀ z9 : Int, z9 = h 295 x1 → ∀ z10 : Int, z10 = xshr z9 x3 → ∀ z11 : Int, z11 = xand z10 1 → ((z11 ≠ 1 → ∀ z12 : Int, z12 = h 295 x3 → ∀ z13 : Int, z13 = xshr z12 x1 → ∀ z14 : Int, z14 = xand z13 1 → ((z14 ≠ 1 → ∀ z15 : Int, z15 = wr (x3 + 1) → I0 x0 x1 x2 z15 h) ∧ (z14 = 1 → ∀ z15 : Int, z15 = wr (x1 + 1) → ∀ z16 : Int, z16 = wr (128 * z15) → ∀ z17 : Int, z17 = xshl 1 x3 → ∀ z18 : Int, z18 = xor' x2 z17 → ∀ z19 : Int, z19 = xshl 1 x1 → ∀ z20 : Int, z20 = xor' z18 z19 → ∀ z21 : Int, z21 = wr (z16 + z20) → ∀ z22 : Int, z22 = h 294 z21 → ∀ z23 : Int, z23 = wr (1 + z22) → ∀ z24 : Int, z24 = wr (128 * x1) → ∀ z25 : Int, z25 = wr (z24 + x2) → ∀ z26 : Int, z26 = h 294 z25 → ((z23 ≠ z26 → ∀ z27 : Int, z27 = wr (x3 + 1) → I0 x0 x1 x2 z27 h) ∧ (z23 = z26 → Q x3 h))))) ∧ (z11 = 1 → ∀ z12 : Int, z12 = wr (x1 + 1) → ∀ z13 : Int, z13 = wr (128 * z12) → ∀ z14 : Int, z14 = xshl 1 x3 → ∀ z15 : Int, z15 = xor' x2 z14 → ∀ z16 : Int, z16 = xshl 1 x1 → ∀ z17 : Int, z17 = xor' z15 z16 → ∀ z18 : Int, z18 = wr (z13 + z17) → ∀ z19 : Int, z19 = h 294 z18 → ∀ z20 : Int, z20 = wr (1 + z19) → ∀ z21 : Int, z21 = wr (128 * x1) → ∀ z22 : Int, z22 = wr (z21 + x2) → ∀ z23 : Int, z23 = h 294 z22 → ((z20 ≠ z23 → ∀ z24 : Int, z24 = wr (x3 + 1) → I0 x0 x1 x2 z24 h) ∧ (z20 = z23 → Q x3 h))))) ∧ (z8 = 1 → ∀ z9 : Int, z9 = wr (x3 + 1) → I0 x0 x1 x2 z9 h))) ∧ (z6 = 1 → Q (-9) h))))) : Q v h' := by
  refine x_mef vr_partnerOf_k hs (fun k l h => match k with
    | 0 => (match l with | [x0, x1, x2, x3] => I0 x0 x1 x2 x3 h | _ => False)
    | _ => False) Q h0 ?_
  intro i Ti hT vals h hi
  match i, hT, hi with
  | 0, hT, hi =>
    cases hT
    match vals, hi with
    | [x0, x1, x2, x3], hi => exact k0 _ _ _ _ _ hi
    | [], hi => exact False.elim hi
    | [_], hi => exact False.elim hi
    | [_, _], hi => exact False.elim hi
    | [_, _, _], hi => exact False.elim hi
    | _ :: _ :: _ :: _ :: _ :: _, hi => exact False.elim hi
  | _ + 1, hT, _ => cases hT
def vr_fix_T : xT := [(2, [.inl 0, .inr 0], 16, 0), (10, [.inl 1, .inr 0], 3, 9), (10, [.inl 1, .inr 30], 5, 3), (13, [.inl 0, .inr 290, .inr 1], 159, 0), (13, [.inl 0, .inl 1], 204, 0), (12, [.inl 0, .inl 1, .inr (-9), .inl 3, .inr 0], 0, 0), (9, [.inr (-6)], 0, 0), (1, [.inr 285, .inl 2], 0, 0), (8, [.inl 3, .inr 1], 0, 0), (3, [.inr 285, .inl 2, .inl 4], 0, 0), (11, [.inr (-6)], 0, 0), (9, [.inr (-4)], 0, 0),
  (1, [.inr 285, .inl 2], 0, 0), (8, [.inl 3, .inr 1], 0, 0), (3, [.inr 285, .inl 2, .inl 4], 0, 0), (11, [.inr (-4)], 0, 0)]
def vr_fix_T0 : xT := [(10, [.inl 4, .inr 45], 3, 1), (11, [.inl 2], 0, 0), (8, [.inl 4, .inr 9], 9, 0), (8, [.inl 4, .inr 9], 10, 0), (3, [.inr 279, .inl 5, .inl 6], 0, 0), (13, [.inl 0, .inl 1], 204, 0), (10, [.inl 7, .inl 3], 5, 5), (10, [.inl 7, .inl 3], 5, 2), (8, [.inl 4, .inr 1], 0, 0), (12, [.inl 0, .inl 1, .inl 2, .inl 3, .inl 8], 0, 0), (8, [.inl 4, .inr 1], 0, 0), (12, [.inl 0, .inl 1, .inl 2, .inl 7, .inl 8], 0, 0),
  (8, [.inl 4, .inr 9], 9, 0), (8, [.inr 10, .inl 8], 2, 0), (8, [.inl 4, .inr 9], 10, 0), (8, [.inl 9, .inl 10], 0, 0), (10, [.inl 7, .inl 3], 5, 2), (8, [.inl 4, .inr 1], 0, 0), (12, [.inl 0, .inl 1, .inl 11, .inl 3, .inl 12], 0, 0), (8, [.inl 4, .inr 1], 0, 0), (12, [.inl 0, .inl 1, .inl 11, .inl 7, .inl 12], 0, 0)]
theorem vr_fix_k : x_chk 219 [(40, [(0, 0), (1, 0), (3, 0), (4, 0), (5, 0)])] vr_fix_T [vr_fix_T0] 600 = true := by decide +kernel
theorem vr_fix {a0 a1 v : Int} {h h' : fH} (hs : fS 219 [a0, a1] h v h') (I0 : Int → Int → Int → Int → Int → fH → Prop) (Q : Int → fH → Prop) (h0 : ∀ h1 : fH, h1 = fu h a0 16 0 → ((0 ≤ a1 → ((a1 ≤ 30 → ∀ (v2 : Int) (h2 : fH), fS 159 [a0, 290, 1] h1 v2 h2 → ∀ (v3 : Int) (h3 : fH), fS 204 [a0, a1] h2 v3 h3 → I0 a0 a1 (-9) v3 0 h3) ∧ (30 < a1 → ∀ z2 : Int, z2 = wr (-(-6)) → ∀ z3 : Int, z3 = h1 285 z2 → ∀ z4 : Int, z4 = wr (z3 + 1) → ∀ h2 : fH, h2 = fu h1 285 z2 z4 → Q (-6) h2))) ∧ (a1 < 0 → ∀ z2 : Int, z2 = wr (-(-4)) → ∀ z3 : Int, z3 = h1 285 z2 → ∀ z4 : Int, z4 = wr (z3 + 1) → ∀ h2 : fH, h2 = fu h1 285 z2 z4 → Q (-4) h2))) (k0 : ∀ (x0 x1 x3 x4 x5 : Int) (h : fH), I0 x0 x1 x3 x4 x5 h → ((45 ≤ x5 → Q x3 h) ∧ (x5 < 45 → ∀ z5 : Int, z5 = xdiv x5 9 → ∀ z6 : Int, z6 = xrem x5 9 → ∀ h1 : fH, h1 = fu h 279 z5 z6 → ∀ (v2 : Int) (h2 : fH), fS 204 [x0, x1] h1 v2 h2 → ((v2 ≤ x4 → ((v2 ≤ x4 → ∀ z8 : Int, z8 = wr (x5 + 1) → I0 x0 x1 x3 x4 z8 h2) ∧ (x4 < v2 → ∀ z8 : Int, z8 = wr (x5 + 1) → I0 x0 x1 x3 v2 z8 h2))) ∧ (x4 < v2 → ∀ z8 : Int, z8 = xdiv x5 9 → ∀ z9 : Int, z9 = wr (10 * z8) → ∀ z10 : Int, z10 = xrem x5 9 → ∀ z11 : Int, z11 = wr (z9 + z10) → ((v2 ≤ x4 → ∀ z12 : Int, z12 = wr (x5 + 1) → I0 x0 x1 z11 x4 z12 h2) ∧ (x4 < v2 → ∀ z12 : Int, z12 = wr (x5 + 1) → I0 x0 x1 z11 v2 z12 h2))))))) : Q v h' := by
  refine x_mef vr_fix_k hs (fun k l h => match k with
    | 0 => (match l with | [x0, x1, x3, x4, x5] => I0 x0 x1 x3 x4 x5 h | _ => False)
    | _ => False) Q h0 ?_
  intro i Ti hT vals h hi
  match i, hT, hi with
  | 0, hT, hi =>
    cases hT
    match vals, hi with
    | [x0, x1, x3, x4, x5], hi => exact k0 _ _ _ _ _ _ hi
    | [], hi => exact False.elim hi
    | [_], hi => exact False.elim hi
    | [_, _], hi => exact False.elim hi
    | [_, _, _], hi => exact False.elim hi
    | [_, _, _, _], hi => exact False.elim hi
    | _ :: _ :: _ :: _ :: _ :: _ :: _, hi => exact False.elim hi
  | _ + 1, hT, _ => cases hT
def vr_preach_T : xT := [(2, [.inl 0, .inr 0], 16, 0), (8, [.inl 1, .inr 0], 18, 0), (10, [.inl 2, .inr 0], 2, 5), (9, [.inr (-1)], 0, 0), (1, [.inr 285, .inl 3], 0, 0), (8, [.inl 4, .inr 1], 0, 0), (3, [.inr 285, .inl 3, .inl 5], 0, 0), (11, [.inr (-1)], 0, 0), (8, [.inl 1, .inr 4], 18, 0), (10, [.inl 3, .inr 0], 4, 5), (9, [.inr (-1)], 0, 0), (1, [.inr 285, .inl 4], 0, 0),
  (8, [.inl 5, .inr 1], 0, 0), (3, [.inr 285, .inl 4, .inl 6], 0, 0), (11, [.inr (-1)], 0, 0), (12, [.inl 0, .inl 1, .inr (-9), .inr 0, .inr 0], 0, 0)]
def vr_preach_T0 : xT := [(0, [.inl 0], 0, 0), (10, [.inl 4, .inl 5], 3, 1), (11, [.inl 2], 0, 0), (13, [.inl 0, .inl 4], 213, 0), (13, [.inl 6], 199, 0), (8, [.inr 5, .inl 4], 2, 0), (8, [.inl 8, .inl 1], 0, 0), (8, [.inr 5, .inl 4], 2, 0), (8, [.inl 10, .inl 1], 0, 0), (1, [.inr 277, .inl 11], 0, 0), (8, [.inr 9, .inl 12], 1, 0), (3, [.inr 277, .inl 9, .inl 13], 0, 0),
  (13, [.inl 0, .inl 4], 213, 0), (13, [.inl 14], 199, 0), (8, [.inr 5, .inl 4], 2, 0), (8, [.inl 16, .inl 1], 0, 0), (8, [.inr 5, .inl 4], 2, 0), (8, [.inl 18, .inl 1], 0, 0), (1, [.inr 277, .inl 19], 0, 0), (8, [.inr 9, .inl 20], 1, 0), (3, [.inr 277, .inl 17, .inl 21], 0, 0), (10, [.inl 15, .inl 7], 5, 8), (10, [.inl 15, .inl 7], 5, 2), (8, [.inl 4, .inr 1], 0, 0),
  (12, [.inl 0, .inl 1, .inl 2, .inl 3, .inl 22], 0, 0), (10, [.inl 15, .inl 3], 5, 2), (8, [.inl 4, .inr 1], 0, 0), (12, [.inl 0, .inl 1, .inl 2, .inl 3, .inl 22], 0, 0), (8, [.inl 4, .inr 1], 0, 0), (12, [.inl 0, .inl 1, .inl 2, .inl 15, .inl 22], 0, 0), (10, [.inl 15, .inl 3], 5, 8), (10, [.inl 15, .inl 7], 5, 2), (8, [.inl 4, .inr 1], 0, 0), (12, [.inl 0, .inl 1, .inl 2, .inl 3, .inl 22], 0, 0), (10, [.inl 15, .inl 3], 5, 2), (8, [.inl 4, .inr 1], 0, 0),
  (12, [.inl 0, .inl 1, .inl 2, .inl 3, .inl 22], 0, 0), (8, [.inl 4, .inr 1], 0, 0), (12, [.inl 0, .inl 1, .inl 2, .inl 15, .inl 22], 0, 0), (10, [.inl 15, .inl 7], 5, 2), (8, [.inl 4, .inr 1], 0, 0), (12, [.inl 0, .inl 1, .inl 4, .inl 3, .inl 22], 0, 0), (10, [.inl 15, .inl 3], 5, 2), (8, [.inl 4, .inr 1], 0, 0), (12, [.inl 0, .inl 1, .inl 4, .inl 3, .inl 22], 0, 0), (8, [.inl 4, .inr 1], 0, 0), (12, [.inl 0, .inl 1, .inl 4, .inl 15, .inl 22], 0, 0)]
theorem vr_preach_k : x_chk 220 [(26, [(0, 0), (1, 0), (2, 0), (3, 0), (4, 0)])] vr_preach_T [vr_preach_T0] 600 = true := by decide +kernel
theorem vr_preach {a0 a1 v : Int} {h h' : fH} (hs : fS 220 [a0, a1] h v h') (I0 : Int → Int → Int → Int → Int → fH → Prop) (Q : Int → fH → Prop) (h0 : ∀ h1 : fH, h1 = fu h a0 16 0 → ∀ z2 : Int, z2 = xlcmp a1 0 → ((z2 < 0 → ∀ z3 : Int, z3 = wr (-(-1)) → ∀ z4 : Int, z4 = h1 285 z3 → ∀ z5 : Int, z5 = wr (z4 + 1) → ∀ h2 : fH, h2 = fu h1 285 z3 z5 → Q (-1) h2) ∧ (0 ≤ z2 → ∀ z3 : Int, z3 = xlcmp a1 4 → ((0 < z3 → ∀ z4 : Int, z4 = wr (-(-1)) → ∀ z5 : Int, z5 = h1 285 z4 → ∀ z6 : Int, z6 = wr (z5 + 1) → ∀ h2 : fH, h2 = fu h1 285 z4 z6 → Q (-1) h2) ∧ (z3 ≤ 0 → I0 a0 a1 (-9) 0 0 h1))))) (k0 : ∀ (x0 x1 x2 x3 x4 : Int) (h : fH), I0 x0 x1 x2 x3 x4 h → ∀ z5 : Int, z5 = h x0 0 → ((z5 ≤ x4 → Q x2 h) ∧ (x4 < z5 → ∀ (v1 : Int) (h1 : fH), fS 213 [x0, x4] h v1 h1 → ∀ (v2 : Int) (h2 : fH), fS 199 [v1] h1 v2 h2 → ∀ z8 : Int, z8 = wr (5 * x4) → ∀ z9 : Int, z9 = wr (z8 + x1) → ∀ z10 : Int, z10 = wr (5 * x4) → ∀ z11 : Int, z11 = wr (z10 + x1) → ∀ z12 : Int, z12 = h2 277 z11 → ∀ z13 : Int, z13 = wr (9 - z12) → ∀ h3 : fH, h3 = fu h2 277 z9 z13 → ∀ (v4 : Int) (h4 : fH), fS 213 [x0, x4] h3 v4 h4 → ∀ (v5 : Int) (h5 : fH), fS 199 [v4] h4 v5 h5 → ∀ z16 : Int, z16 = wr (5 * x4) → ∀ z17 : Int, z17 = wr (z16 + x1) → ∀ z18 : Int, z18 = wr (5 * x4) → ∀ z19 : Int, z19 = wr (z18 + x1) → ∀ z20 : Int, z20 = h5 277 z19 → ∀ z21 : Int, z21 = wr (9 - z20) → ∀ h6 : fH, h6 = fu h5 277 z17 z21 → ((v5 ≤ v2 → ((v5 ≤ v2 → ∀ z22 : Int, z22 = wr (x4 + 1) → I0 x0 x1 x2 x3 z22 h6) ∧ (v2 < v5 → ((v5 ≤ x3 → ∀ z22 : Int, z22 = wr (x4 + 1) → I0 x0 x1 x2 x3 z22 h6) ∧ (x3 < v5 → ∀ z22 : Int, z22 = wr (x4 + 1) → I0 x0 x1 x2 v5 z22 h6))))) ∧ (v2 < v5 → ((v5 ≤ x3 → ((v5 ≤ v2 → ∀ z22 : Int, z22 = wr (x4 + 1) → I0 x0 x1 x2 x3 z22 h6) ∧ (v2 < v5 → ((v5 ≤ x3 → ∀ z22 : Int, z22 = wr (x4 + 1) → I0 x0 x1 x2 x3 z22 h6) ∧ (x3 < v5 → ∀ z22 : Int, z22 = wr (x4 + 1) → I0 x0 x1 x2 v5 z22 h6))))) ∧ (x3 < v5 → ((v5 ≤ v2 → ∀ z22 : Int, z22 = wr (x4 + 1) → I0 x0 x1 x4 x3 z22 h6) ∧ (v2 < v5 → ((v5 ≤ x3 → ∀ z22 : Int, z22 = wr (x4 + 1) → I0 x0 x1 x4 x3 z22 h6) ∧ (x3 < v5 → ∀ z22 : Int, z22 = wr (x4 + 1) → I0 x0 x1 x4 v5 z22 h6))))))))))) : Q v h' := by
  refine x_mef vr_preach_k hs (fun k l h => match k with
    | 0 => (match l with | [x0, x1, x2, x3, x4] => I0 x0 x1 x2 x3 x4 h | _ => False)
    | _ => False) Q h0 ?_
  intro i Ti hT vals h hi
  match i, hT, hi with
  | 0, hT, hi =>
    cases hT
    match vals, hi with
    | [x0, x1, x2, x3, x4], hi => exact k0 _ _ _ _ _ _ hi
    | [], hi => exact False.elim hi
    | [_], hi => exact False.elim hi
    | [_, _], hi => exact False.elim hi
    | [_, _, _], hi => exact False.elim hi
    | [_, _, _, _], hi => exact False.elim hi
    | _ :: _ :: _ :: _ :: _ :: _ :: _, hi => exact False.elim hi
  | _ + 1, hT, _ => cases hT
def vr_fair_T : xT := [(2, [.inl 0, .inr 0], 16, 0), (8, [.inl 1, .inr 0], 18, 0), (10, [.inl 2, .inr 0], 2, 5), (9, [.inr (-2)], 0, 0), (1, [.inr 285, .inl 3], 0, 0), (8, [.inl 4, .inr 1], 0, 0), (3, [.inr 285, .inl 3, .inl 5], 0, 0), (11, [.inr (-2)], 0, 0), (8, [.inl 1, .inr 1], 18, 0), (10, [.inl 3, .inr 0], 4, 5), (9, [.inr (-2)], 0, 0), (1, [.inr 285, .inl 4], 0, 0),
  (8, [.inl 5, .inr 1], 0, 0), (3, [.inr 285, .inl 4, .inl 6], 0, 0), (11, [.inr (-2)], 0, 0), (12, [.inl 0, .inl 1, .inr 0, .inr 0, .inr 0], 0, 0)]
def vr_fair_T0 : xT := [(0, [.inl 0], 9, 0), (10, [.inl 4, .inl 5], 3, 3), (10, [.inl 1, .inr 0], 1, 1), (11, [.inl 3], 0, 0), (11, [.inl 2], 0, 0), (1, [.inr 282, .inl 4], 0, 0), (1, [.inr 280, .inl 4], 0, 0), (1, [.inr 283, .inl 4], 0, 0), (13, [.inl 0, .inl 7, .inl 6, .inl 8], 168, 0), (1, [.inr 281, .inl 4], 0, 0), (1, [.inr 283, .inl 4], 0, 0), (13, [.inl 0, .inl 10, .inl 6, .inl 11], 168, 0),
  (10, [.inl 9, .inl 12], 1, 14), (8, [.inl 2, .inr 0], 4, 0), (1, [.inr 283, .inl 4], 0, 0), (0, [.inl 0], 15, 0), (1, [.inr 284, .inl 4], 0, 0), (8, [.inl 15, .inl 16], 0, 0), (13, [.inl 0, .inl 6, .inl 14, .inl 17], 210, 0), (10, [.inl 18, .inr 0], 0, 3), (8, [.inl 3, .inr 0], 4, 0), (8, [.inl 4, .inr 1], 0, 0), (12, [.inl 0, .inl 1, .inl 13, .inl 19, .inl 20], 0, 0), (8, [.inr 1, .inl 4], 6, 0),
  (8, [.inl 3, .inl 19], 4, 0), (8, [.inl 4, .inr 1], 0, 0), (12, [.inl 0, .inl 1, .inl 13, .inl 20, .inl 21], 0, 0), (8, [.inr 1, .inl 4], 6, 0), (8, [.inl 2, .inl 13], 4, 0), (1, [.inr 283, .inl 4], 0, 0), (0, [.inl 0], 15, 0), (1, [.inr 284, .inl 4], 0, 0), (8, [.inl 16, .inl 17], 0, 0), (13, [.inl 0, .inl 6, .inl 15, .inl 18], 210, 0), (10, [.inl 19, .inr 0], 0, 3), (8, [.inl 3, .inr 0], 4, 0),
  (8, [.inl 4, .inr 1], 0, 0), (12, [.inl 0, .inl 1, .inl 14, .inl 20, .inl 21], 0, 0), (8, [.inr 1, .inl 4], 6, 0), (8, [.inl 3, .inl 20], 4, 0), (8, [.inl 4, .inr 1], 0, 0), (12, [.inl 0, .inl 1, .inl 14, .inl 21, .inl 22], 0, 0)]
theorem vr_fair_k : x_chk 221 [(29, [(0, 0), (1, 0), (2, 0), (3, 0), (4, 0)])] vr_fair_T [vr_fair_T0] 600 = true := by decide +kernel
theorem vr_fair {a0 a1 v : Int} {h h' : fH} (hs : fS 221 [a0, a1] h v h') (I0 : Int → Int → Int → Int → Int → fH → Prop) (Q : Int → fH → Prop) (h0 : ∀ h1 : fH, h1 = fu h a0 16 0 → ∀ z2 : Int, z2 = xlcmp a1 0 → ((z2 < 0 → ∀ z3 : Int, z3 = wr (-(-2)) → ∀ z4 : Int, z4 = h1 285 z3 → ∀ z5 : Int, z5 = wr (z4 + 1) → ∀ h2 : fH, h2 = fu h1 285 z3 z5 → Q (-2) h2) ∧ (0 ≤ z2 → ∀ z3 : Int, z3 = xlcmp a1 1 → ((0 < z3 → ∀ z4 : Int, z4 = wr (-(-2)) → ∀ z5 : Int, z5 = h1 285 z4 → ∀ z6 : Int, z6 = wr (z5 + 1) → ∀ h2 : fH, h2 = fu h1 285 z4 z6 → Q (-2) h2) ∧ (z3 ≤ 0 → I0 a0 a1 0 0 0 h1))))) (k0 : ∀ (x0 x1 x2 x3 x4 : Int) (h : fH), I0 x0 x1 x2 x3 x4 h → ∀ z5 : Int, z5 = h x0 9 → ((z5 ≤ x4 → ((x1 ≠ 0 → Q x3 h) ∧ (x1 = 0 → Q x2 h))) ∧ (x4 < z5 → ∀ z6 : Int, z6 = h 282 x4 → ∀ z7 : Int, z7 = h 280 x4 → ∀ z8 : Int, z8 = h 283 x4 → ∀ (v1 : Int) (h1 : fH), fS 168 [x0, z7, z6, z8] h v1 h1 → ∀ z10 : Int, z10 = h1 281 x4 → ∀ z11 : Int, z11 = h1 283 x4 → ∀ (v2 : Int) (h2 : fH), fS 168 [x0, z10, z6, z11] h1 v2 h2 → ((v1 ≠ v2 → ∀ z13 : Int, z13 = xor' x2 0 → ∀ z14 : Int, z14 = h2 283 x4 → ∀ z15 : Int, z15 = h2 x0 15 → ∀ z16 : Int, z16 = h2 284 x4 → ∀ z17 : Int, z17 = wr (z15 + z16) → ∀ (v3 : Int) (h3 : fH), fS 210 [x0, z6, z14, z17] h2 v3 h3 → ((v3 = 0 → ∀ z19 : Int, z19 = xor' x3 0 → ∀ z20 : Int, z20 = wr (x4 + 1) → I0 x0 x1 z13 z19 z20 h3) ∧ (v3 ≠ 0 → ∀ z19 : Int, z19 = xshl 1 x4 → ∀ z20 : Int, z20 = xor' x3 z19 → ∀ z21 : Int, z21 = wr (x4 + 1) → I0 x0 x1 z13 z20 z21 h3))) ∧ (v1 = v2 → ∀ z13 : Int, z13 = xshl 1 x4 → ∀ z14 : Int, z14 = xor' x2 z13 → ∀ z15 : Int, z15 = h2 283 x4 → ∀ z16 : Int, z16 = h2 x0 15 → ∀ z17 : Int, z17 = h2 284 x4 → ∀ z18 : Int, z18 = wr (z16 + z17) → ∀ (v3 : Int) (h3 : fH), fS 210 [x0, z6, z15, z18] h2 v3 h3 → ((v3 = 0 → ∀ z20 : Int, z20 = xor' x3 0 → ∀ z21 : Int, z21 = wr (x4 + 1) → I0 x0 x1 z14 z20 z21 h3) ∧ (v3 ≠ 0 → ∀ z20 : Int, z20 = xshl 1 x4 → ∀ z21 : Int, z21 = xor' x3 z20 → ∀ z22 : Int, z22 = wr (x4 + 1) → I0 x0 x1 z14 z21 z22 h3))))))) : Q v h' := by
  refine x_mef vr_fair_k hs (fun k l h => match k with
    | 0 => (match l with | [x0, x1, x2, x3, x4] => I0 x0 x1 x2 x3 x4 h | _ => False)
    | _ => False) Q h0 ?_
  intro i Ti hT vals h hi
  match i, hT, hi with
  | 0, hT, hi =>
    cases hT
    match vals, hi with
    | [x0, x1, x2, x3, x4], hi => exact k0 _ _ _ _ _ _ hi
    | [], hi => exact False.elim hi
    | [_], hi => exact False.elim hi
    | [_, _], hi => exact False.elim hi
    | [_, _, _], hi => exact False.elim hi
    | [_, _, _, _], hi => exact False.elim hi
    | _ :: _ :: _ :: _ :: _ :: _ :: _, hi => exact False.elim hi
  | _ + 1, hT, _ => cases hT
def vr_hedge_T : xT := [(2, [.inl 0, .inr 0], 16, 0), (10, [.inl 1, .inr 0], 2, 5), (9, [.inr (-4)], 0, 0), (1, [.inr 285, .inl 3], 0, 0), (8, [.inl 4, .inr 1], 0, 0), (3, [.inr 285, .inl 3, .inl 5], 0, 0), (11, [.inr (-4)], 0, 0), (10, [.inl 2, .inr 0], 3, 14), (10, [.inl 1, .inr 99], 4, 5), (9, [.inr (-6)], 0, 0), (1, [.inr 285, .inl 3], 0, 0), (8, [.inl 4, .inr 1], 0, 0),
  (3, [.inr 285, .inl 3, .inl 5], 0, 0), (11, [.inr (-6)], 0, 0), (10, [.inl 2, .inr 30], 5, 2), (13, [.inl 0, .inr 290, .inr 1], 159, 0), (12, [.inl 0, .inl 1, .inl 2, .inr (-9), .inr 9, .inr 0], 0, 0), (9, [.inr (-6)], 0, 0), (1, [.inr 285, .inl 3], 0, 0), (8, [.inl 4, .inr 1], 0, 0), (3, [.inr 285, .inl 3, .inl 5], 0, 0), (11, [.inr (-6)], 0, 0), (9, [.inr (-4)], 0, 0), (1, [.inr 285, .inl 3], 0, 0),
  (8, [.inl 4, .inr 1], 0, 0), (3, [.inr 285, .inl 3, .inl 5], 0, 0), (11, [.inr (-4)], 0, 0)]
def vr_hedge_T0 : xT := [(0, [.inl 0], 9, 0), (8, [.inr 1, .inl 6], 6, 0), (10, [.inl 5, .inl 7], 3, 1), (11, [.inl 3], 0, 0), (13, [.inl 5], 199, 0), (10, [.inl 8, .inl 4], 3, 2), (8, [.inl 5, .inr 1], 0, 0), (12, [.inl 0, .inl 1, .inl 2, .inl 3, .inl 4, .inl 9], 0, 0), (13, [.inl 0, .inl 5, .inl 2], 223, 0), (10, [.inl 9, .inl 1], 4, 2), (8, [.inl 5, .inr 1], 0, 0), (12, [.inl 0, .inl 1, .inl 2, .inl 3, .inl 4, .inl 10], 0, 0),
  (13, [.inl 5], 199, 0), (8, [.inl 5, .inr 1], 0, 0), (12, [.inl 0, .inl 1, .inl 2, .inl 5, .inl 10, .inl 11], 0, 0)]
theorem vr_hedge_k : x_chk 222 [(62, [(0, 0), (1, 0), (2, 0), (4, 0), (5, 0), (6, 0)])] vr_hedge_T [vr_hedge_T0] 600 = true := by decide +kernel
theorem vr_hedge {a0 a1 a2 v : Int} {h h' : fH} (hs : fS 222 [a0, a1, a2] h v h') (I0 : Int → Int → Int → Int → Int → Int → fH → Prop) (Q : Int → fH → Prop) (h0 : ∀ h1 : fH, h1 = fu h a0 16 0 → ((a1 < 0 → ∀ z3 : Int, z3 = wr (-(-4)) → ∀ z4 : Int, z4 = h1 285 z3 → ∀ z5 : Int, z5 = wr (z4 + 1) → ∀ h2 : fH, h2 = fu h1 285 z3 z5 → Q (-4) h2) ∧ (0 ≤ a1 → ((0 ≤ a2 → ((99 < a1 → ∀ z3 : Int, z3 = wr (-(-6)) → ∀ z4 : Int, z4 = h1 285 z3 → ∀ z5 : Int, z5 = wr (z4 + 1) → ∀ h2 : fH, h2 = fu h1 285 z3 z5 → Q (-6) h2) ∧ (a1 ≤ 99 → ((a2 ≤ 30 → ∀ (v2 : Int) (h2 : fH), fS 159 [a0, 290, 1] h1 v2 h2 → I0 a0 a1 a2 (-9) 9 0 h2) ∧ (30 < a2 → ∀ z3 : Int, z3 = wr (-(-6)) → ∀ z4 : Int, z4 = h1 285 z3 → ∀ z5 : Int, z5 = wr (z4 + 1) → ∀ h2 : fH, h2 = fu h1 285 z3 z5 → Q (-6) h2))))) ∧ (a2 < 0 → ∀ z3 : Int, z3 = wr (-(-4)) → ∀ z4 : Int, z4 = h1 285 z3 → ∀ z5 : Int, z5 = wr (z4 + 1) → ∀ h2 : fH, h2 = fu h1 285 z3 z5 → Q (-4) h2))))) (k0 : ∀ (x0 x1 x2 x4 x5 x6 : Int) (h : fH), I0 x0 x1 x2 x4 x5 x6 h → ∀ z6 : Int, z6 = h x0 9 → ∀ z7 : Int, z7 = xshl 1 z6 → ((z7 ≤ x6 → Q x4 h) ∧ (x6 < z7 → ∀ (v1 : Int) (h1 : fH), fS 199 [x6] h v1 h1 → ((x5 ≤ v1 → ∀ z9 : Int, z9 = wr (x6 + 1) → I0 x0 x1 x2 x4 x5 z9 h1) ∧ (v1 < x5 → ∀ (v2 : Int) (h2 : fH), fS 223 [x0, x6, x2] h1 v2 h2 → ((x1 < v2 → ∀ z10 : Int, z10 = wr (x6 + 1) → I0 x0 x1 x2 x4 x5 z10 h2) ∧ (v2 ≤ x1 → ∀ (v3 : Int) (h3 : fH), fS 199 [x6] h2 v3 h3 → ∀ z11 : Int, z11 = wr (x6 + 1) → I0 x0 x1 x2 x6 v3 z11 h3))))))) : Q v h' := by
  refine x_mef vr_hedge_k hs (fun k l h => match k with
    | 0 => (match l with | [x0, x1, x2, x4, x5, x6] => I0 x0 x1 x2 x4 x5 x6 h | _ => False)
    | _ => False) Q h0 ?_
  intro i Ti hT vals h hi
  match i, hT, hi with
  | 0, hT, hi =>
    cases hT
    match vals, hi with
    | [x0, x1, x2, x4, x5, x6], hi => exact k0 _ _ _ _ _ _ _ hi
    | [], hi => exact False.elim hi
    | [_], hi => exact False.elim hi
    | [_, _], hi => exact False.elim hi
    | [_, _, _], hi => exact False.elim hi
    | [_, _, _, _], hi => exact False.elim hi
    | [_, _, _, _, _], hi => exact False.elim hi
    | _ :: _ :: _ :: _ :: _ :: _ :: _ :: _, hi => exact False.elim hi
  | _ + 1, hT, _ => cases hT
def vr_tearsWithout_T : xT := [(0, [.inl 0], 9, 0), (8, [.inl 3, .inr 1], 1, 0), (12, [.inl 0, .inl 1, .inl 2, .inl 4], 0, 0)]
def vr_tearsWithout_T0 : xT := [(10, [.inl 3, .inr 0], 2, 4), (13, [.inl 0, .inl 2], 172, 0), (13, [.inl 0], 224, 0), (13, [.inl 0, .inr 290, .inr 0], 159, 0), (11, [.inl 5], 0, 0), (8, [.inl 1, .inl 3], 7, 0), (8, [.inl 4, .inr 1], 3, 0), (10, [.inl 5, .inr 1], 1, 2), (8, [.inl 3, .inr (-1)], 0, 0), (12, [.inl 0, .inl 1, .inl 2, .inl 6], 0, 0), (13, [.inl 0, .inl 3], 178, 0), (8, [.inl 3, .inr (-1)], 0, 0),
  (12, [.inl 0, .inl 1, .inl 2, .inl 7], 0, 0)]
theorem vr_tearsWithout_k : x_chk 223 [(7, [(0, 0), (1, 0), (2, 0), (3, 0)])] vr_tearsWithout_T [vr_tearsWithout_T0] 600 = true := by decide +kernel
theorem vr_tearsWithout {a0 a1 a2 v : Int} {h h' : fH} (hs : fS 223 [a0, a1, a2] h v h') (I0 : Int → Int → Int → Int → fH → Prop) (Q : Int → fH → Prop) (h0 : ∀ z3 : Int, z3 = h a0 9 → ∀ z4 : Int, z4 = wr (z3 - 1) → I0 a0 a1 a2 z4 h) (k0 : ∀ (x0 x1 x2 x3 : Int) (h : fH), I0 x0 x1 x2 x3 h → ((x3 < 0 → ∀ (v1 : Int) (h1 : fH), fS 172 [x0, x2] h v1 h1 → ∀ (v2 : Int) (h2 : fH), fS 224 [x0] h1 v2 h2 → ∀ (v3 : Int) (h3 : fH), fS 159 [x0, 290, 0] h2 v3 h3 → Q v2 h3) ∧ (0 ≤ x3 → ∀ z4 : Int, z4 = xshr x1 x3 → ∀ z5 : Int, z5 = xand z4 1 → ((z5 ≠ 1 → ∀ z6 : Int, z6 = wr (x3 + (-1)) → I0 x0 x1 x2 z6 h) ∧ (z5 = 1 → ∀ (v1 : Int) (h1 : fH), fS 178 [x0, x3] h v1 h1 → ∀ z7 : Int, z7 = wr (x3 + (-1)) → I0 x0 x1 x2 z7 h1))))) : Q v h' := by
  refine x_mef vr_tearsWithout_k hs (fun k l h => match k with
    | 0 => (match l with | [x0, x1, x2, x3] => I0 x0 x1 x2 x3 h | _ => False)
    | _ => False) Q h0 ?_
  intro i Ti hT vals h hi
  match i, hT, hi with
  | 0, hT, hi =>
    cases hT
    match vals, hi with
    | [x0, x1, x2, x3], hi => exact k0 _ _ _ _ _ hi
    | [], hi => exact False.elim hi
    | [_], hi => exact False.elim hi
    | [_, _], hi => exact False.elim hi
    | [_, _, _], hi => exact False.elim hi
    | _ :: _ :: _ :: _ :: _ :: _, hi => exact False.elim hi
  | _ + 1, hT, _ => cases hT
def vr_allTears_T : xT := [(12, [.inl 0, .inr 0, .inr 0], 0, 0)]
def vr_allTears_T0 : xT := [(0, [.inl 0], 0, 0), (10, [.inl 2, .inl 3], 3, 1), (11, [.inl 1], 0, 0), (1, [.inr 275, .inl 2], 0, 0), (8, [.inl 1, .inl 4], 0, 0), (8, [.inl 2, .inr 1], 0, 0), (12, [.inl 0, .inl 5, .inl 6], 0, 0)]
theorem vr_allTears_k : x_chk 224 [(4, [(0, 0), (1, 0), (2, 0)])] vr_allTears_T [vr_allTears_T0] 600 = true := by decide +kernel
theorem vr_allTears {a0 v : Int} {h h' : fH} (hs : fS 224 [a0] h v h') (I0 : Int → Int → Int → fH → Prop) (Q : Int → fH → Prop) (h0 : I0 a0 0 0 h) (k0 : ∀ (x0 x1 x2 : Int) (h : fH), I0 x0 x1 x2 h → ∀ z3 : Int, z3 = h x0 0 → ((z3 ≤ x2 → Q x1 h) ∧ (x2 < z3 → ∀ z4 : Int, z4 = h 275 x2 → ∀ z5 : Int, z5 = wr (x1 + z4) → ∀ z6 : Int, z6 = wr (x2 + 1) → I0 x0 z5 z6 h))) : Q v h' := by
  refine x_mef vr_allTears_k hs (fun k l h => match k with
    | 0 => (match l with | [x0, x1, x2] => I0 x0 x1 x2 h | _ => False)
    | _ => False) Q h0 ?_
  intro i Ti hT vals h hi
  match i, hT, hi with
  | 0, hT, hi =>
    cases hT
    match vals, hi with
    | [x0, x1, x2], hi => exact k0 _ _ _ _ hi
    | [], hi => exact False.elim hi
    | [_], hi => exact False.elim hi
    | [_, _], hi => exact False.elim hi
    | _ :: _ :: _ :: _ :: _, hi => exact False.elim hi
  | _ + 1, hT, _ => cases hT
def vr_uponWhat_T : xT := [(2, [.inl 0, .inr 0], 16, 0), (0, [.inl 0], 0, 0), (8, [.inl 3, .inr 1], 1, 0), (8, [.inl 1, .inr 0], 18, 0), (10, [.inl 5, .inr 0], 2, 5), (9, [.inr (-1)], 0, 0), (1, [.inr 285, .inl 6], 0, 0), (8, [.inl 7, .inr 1], 0, 0), (3, [.inr 285, .inl 6, .inl 8], 0, 0), (11, [.inr (-1)], 0, 0), (8, [.inl 1, .inl 4], 18, 0), (10, [.inl 6, .inr 0], 4, 5),
  (9, [.inr (-1)], 0, 0), (1, [.inr 285, .inl 7], 0, 0), (8, [.inl 8, .inr 1], 0, 0), (3, [.inr 285, .inl 7, .inl 9], 0, 0), (11, [.inr (-1)], 0, 0), (8, [.inl 2, .inr 0], 18, 0), (10, [.inl 7, .inr 0], 2, 5), (9, [.inr (-2)], 0, 0), (1, [.inr 285, .inl 8], 0, 0), (8, [.inl 9, .inr 1], 0, 0), (3, [.inr 285, .inl 8, .inl 10], 0, 0), (11, [.inr (-2)], 0, 0),
  (8, [.inl 2, .inr 1], 18, 0), (10, [.inl 8, .inr 0], 4, 5), (9, [.inr (-2)], 0, 0), (1, [.inr 285, .inl 9], 0, 0), (8, [.inl 10, .inr 1], 0, 0), (3, [.inr 285, .inl 9, .inl 11], 0, 0), (11, [.inr (-2)], 0, 0), (13, [.inl 0, .inl 1], 226, 0), (10, [.inl 9, .inr 0], 3, 2), (13, [.inl 0, .inr 290, .inr 1], 159, 0), (12, [.inl 0, .inl 1, .inl 2, .inl 9, .inr 0, .inr 0], 0, 0), (11, [.inr (-9)], 0, 0)]
def vr_uponWhat_T0 : xT := [(10, [.inl 2, .inr 0], 1, 50), (10, [.inl 5, .inr 2], 3, 1), (11, [.inl 4], 0, 0), (10, [.inl 2, .inr 0], 1, 24), (1, [.inr 282, .inl 3], 0, 0), (3, [.inr 282, .inl 3, .inl 6], 0, 0), (10, [.inl 2, .inr 1], 1, 11), (1, [.inr 283, .inl 3], 0, 0), (3, [.inr 283, .inl 3, .inl 7], 0, 0), (13, [.inl 0, .inl 1], 227, 0), (10, [.inl 8, .inr 0], 0, 3), (8, [.inl 4, .inr 0], 4, 0),
  (8, [.inl 5, .inr 1], 0, 0), (12, [.inl 0, .inl 1, .inl 2, .inl 3, .inl 9, .inl 10], 0, 0), (8, [.inr 1, .inl 5], 6, 0), (8, [.inl 4, .inl 9], 4, 0), (8, [.inl 5, .inr 1], 0, 0), (12, [.inl 0, .inl 1, .inl 2, .inl 3, .inl 10, .inl 11], 0, 0), (3, [.inr 283, .inl 3, .inl 5], 0, 0), (13, [.inl 0, .inl 1], 227, 0), (10, [.inl 7, .inr 0], 0, 3), (8, [.inl 4, .inr 0], 4, 0), (8, [.inl 5, .inr 1], 0, 0), (12, [.inl 0, .inl 1, .inl 2, .inl 3, .inl 8, .inl 9], 0, 0),
  (8, [.inr 1, .inl 5], 6, 0), (8, [.inl 4, .inl 8], 4, 0), (8, [.inl 5, .inr 1], 0, 0), (12, [.inl 0, .inl 1, .inl 2, .inl 3, .inl 9, .inl 10], 0, 0), (3, [.inr 282, .inl 3, .inl 5], 0, 0), (10, [.inl 2, .inr 1], 1, 11), (1, [.inr 283, .inl 3], 0, 0), (3, [.inr 283, .inl 3, .inl 6], 0, 0), (13, [.inl 0, .inl 1], 227, 0), (10, [.inl 7, .inr 0], 0, 3), (8, [.inl 4, .inr 0], 4, 0), (8, [.inl 5, .inr 1], 0, 0),
  (12, [.inl 0, .inl 1, .inl 2, .inl 3, .inl 8, .inl 9], 0, 0), (8, [.inr 1, .inl 5], 6, 0), (8, [.inl 4, .inl 8], 4, 0), (8, [.inl 5, .inr 1], 0, 0), (12, [.inl 0, .inl 1, .inl 2, .inl 3, .inl 9, .inl 10], 0, 0), (3, [.inr 283, .inl 3, .inl 5], 0, 0), (13, [.inl 0, .inl 1], 227, 0), (10, [.inl 6, .inr 0], 0, 3), (8, [.inl 4, .inr 0], 4, 0), (8, [.inl 5, .inr 1], 0, 0), (12, [.inl 0, .inl 1, .inl 2, .inl 3, .inl 7, .inl 8], 0, 0), (8, [.inr 1, .inl 5], 6, 0),
  (8, [.inl 4, .inl 7], 4, 0), (8, [.inl 5, .inr 1], 0, 0), (12, [.inl 0, .inl 1, .inl 2, .inl 3, .inl 8, .inl 9], 0, 0), (10, [.inl 5, .inr 5], 3, 1), (11, [.inl 4], 0, 0), (10, [.inl 2, .inr 0], 1, 24), (1, [.inr 282, .inl 3], 0, 0), (3, [.inr 282, .inl 3, .inl 6], 0, 0), (10, [.inl 2, .inr 1], 1, 11), (1, [.inr 283, .inl 3], 0, 0), (3, [.inr 283, .inl 3, .inl 7], 0, 0), (13, [.inl 0, .inl 1], 227, 0),
  (10, [.inl 8, .inr 0], 0, 3), (8, [.inl 4, .inr 0], 4, 0), (8, [.inl 5, .inr 1], 0, 0), (12, [.inl 0, .inl 1, .inl 2, .inl 3, .inl 9, .inl 10], 0, 0), (8, [.inr 1, .inl 5], 6, 0), (8, [.inl 4, .inl 9], 4, 0), (8, [.inl 5, .inr 1], 0, 0), (12, [.inl 0, .inl 1, .inl 2, .inl 3, .inl 10, .inl 11], 0, 0), (3, [.inr 283, .inl 3, .inl 5], 0, 0), (13, [.inl 0, .inl 1], 227, 0), (10, [.inl 7, .inr 0], 0, 3), (8, [.inl 4, .inr 0], 4, 0),
  (8, [.inl 5, .inr 1], 0, 0), (12, [.inl 0, .inl 1, .inl 2, .inl 3, .inl 8, .inl 9], 0, 0), (8, [.inr 1, .inl 5], 6, 0), (8, [.inl 4, .inl 8], 4, 0), (8, [.inl 5, .inr 1], 0, 0), (12, [.inl 0, .inl 1, .inl 2, .inl 3, .inl 9, .inl 10], 0, 0), (3, [.inr 282, .inl 3, .inl 5], 0, 0), (10, [.inl 2, .inr 1], 1, 11), (1, [.inr 283, .inl 3], 0, 0), (3, [.inr 283, .inl 3, .inl 6], 0, 0), (13, [.inl 0, .inl 1], 227, 0), (10, [.inl 7, .inr 0], 0, 3),
  (8, [.inl 4, .inr 0], 4, 0), (8, [.inl 5, .inr 1], 0, 0), (12, [.inl 0, .inl 1, .inl 2, .inl 3, .inl 8, .inl 9], 0, 0), (8, [.inr 1, .inl 5], 6, 0), (8, [.inl 4, .inl 8], 4, 0), (8, [.inl 5, .inr 1], 0, 0), (12, [.inl 0, .inl 1, .inl 2, .inl 3, .inl 9, .inl 10], 0, 0), (3, [.inr 283, .inl 3, .inl 5], 0, 0), (13, [.inl 0, .inl 1], 227, 0), (10, [.inl 6, .inr 0], 0, 3), (8, [.inl 4, .inr 0], 4, 0), (8, [.inl 5, .inr 1], 0, 0),
  (12, [.inl 0, .inl 1, .inl 2, .inl 3, .inl 7, .inl 8], 0, 0), (8, [.inr 1, .inl 5], 6, 0), (8, [.inl 4, .inl 7], 4, 0), (8, [.inl 5, .inr 1], 0, 0), (12, [.inl 0, .inl 1, .inl 2, .inl 3, .inl 8, .inl 9], 0, 0)]
theorem vr_uponWhat_k : x_chk 225 [(59, [(0, 0), (1, 0), (2, 0), (4, 0), (5, 0), (6, 0)])] vr_uponWhat_T [vr_uponWhat_T0] 600 = true := by decide +kernel
theorem vr_uponWhat {a0 a1 a2 v : Int} {h h' : fH} (hs : fS 225 [a0, a1, a2] h v h') (I0 : Int → Int → Int → Int → Int → Int → fH → Prop) (Q : Int → fH → Prop) (h0 : ∀ h1 : fH, h1 = fu h a0 16 0 → ∀ z3 : Int, z3 = h1 a0 0 → ∀ z4 : Int, z4 = wr (z3 - 1) → ∀ z5 : Int, z5 = xlcmp a1 0 → ((z5 < 0 → ∀ z6 : Int, z6 = wr (-(-1)) → ∀ z7 : Int, z7 = h1 285 z6 → ∀ z8 : Int, z8 = wr (z7 + 1) → ∀ h2 : fH, h2 = fu h1 285 z6 z8 → Q (-1) h2) ∧ (0 ≤ z5 → ∀ z6 : Int, z6 = xlcmp a1 z4 → ((0 < z6 → ∀ z7 : Int, z7 = wr (-(-1)) → ∀ z8 : Int, z8 = h1 285 z7 → ∀ z9 : Int, z9 = wr (z8 + 1) → ∀ h2 : fH, h2 = fu h1 285 z7 z9 → Q (-1) h2) ∧ (z6 ≤ 0 → ∀ z7 : Int, z7 = xlcmp a2 0 → ((z7 < 0 → ∀ z8 : Int, z8 = wr (-(-2)) → ∀ z9 : Int, z9 = h1 285 z8 → ∀ z10 : Int, z10 = wr (z9 + 1) → ∀ h2 : fH, h2 = fu h1 285 z8 z10 → Q (-2) h2) ∧ (0 ≤ z7 → ∀ z8 : Int, z8 = xlcmp a2 1 → ((0 < z8 → ∀ z9 : Int, z9 = wr (-(-2)) → ∀ z10 : Int, z10 = h1 285 z9 → ∀ z11 : Int, z11 = wr (z10 + 1) → ∀ h2 : fH, h2 = fu h1 285 z9 z11 → Q (-2) h2) ∧ (z8 ≤ 0 → ∀ (v2 : Int) (h2 : fH), fS 226 [a0, a1] h1 v2 h2 → ((0 ≤ v2 → ∀ (v3 : Int) (h3 : fH), fS 159 [a0, 290, 1] h2 v3 h3 → I0 a0 a1 a2 v2 0 0 h3) ∧ (v2 < 0 → Q (-9) h2))))))))))) (k0 : ∀ (x0 x1 x2 x4 x5 x6 : Int) (h : fH), I0 x0 x1 x2 x4 x5 x6 h → ((x2 ≠ 0 → ((2 ≤ x6 → Q x5 h) ∧ (x6 < 2 → ((x2 ≠ 0 → ∀ z6 : Int, z6 = h 282 x4 → ∀ h1 : fH, h1 = fu h 282 x4 z6 → ((x2 ≠ 1 → ∀ z7 : Int, z7 = h1 283 x4 → ∀ h2 : fH, h2 = fu h1 283 x4 z7 → ∀ (v3 : Int) (h3 : fH), fS 227 [x0, x1] h2 v3 h3 → ((v3 = 0 → ∀ z9 : Int, z9 = xor' x5 0 → ∀ z10 : Int, z10 = wr (x6 + 1) → I0 x0 x1 x2 x4 z9 z10 h3) ∧ (v3 ≠ 0 → ∀ z9 : Int, z9 = xshl 1 x6 → ∀ z10 : Int, z10 = xor' x5 z9 → ∀ z11 : Int, z11 = wr (x6 + 1) → I0 x0 x1 x2 x4 z10 z11 h3))) ∧ (x2 = 1 → ∀ h2 : fH, h2 = fu h1 283 x4 x6 → ∀ (v3 : Int) (h3 : fH), fS 227 [x0, x1] h2 v3 h3 → ((v3 = 0 → ∀ z8 : Int, z8 = xor' x5 0 → ∀ z9 : Int, z9 = wr (x6 + 1) → I0 x0 x1 x2 x4 z8 z9 h3) ∧ (v3 ≠ 0 → ∀ z8 : Int, z8 = xshl 1 x6 → ∀ z9 : Int, z9 = xor' x5 z8 → ∀ z10 : Int, z10 = wr (x6 + 1) → I0 x0 x1 x2 x4 z9 z10 h3))))) ∧ (x2 = 0 → ∀ h1 : fH, h1 = fu h 282 x4 x6 → ((x2 ≠ 1 → ∀ z6 : Int, z6 = h1 283 x4 → ∀ h2 : fH, h2 = fu h1 283 x4 z6 → ∀ (v3 : Int) (h3 : fH), fS 227 [x0, x1] h2 v3 h3 → ((v3 = 0 → ∀ z8 : Int, z8 = xor' x5 0 → ∀ z9 : Int, z9 = wr (x6 + 1) → I0 x0 x1 x2 x4 z8 z9 h3) ∧ (v3 ≠ 0 → ∀ z8 : Int, z8 = xshl 1 x6 → ∀ z9 : Int, z9 = xor' x5 z8 → ∀ z10 : Int, z10 = wr (x6 + 1) → I0 x0 x1 x2 x4 z9 z10 h3))) ∧ (x2 = 1 → ∀ h2 : fH, h2 = fu h1 283 x4 x6 → ∀ (v3 : Int) (h3 : fH), fS 227 [x0, x1] h2 v3 h3 → ((v3 = 0 → ∀ z7 : Int, z7 = xor' x5 0 → ∀ z8 : Int, z8 = wr (x6 + 1) → I0 x0 x1 x2 x4 z7 z8 h3) ∧ (v3 ≠ 0 → ∀ z7 : Int, z7 = xshl 1 x6 → ∀ z8 : Int, z8 = xor' x5 z7 → ∀ z9 : Int, z9 = wr (x6 + 1) → I0 x0 x1 x2 x4 z8 z9 h3))))))))) ∧ (x2 = 0 → ((5 ≤ x6 → Q x5 h) ∧ (x6 < 5 → ((x2 ≠ 0 → ∀ z6 : Int, z6 = h 282 x4 → ∀ h1 : fH, h1 = fu h 282 x4 z6 → ((x2 ≠ 1 → ∀ z7 : Int, z7 = h1 283 x4 → ∀ h2 : fH, h2 = fu h1 283 x4 z7 → ∀ (v3 : Int) (h3 : fH), fS 227 [x0, x1] h2 v3 h3 → ((v3 = 0 → ∀ z9 : Int, z9 = xor' x5 0 → ∀ z10 : Int, z10 = wr (x6 + 1) → I0 x0 x1 x2 x4 z9 z10 h3) ∧ (v3 ≠ 0 → ∀ z9 : Int, z9 = xshl 1 x6 → ∀ z10 : Int, z10 = xor' x5 z9 → ∀ z11 : Int, z11 = wr (x6 + 1) → I0 x0 x1 x2 x4 z10 z11 h3))) ∧ (x2 = 1 → ∀ h2 : fH, h2 = fu h1 283 x4 x6 → ∀ (v3 : Int) (h3 : fH), fS 227 [x0, x1] h2 v3 h3 → ((v3 = 0 → ∀ z8 : Int, z8 = xor' x5 0 → ∀ z9 : Int, z9 = wr (x6 + 1) → I0 x0 x1 x2 x4 z8 z9 h3) ∧ (v3 ≠ 0 → ∀ z8 : Int, z8 = xshl 1 x6 → ∀ z9 : Int, z9 = xor' x5 z8 → ∀ z10 : Int, z10 = wr (x6 + 1) → I0 x0 x1 x2 x4 z9 z10 h3))))) ∧ (x2 = 0 → ∀ h1 : fH, h1 = fu h 282 x4 x6 → ((x2 ≠ 1 → ∀ z6 : Int, z6 = h1 283 x4 → ∀ h2 : fH, h2 = fu h1 283 x4 z6 → ∀ (v3 : Int) (h3 : fH), fS 227 [x0, x1] h2 v3 h3 → ((v3 = 0 → ∀ z8 : Int, z8 = xor' x5 0 → ∀ z9 : Int, z9 = wr (x6 + 1) → I0 x0 x1 x2 x4 z8 z9 h3) ∧ (v3 ≠ 0 → ∀ z8 : Int, z8 = xshl 1 x6 → ∀ z9 : Int, z9 = xor' x5 z8 → ∀ z10 : Int, z10 = wr (x6 + 1) → I0 x0 x1 x2 x4 z9 z10 h3))) ∧ (x2 = 1 → ∀ h2 : fH, h2 = fu h1 283 x4 x6 → ∀ (v3 : Int) (h3 : fH), fS 227 [x0, x1] h2 v3 h3 → ((v3 = 0 → ∀ z7 : Int, z7 = xor' x5 0 → ∀ z8 : Int, z8 = wr (x6 + 1) → I0 x0 x1 x2 x4 z7 z8 h3) ∧ (v3 ≠ 0 → ∀ z7 : Int, z7 = xshl 1 x6 → ∀ z8 : Int, z8 = xor' x5 z7 → ∀ z9 : Int, z9 = wr (x6 + 1) → I0 x0 x1 x2 x4 z8 z9 h3))))))))))) : Q v h' := by
  refine x_mef vr_uponWhat_k hs (fun k l h => match k with
    | 0 => (match l with | [x0, x1, x2, x4, x5, x6] => I0 x0 x1 x2 x4 x5 x6 h | _ => False)
    | _ => False) Q h0 ?_
  intro i Ti hT vals h hi
  match i, hT, hi with
  | 0, hT, hi =>
    cases hT
    match vals, hi with
    | [x0, x1, x2, x4, x5, x6], hi => exact k0 _ _ _ _ _ _ _ hi
    | [], hi => exact False.elim hi
    | [_], hi => exact False.elim hi
    | [_, _], hi => exact False.elim hi
    | [_, _, _], hi => exact False.elim hi
    | [_, _, _, _], hi => exact False.elim hi
    | [_, _, _, _, _], hi => exact False.elim hi
    | _ :: _ :: _ :: _ :: _ :: _ :: _ :: _, hi => exact False.elim hi
  | _ + 1, hT, _ => cases hT
