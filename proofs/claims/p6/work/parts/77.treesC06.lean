/-! the trees of the methods (made by a program) -/
def vw_firstPartner_T : xT := [(8, [.inr 1, .inl 2], 6, 0), (8, [.inl 3, .inr (-1)], 5, 0), (8, [.inl 1, .inl 4], 3, 0), (12, [.inl 0, .inl 1, .inl 2, .inl 5, .inr 0], 0, 0)]
def vw_firstPartner_T0 : xT := [(10, [.inl 4, .inr 7], 3, 1), (11, [.inr (-9)], 0, 0), (1, [.inr 269, .inl 2], 0, 0), (8, [.inl 3, .inl 5], 3, 0), (8, [.inl 6, .inl 4], 7, 0), (8, [.inl 7, .inr 1], 3, 0), (10, [.inl 8, .inr 1], 1, 2), (8, [.inl 4, .inr 1], 0, 0), (12, [.inl 0, .inl 1, .inl 2, .inl 3, .inl 9], 0, 0), (8, [.inr 1, .inl 4], 6, 0), (8, [.inl 9, .inr (-1)], 5, 0), (8, [.inl 3, .inl 10], 3, 0),
  (1, [.inr 270, .inl 11], 0, 0), (8, [.inr 1, .inl 12], 0, 0), (1, [.inr 270, .inl 1], 0, 0), (10, [.inl 13, .inl 14], 1, 2), (8, [.inl 4, .inr 1], 0, 0), (12, [.inl 0, .inl 1, .inl 2, .inl 3, .inl 15], 0, 0), (11, [.inl 4], 0, 0)]
theorem vw_firstPartner_k : x_chk 117 [(11, [(0, 0), (1, 0), (2, 0), (3, 0), (4, 0)])] vw_firstPartner_T [vw_firstPartner_T0] 600 = true := by decide +kernel
theorem vw_firstPartner {a0 a1 a2 v : Int} {h h' : fH} (hs : fS 117 [a0, a1, a2] h v h') (I0 : Int → Int → Int → Int → Int → fH → Prop) (Q : Int → fH → Prop) (h0 : ∀ z3 : Int, z3 = xshl 1 a2 → ∀ z4 : Int, z4 = xxor z3 (-1) → ∀ z5 : Int, z5 = xand a1 z4 → I0 a0 a1 a2 z5 0 h) (k0 : ∀ (x0 x1 x2 x3 x4 : Int) (h : fH), I0 x0 x1 x2 x3 x4 h → ((7 ≤ x4 → Q (-9) h) ∧ (x4 < 7 → ∀ z5 : Int, z5 = h 269 x2 → ∀ z6 : Int, z6 = xand x3 z5 → ∀ z7 : Int, z7 = xshr z6 x4 → ∀ z8 : Int, z8 = xand z7 1 → ((z8 ≠ 1 → ∀ z9 : Int, z9 = wr (x4 + 1) → I0 x0 x1 x2 x3 z9 h) ∧ (z8 = 1 → ∀ z9 : Int, z9 = xshl 1 x4 → ∀ z10 : Int, z10 = xxor z9 (-1) → ∀ z11 : Int, z11 = xand x3 z10 → ∀ z12 : Int, z12 = h 270 z11 → ∀ z13 : Int, z13 = wr (1 + z12) → ∀ z14 : Int, z14 = h 270 x1 → ((z13 ≠ z14 → ∀ z15 : Int, z15 = wr (x4 + 1) → I0 x0 x1 x2 x3 z15 h) ∧ (z13 = z14 → Q x4 h))))))) : Q v h' := by
  refine x_mef vw_firstPartner_k hs (fun k l h => match k with
    | 0 => (match l with | [x0, x1, x2, x3, x4] => I0 x0 x1 x2 x3 x4 h | _ => False)
    | _ => False) Q h0 ?_
  intro i Ti hT vals h hi
  match i, hT, hi with
  | 0, hT, hi =>
    cases hT
    match vals, hi with
    | [x0, x1, x2, x3, x4], hi => exact k0 _ _ _ _ _ _ hi
    | [], hi => exact False.elim hi
    | [_], hi => exact False.elim hi
    | [_, _], hi => exact False.elim hi
    | [_, _, _], hi => exact False.elim hi
    | [_, _, _, _], hi => exact False.elim hi
    | _ :: _ :: _ :: _ :: _ :: _ :: _, hi => exact False.elim hi
  | _ + 1, hT, _ => cases hT
def vc_fix_T : xT := [(10, [.inl 1, .inr 0], 3, 9), (10, [.inl 1, .inr 30], 5, 3), (13, [.inr 34, .inr 11], 23, 0), (13, [.inr 11, .inl 1], 91, 0), (12, [.inl 0, .inl 1, .inr (-9), .inl 3, .inr 0], 0, 0), (9, [.inr (-6)], 0, 0), (1, [.inr 3, .inl 2], 0, 0), (8, [.inl 3, .inr 1], 0, 0), (3, [.inr 3, .inl 2, .inl 4], 0, 0), (11, [.inr (-6)], 0, 0), (9, [.inr (-4)], 0, 0), (1, [.inr 3, .inl 2], 0, 0),
  (8, [.inl 3, .inr 1], 0, 0), (3, [.inr 3, .inl 2, .inl 4], 0, 0), (11, [.inr (-4)], 0, 0)]
def vc_fix_T0 : xT := [(10, [.inl 4, .inr 5], 3, 1), (11, [.inl 2], 0, 0), (12, [.inl 0, .inl 1, .inl 2, .inl 3, .inl 4, .inr 0], 1, 0)]
def vc_fix_T1 : xT := [(10, [.inl 5, .inr 8], 4, 4), (1, [.inr 29, .inl 4], 0, 0), (3, [.inr 52, .inl 4, .inl 6], 0, 0), (8, [.inl 4, .inr 1], 0, 0), (12, [.inl 0, .inl 1, .inl 2, .inl 3, .inl 7], 0, 0), (3, [.inr 52, .inl 4, .inl 5], 0, 0), (13, [.inr 34, .inl 1], 91, 0), (10, [.inl 6, .inl 3], 5, 2), (8, [.inl 5, .inr 1], 0, 0), (12, [.inl 0, .inl 1, .inl 2, .inl 3, .inl 4, .inl 7], 1, 0), (8, [.inr 10, .inl 4], 2, 0), (8, [.inl 7, .inl 5], 0, 0),
  (8, [.inl 5, .inr 1], 0, 0), (12, [.inl 0, .inl 1, .inl 8, .inl 6, .inl 4, .inl 9], 1, 0)]
theorem vc_fix_k : x_chk 118 [(50, [(0, 0), (1, 0), (2, 0), (3, 0), (4, 0)]), (59, [(0, 0), (1, 0), (2, 0), (3, 0), (4, 0), (5, 0)])] vc_fix_T [vc_fix_T0, vc_fix_T1] 600 = true := by decide +kernel
theorem vc_fix {a0 a1 v : Int} {h h' : fH} (hs : fS 118 [a0, a1] h v h') (I0 : Int → Int → Int → Int → Int → fH → Prop) (I1 : Int → Int → Int → Int → Int → Int → fH → Prop) (Q : Int → fH → Prop) (h0 : ((0 ≤ a1 → ((a1 ≤ 30 → ∀ (v1 : Int) (h1 : fH), fS 23 [34, 11] h v1 h1 → ∀ (v2 : Int) (h2 : fH), fS 91 [11, a1] h1 v2 h2 → I0 a0 a1 (-9) v2 0 h2) ∧ (30 < a1 → ∀ z2 : Int, z2 = wr (-(-6)) → ∀ z3 : Int, z3 = h 3 z2 → ∀ z4 : Int, z4 = wr (z3 + 1) → ∀ h1 : fH, h1 = fu h 3 z2 z4 → Q (-6) h1))) ∧ (a1 < 0 → ∀ z2 : Int, z2 = wr (-(-4)) → ∀ z3 : Int, z3 = h 3 z2 → ∀ z4 : Int, z4 = wr (z3 + 1) → ∀ h1 : fH, h1 = fu h 3 z2 z4 → Q (-4) h1))) (k0 : ∀ (x0 x1 x2 x3 x4 : Int) (h : fH), I0 x0 x1 x2 x3 x4 h → ((5 ≤ x4 → Q x2 h) ∧ (x4 < 5 → I1 x0 x1 x2 x3 x4 0 h))) (k1 : ∀ (x0 x1 x2 x3 x4 x5 : Int) (h : fH), I1 x0 x1 x2 x3 x4 x5 h → ((8 < x5 → ∀ z6 : Int, z6 = h 29 x4 → ∀ h1 : fH, h1 = fu h 52 x4 z6 → ∀ z7 : Int, z7 = wr (x4 + 1) → I0 x0 x1 x2 x3 z7 h1) ∧ (x5 ≤ 8 → ∀ h1 : fH, h1 = fu h 52 x4 x5 → ∀ (v2 : Int) (h2 : fH), fS 91 [34, x1] h1 v2 h2 → ((v2 ≤ x3 → ∀ z7 : Int, z7 = wr (x5 + 1) → I1 x0 x1 x2 x3 x4 z7 h2) ∧ (x3 < v2 → ∀ z7 : Int, z7 = wr (10 * x4) → ∀ z8 : Int, z8 = wr (z7 + x5) → ∀ z9 : Int, z9 = wr (x5 + 1) → I1 x0 x1 z8 v2 x4 z9 h2))))) : Q v h' := by
  refine x_mef vc_fix_k hs (fun k l h => match k with
    | 0 => (match l with | [x0, x1, x2, x3, x4] => I0 x0 x1 x2 x3 x4 h | _ => False)
    | 1 => (match l with | [x0, x1, x2, x3, x4, x5] => I1 x0 x1 x2 x3 x4 x5 h | _ => False)
    | _ => False) Q h0 ?_
  intro i Ti hT vals h hi
  match i, hT, hi with
  | 0, hT, hi =>
    cases hT
    match vals, hi with
    | [x0, x1, x2, x3, x4], hi => exact k0 _ _ _ _ _ _ hi
    | [], hi => exact False.elim hi
    | [_], hi => exact False.elim hi
    | [_, _], hi => exact False.elim hi
    | [_, _, _], hi => exact False.elim hi
    | [_, _, _, _], hi => exact False.elim hi
    | _ :: _ :: _ :: _ :: _ :: _ :: _, hi => exact False.elim hi
  | 1, hT, hi =>
    cases hT
    match vals, hi with
    | [x0, x1, x2, x3, x4, x5], hi => exact k1 _ _ _ _ _ _ _ hi
    | [], hi => exact False.elim hi
    | [_], hi => exact False.elim hi
    | [_, _], hi => exact False.elim hi
    | [_, _, _], hi => exact False.elim hi
    | [_, _, _, _], hi => exact False.elim hi
    | [_, _, _, _, _], hi => exact False.elim hi
    | _ :: _ :: _ :: _ :: _ :: _ :: _ :: _, hi => exact False.elim hi
  | _ + 2, hT, _ => cases hT
def vc_preach_T : xT := [(10, [.inl 1, .inr 0], 2, 5), (9, [.inr (-1)], 0, 0), (1, [.inr 3, .inl 2], 0, 0), (8, [.inl 3, .inr 1], 0, 0), (3, [.inr 3, .inl 2, .inl 4], 0, 0), (11, [.inr (-1)], 0, 0), (10, [.inl 1, .inr 5], 3, 5), (9, [.inr (-1)], 0, 0), (1, [.inr 3, .inl 2], 0, 0), (8, [.inl 3, .inr 1], 0, 0), (3, [.inr 3, .inl 2, .inl 4], 0, 0), (11, [.inr (-1)], 0, 0),
  (13, [.inr 34, .inr 11], 23, 0), (12, [.inl 0, .inl 1, .inr (-9), .inr 0, .inr 0], 0, 0)]
def vc_preach_T0 : xT := [(0, [.inr 11], 1, 0), (10, [.inl 4, .inl 5], 3, 1), (11, [.inl 2], 0, 0), (5, [.inr 43, .inl 4], 0, 1), (5, [.inr 20, .inl 4], 0, 1), (1, [.inl 7, .inl 1], 0, 0), (8, [.inr 9, .inl 8], 1, 0), (3, [.inl 6, .inl 1, .inl 9], 0, 0), (13, [.inr 34, .inl 4], 110, 0), (13, [.inl 10], 120, 0), (10, [.inl 11, .inl 3], 5, 6), (5, [.inr 43, .inl 4], 0, 1),
  (5, [.inr 20, .inl 4], 0, 1), (1, [.inl 13, .inl 1], 0, 0), (3, [.inl 12, .inl 1, .inl 14], 0, 0), (8, [.inl 4, .inr 1], 0, 0), (12, [.inl 0, .inl 1, .inl 2, .inl 3, .inl 15], 0, 0), (13, [.inr 11, .inl 4], 110, 0), (13, [.inl 12], 120, 0), (10, [.inl 11, .inl 13], 5, 6), (5, [.inr 43, .inl 4], 0, 1), (5, [.inr 20, .inl 4], 0, 1), (1, [.inl 15, .inl 1], 0, 0), (3, [.inl 14, .inl 1, .inl 16], 0, 0),
  (8, [.inl 4, .inr 1], 0, 0), (12, [.inl 0, .inl 1, .inl 2, .inl 3, .inl 17], 0, 0), (5, [.inr 43, .inl 4], 0, 1), (5, [.inr 20, .inl 4], 0, 1), (1, [.inl 15, .inl 1], 0, 0), (3, [.inl 14, .inl 1, .inl 16], 0, 0), (8, [.inl 4, .inr 1], 0, 0), (12, [.inl 0, .inl 1, .inl 4, .inl 11, .inl 17], 0, 0)]
theorem vc_preach_k : x_chk 119 [(32, [(0, 0), (1, 0), (2, 0), (3, 0), (4, 0)])] vc_preach_T [vc_preach_T0] 600 = true := by decide +kernel
theorem vc_preach {a0 a1 v : Int} {h h' : fH} (hs : fS 119 [a0, a1] h v h') (I0 : Int → Int → Int → Int → Int → fH → Prop) (Q : Int → fH → Prop) (h0 : ((a1 < 0 → ∀ z2 : Int, z2 = wr (-(-1)) → ∀ z3 : Int, z3 = h 3 z2 → ∀ z4 : Int, z4 = wr (z3 + 1) → ∀ h1 : fH, h1 = fu h 3 z2 z4 → Q (-1) h1) ∧ (0 ≤ a1 → ((5 ≤ a1 → ∀ z2 : Int, z2 = wr (-(-1)) → ∀ z3 : Int, z3 = h 3 z2 → ∀ z4 : Int, z4 = wr (z3 + 1) → ∀ h1 : fH, h1 = fu h 3 z2 z4 → Q (-1) h1) ∧ (a1 < 5 → ∀ (v1 : Int) (h1 : fH), fS 23 [34, 11] h v1 h1 → I0 a0 a1 (-9) 0 0 h1))))) (k0 : ∀ (x0 x1 x2 x3 x4 : Int) (h : fH), I0 x0 x1 x2 x3 x4 h → ∀ z5 : Int, z5 = h 11 1 → ((z5 ≤ x4 → Q x2 h) ∧ (x4 < z5 → ∀ z6 : Int, z6 = 43 + 1 + 1 * x4 → ∀ z7 : Int, z7 = 20 + 1 + 1 * x4 → ∀ z8 : Int, z8 = h z7 x1 → ∀ z9 : Int, z9 = wr (9 - z8) → ∀ h1 : fH, h1 = fu h z6 x1 z9 → ∀ (v2 : Int) (h2 : fH), fS 110 [34, x4] h1 v2 h2 → ∀ (v3 : Int) (h3 : fH), fS 120 [v2] h2 v3 h3 → ((v3 ≤ x3 → ∀ z12 : Int, z12 = 43 + 1 + 1 * x4 → ∀ z13 : Int, z13 = 20 + 1 + 1 * x4 → ∀ z14 : Int, z14 = h3 z13 x1 → ∀ h4 : fH, h4 = fu h3 z12 x1 z14 → ∀ z15 : Int, z15 = wr (x4 + 1) → I0 x0 x1 x2 x3 z15 h4) ∧ (x3 < v3 → ∀ (v4 : Int) (h4 : fH), fS 110 [11, x4] h3 v4 h4 → ∀ (v5 : Int) (h5 : fH), fS 120 [v4] h4 v5 h5 → ((v3 ≤ v5 → ∀ z14 : Int, z14 = 43 + 1 + 1 * x4 → ∀ z15 : Int, z15 = 20 + 1 + 1 * x4 → ∀ z16 : Int, z16 = h5 z15 x1 → ∀ h6 : fH, h6 = fu h5 z14 x1 z16 → ∀ z17 : Int, z17 = wr (x4 + 1) → I0 x0 x1 x2 x3 z17 h6) ∧ (v5 < v3 → ∀ z14 : Int, z14 = 43 + 1 + 1 * x4 → ∀ z15 : Int, z15 = 20 + 1 + 1 * x4 → ∀ z16 : Int, z16 = h5 z15 x1 → ∀ h6 : fH, h6 = fu h5 z14 x1 z16 → ∀ z17 : Int, z17 = wr (x4 + 1) → I0 x0 x1 x4 v3 z17 h6))))))) : Q v h' := by
  refine x_mef vc_preach_k hs (fun k l h => match k with
    | 0 => (match l with | [x0, x1, x2, x3, x4] => I0 x0 x1 x2 x3 x4 h | _ => False)
    | _ => False) Q h0 ?_
  intro i Ti hT vals h hi
  match i, hT, hi with
  | 0, hT, hi =>
    cases hT
    match vals, hi with
    | [x0, x1, x2, x3, x4], hi => exact k0 _ _ _ _ _ _ hi
    | [], hi => exact False.elim hi
    | [_], hi => exact False.elim hi
    | [_, _], hi => exact False.elim hi
    | [_, _, _], hi => exact False.elim hi
    | [_, _, _, _], hi => exact False.elim hi
    | _ :: _ :: _ :: _ :: _ :: _ :: _, hi => exact False.elim hi
  | _ + 1, hT, _ => cases hT
def vj_bitCount_T : xT := [(8, [.inl 0, .inr 1], 8, 0), (8, [.inl 1, .inr 1431655765], 3, 0), (8, [.inl 0, .inl 2], 1, 0), (8, [.inl 3, .inr 858993459], 3, 0), (8, [.inl 3, .inr 2], 8, 0), (8, [.inl 5, .inr 858993459], 3, 0), (8, [.inl 4, .inl 6], 0, 0), (8, [.inl 7, .inr 4], 8, 0), (8, [.inl 7, .inl 8], 0, 0), (8, [.inl 9, .inr 252645135], 3, 0), (8, [.inl 10, .inr 8], 8, 0), (8, [.inl 10, .inl 11], 0, 0),
  (8, [.inl 12, .inr 16], 8, 0), (8, [.inl 12, .inl 13], 0, 0), (8, [.inl 14, .inr 63], 3, 0), (11, [.inl 15], 0, 0)]
theorem vj_bitCount_k : x_chk 120 [] vj_bitCount_T [] 600 = true := by decide +kernel
theorem vj_bitCount {a0 v : Int} {h h' : fH} (hs : fS 120 [a0] h v h') (Q : Int → fH → Prop) (h0 : ∀ z1 : Int, z1 = xushr a0 1 → ∀ z2 : Int, z2 = xand z1 1431655765 → ∀ z3 : Int, z3 = wr (a0 - z2) → ∀ z4 : Int, z4 = xand z3 858993459 → ∀ z5 : Int, z5 = xushr z3 2 → ∀ z6 : Int, z6 = xand z5 858993459 → ∀ z7 : Int, z7 = wr (z4 + z6) → ∀ z8 : Int, z8 = xushr z7 4 → ∀ z9 : Int, z9 = wr (z7 + z8) → ∀ z10 : Int, z10 = xand z9 252645135 → ∀ z11 : Int, z11 = xushr z10 8 → ∀ z12 : Int, z12 = wr (z10 + z11) → ∀ z13 : Int, z13 = xushr z12 16 → ∀ z14 : Int, z14 = wr (z12 + z13) → ∀ z15 : Int, z15 = xand z14 63 → Q z15 h) : Q v h' := by
  exact x_mef vj_bitCount_k hs (fun _ _ _ => False) Q h0 (fun i Ti hT => by cases hT)
def vc_fair_T : xT := [(10, [.inl 1, .inr 0], 2, 5), (9, [.inr (-2)], 0, 0), (1, [.inr 3, .inl 2], 0, 0), (8, [.inl 3, .inr 1], 0, 0), (3, [.inr 3, .inl 2, .inl 4], 0, 0), (11, [.inr (-2)], 0, 0), (10, [.inl 1, .inr 2], 3, 5), (9, [.inr (-2)], 0, 0), (1, [.inr 3, .inl 2], 0, 0), (8, [.inl 3, .inr 1], 0, 0), (3, [.inr 3, .inl 2, .inl 4], 0, 0), (11, [.inr (-2)], 0, 0),
  (12, [.inl 0, .inl 1, .inr 0, .inr 0], 0, 0)]
def vc_fair_T0 : xT := [(0, [.inr 11], 14, 0), (10, [.inl 3, .inl 4], 3, 1), (11, [.inl 2], 0, 0), (10, [.inl 1, .inr 0], 1, 8), (13, [.inr 11, .inl 3], 66, 0), (10, [.inl 5, .inr 0], 0, 2), (8, [.inl 3, .inr 1], 0, 0), (12, [.inl 0, .inl 1, .inl 2, .inl 6], 0, 0), (8, [.inr 1, .inl 3], 6, 0), (8, [.inl 2, .inl 6], 4, 0), (8, [.inl 3, .inr 1], 0, 0), (12, [.inl 0, .inl 1, .inl 7, .inl 8], 0, 0),
  (1, [.inr 30, .inl 3], 0, 0), (0, [.inl 5], 0, 0), (0, [.inl 5], 2, 0), (0, [.inl 5], 3, 0), (13, [.inr 11, .inl 6, .inl 7, .inl 8], 60, 0), (0, [.inl 5], 1, 0), (0, [.inl 5], 2, 0), (0, [.inl 5], 3, 0), (13, [.inr 11, .inl 10, .inl 11, .inl 12], 60, 0), (10, [.inl 9, .inl 13], 1, 2), (8, [.inl 3, .inr 1], 0, 0), (12, [.inl 0, .inl 1, .inl 2, .inl 14], 0, 0),
  (8, [.inr 1, .inl 3], 6, 0), (8, [.inl 2, .inl 14], 4, 0), (8, [.inl 3, .inr 1], 0, 0), (12, [.inl 0, .inl 1, .inl 15, .inl 16], 0, 0)]
theorem vc_fair_k : x_chk 121 [(19, [(0, 0), (1, 0), (2, 0), (3, 0)])] vc_fair_T [vc_fair_T0] 600 = true := by decide +kernel
theorem vc_fair {a0 a1 v : Int} {h h' : fH} (hs : fS 121 [a0, a1] h v h') (I0 : Int → Int → Int → Int → fH → Prop) (Q : Int → fH → Prop) (h0 : ((a1 < 0 → ∀ z2 : Int, z2 = wr (-(-2)) → ∀ z3 : Int, z3 = h 3 z2 → ∀ z4 : Int, z4 = wr (z3 + 1) → ∀ h1 : fH, h1 = fu h 3 z2 z4 → Q (-2) h1) ∧ (0 ≤ a1 → ((2 ≤ a1 → ∀ z2 : Int, z2 = wr (-(-2)) → ∀ z3 : Int, z3 = h 3 z2 → ∀ z4 : Int, z4 = wr (z3 + 1) → ∀ h1 : fH, h1 = fu h 3 z2 z4 → Q (-2) h1) ∧ (a1 < 2 → I0 a0 a1 0 0 h))))) (k0 : ∀ (x0 x1 x2 x3 : Int) (h : fH), I0 x0 x1 x2 x3 h → ∀ z4 : Int, z4 = h 11 14 → ((z4 ≤ x3 → Q x2 h) ∧ (x3 < z4 → ((x1 ≠ 0 → ∀ (v1 : Int) (h1 : fH), fS 66 [11, x3] h v1 h1 → ((v1 = 0 → ∀ z6 : Int, z6 = wr (x3 + 1) → I0 x0 x1 x2 z6 h1) ∧ (v1 ≠ 0 → ∀ z6 : Int, z6 = xshl 1 x3 → ∀ z7 : Int, z7 = xor' x2 z6 → ∀ z8 : Int, z8 = wr (x3 + 1) → I0 x0 x1 z7 z8 h1))) ∧ (x1 = 0 → ∀ z5 : Int, z5 = h 30 x3 → ∀ z6 : Int, z6 = h z5 0 → ∀ z7 : Int, z7 = h z5 2 → ∀ z8 : Int, z8 = h z5 3 → ∀ (v1 : Int) (h1 : fH), fS 60 [11, z6, z7, z8] h v1 h1 → ∀ z10 : Int, z10 = h1 z5 1 → ∀ z11 : Int, z11 = h1 z5 2 → ∀ z12 : Int, z12 = h1 z5 3 → ∀ (v2 : Int) (h2 : fH), fS 60 [11, z10, z11, z12] h1 v2 h2 → ((v1 ≠ v2 → ∀ z14 : Int, z14 = wr (x3 + 1) → I0 x0 x1 x2 z14 h2) ∧ (v1 = v2 → ∀ z14 : Int, z14 = xshl 1 x3 → ∀ z15 : Int, z15 = xor' x2 z14 → ∀ z16 : Int, z16 = wr (x3 + 1) → I0 x0 x1 z15 z16 h2))))))) : Q v h' := by
  refine x_mef vc_fair_k hs (fun k l h => match k with
    | 0 => (match l with | [x0, x1, x2, x3] => I0 x0 x1 x2 x3 h | _ => False)
    | _ => False) Q h0 ?_
  intro i Ti hT vals h hi
  match i, hT, hi with
  | 0, hT, hi =>
    cases hT
    match vals, hi with
    | [x0, x1, x2, x3], hi => exact k0 _ _ _ _ _ hi
    | [], hi => exact False.elim hi
    | [_], hi => exact False.elim hi
    | [_, _], hi => exact False.elim hi
    | [_, _, _], hi => exact False.elim hi
    | _ :: _ :: _ :: _ :: _ :: _, hi => exact False.elim hi
  | _ + 1, hT, _ => cases hT
def vc_hedge_T : xT := [(10, [.inl 1, .inr 0], 2, 5), (9, [.inr (-4)], 0, 0), (1, [.inr 3, .inl 3], 0, 0), (8, [.inl 4, .inr 1], 0, 0), (3, [.inr 3, .inl 3, .inl 5], 0, 0), (11, [.inr (-4)], 0, 0), (10, [.inl 2, .inr 0], 3, 15), (10, [.inl 1, .inr 99], 4, 5), (9, [.inr (-6)], 0, 0), (1, [.inr 3, .inl 3], 0, 0), (8, [.inl 4, .inr 1], 0, 0), (3, [.inr 3, .inl 3, .inl 5], 0, 0),
  (11, [.inr (-6)], 0, 0), (10, [.inl 2, .inr 30], 5, 3), (0, [.inr 11], 14, 0), (8, [.inl 3, .inr 1], 0, 0), (12, [.inl 0, .inl 1, .inl 2, .inr (-9), .inl 4, .inr 0], 0, 0), (9, [.inr (-6)], 0, 0), (1, [.inr 3, .inl 3], 0, 0), (8, [.inl 4, .inr 1], 0, 0), (3, [.inr 3, .inl 3, .inl 5], 0, 0), (11, [.inr (-6)], 0, 0), (9, [.inr (-4)], 0, 0), (1, [.inr 3, .inl 3], 0, 0),
  (8, [.inl 4, .inr 1], 0, 0), (3, [.inr 3, .inl 3, .inl 5], 0, 0), (11, [.inr (-4)], 0, 0)]
def vc_hedge_T0 : xT := [(0, [.inr 11], 14, 0), (8, [.inr 1, .inl 6], 6, 0), (10, [.inl 5, .inl 7], 3, 1), (11, [.inl 3], 0, 0), (13, [.inl 0, .inl 5], 124, 0), (13, [.inl 5], 120, 0), (10, [.inl 9, .inl 4], 3, 2), (8, [.inl 5, .inr 1], 0, 0), (12, [.inl 0, .inl 1, .inl 2, .inl 3, .inl 4, .inl 10], 0, 0), (13, [.inr 34, .inl 2], 80, 0), (10, [.inl 10, .inl 1], 4, 2), (8, [.inl 5, .inr 1], 0, 0),
  (12, [.inl 0, .inl 1, .inl 2, .inl 3, .inl 4, .inl 11], 0, 0), (13, [.inl 5], 120, 0), (8, [.inl 5, .inr 1], 0, 0), (12, [.inl 0, .inl 1, .inl 2, .inl 5, .inl 11, .inl 12], 0, 0)]
theorem vc_hedge_k : x_chk 123 [(51, [(0, 0), (1, 0), (2, 0), (3, 0), (4, 0), (5, 0)])] vc_hedge_T [vc_hedge_T0] 600 = true := by decide +kernel
theorem vc_hedge {a0 a1 a2 v : Int} {h h' : fH} (hs : fS 123 [a0, a1, a2] h v h') (I0 : Int → Int → Int → Int → Int → Int → fH → Prop) (Q : Int → fH → Prop) (h0 : ((a1 < 0 → ∀ z3 : Int, z3 = wr (-(-4)) → ∀ z4 : Int, z4 = h 3 z3 → ∀ z5 : Int, z5 = wr (z4 + 1) → ∀ h1 : fH, h1 = fu h 3 z3 z5 → Q (-4) h1) ∧ (0 ≤ a1 → ((0 ≤ a2 → ((99 < a1 → ∀ z3 : Int, z3 = wr (-(-6)) → ∀ z4 : Int, z4 = h 3 z3 → ∀ z5 : Int, z5 = wr (z4 + 1) → ∀ h1 : fH, h1 = fu h 3 z3 z5 → Q (-6) h1) ∧ (a1 ≤ 99 → ((a2 ≤ 30 → ∀ z3 : Int, z3 = h 11 14 → ∀ z4 : Int, z4 = wr (z3 + 1) → I0 a0 a1 a2 (-9) z4 0 h) ∧ (30 < a2 → ∀ z3 : Int, z3 = wr (-(-6)) → ∀ z4 : Int, z4 = h 3 z3 → ∀ z5 : Int, z5 = wr (z4 + 1) → ∀ h1 : fH, h1 = fu h 3 z3 z5 → Q (-6) h1))))) ∧ (a2 < 0 → ∀ z3 : Int, z3 = wr (-(-4)) → ∀ z4 : Int, z4 = h 3 z3 → ∀ z5 : Int, z5 = wr (z4 + 1) → ∀ h1 : fH, h1 = fu h 3 z3 z5 → Q (-4) h1))))) (k0 : ∀ (x0 x1 x2 x3 x4 x5 : Int) (h : fH), I0 x0 x1 x2 x3 x4 x5 h → ∀ z6 : Int, z6 = h 11 14 → ∀ z7 : Int, z7 = xshl 1 z6 → ((z7 ≤ x5 → Q x3 h) ∧ (x5 < z7 → ∀ (v1 : Int) (h1 : fH), fS 124 [x0, x5] h v1 h1 → ∀ (v2 : Int) (h2 : fH), fS 120 [x5] h1 v2 h2 → ((x4 ≤ v2 → ∀ z10 : Int, z10 = wr (x5 + 1) → I0 x0 x1 x2 x3 x4 z10 h2) ∧ (v2 < x4 → ∀ (v3 : Int) (h3 : fH), fS 80 [34, x2] h2 v3 h3 → ((x1 < v3 → ∀ z11 : Int, z11 = wr (x5 + 1) → I0 x0 x1 x2 x3 x4 z11 h3) ∧ (v3 ≤ x1 → ∀ (v4 : Int) (h4 : fH), fS 120 [x5] h3 v4 h4 → ∀ z12 : Int, z12 = wr (x5 + 1) → I0 x0 x1 x2 x5 v4 z12 h4))))))) : Q v h' := by
  refine x_mef vc_hedge_k hs (fun k l h => match k with
    | 0 => (match l with | [x0, x1, x2, x3, x4, x5] => I0 x0 x1 x2 x3 x4 x5 h | _ => False)
    | _ => False) Q h0 ?_
  intro i Ti hT vals h hi
  match i, hT, hi with
  | 0, hT, hi =>
    cases hT
    match vals, hi with
    | [x0, x1, x2, x3, x4, x5], hi => exact k0 _ _ _ _ _ _ _ hi
    | [], hi => exact False.elim hi
    | [_], hi => exact False.elim hi
    | [_, _], hi => exact False.elim hi
    | [_, _, _], hi => exact False.elim hi
    | [_, _, _, _], hi => exact False.elim hi
    | [_, _, _, _, _], hi => exact False.elim hi
    | _ :: _ :: _ :: _ :: _ :: _ :: _ :: _, hi => exact False.elim hi
  | _ + 1, hT, _ => cases hT
def vc_callOffInMind_T : xT := [(13, [.inr 34, .inr 11], 23, 0), (0, [.inr 11], 14, 0), (8, [.inl 3, .inr 1], 1, 0), (12, [.inl 0, .inl 1, .inl 4], 0, 0)]
def vc_callOffInMind_T0 : xT := [(10, [.inl 2, .inr 0], 2, 1), (11, [.inr 0], 0, 0), (8, [.inl 1, .inl 2], 7, 0), (8, [.inl 3, .inr 1], 3, 0), (10, [.inl 4, .inr 1], 1, 2), (8, [.inl 2, .inr (-1)], 0, 0), (12, [.inl 0, .inl 1, .inl 5], 0, 0), (13, [.inr 34, .inl 2], 70, 0), (8, [.inl 2, .inr (-1)], 0, 0), (12, [.inl 0, .inl 1, .inl 6], 0, 0)]
theorem vc_callOffInMind_k : x_chk 124 [(21, [(0, 0), (1, 0), (2, 0)])] vc_callOffInMind_T [vc_callOffInMind_T0] 600 = true := by decide +kernel
theorem vc_callOffInMind {a0 a1 v : Int} {h h' : fH} (hs : fS 124 [a0, a1] h v h') (I0 : Int → Int → Int → fH → Prop) (Q : Int → fH → Prop) (h0 : ∀ (v1 : Int) (h1 : fH), fS 23 [34, 11] h v1 h1 → ∀ z3 : Int, z3 = h1 11 14 → ∀ z4 : Int, z4 = wr (z3 - 1) → I0 a0 a1 z4 h1) (k0 : ∀ (x0 x1 x2 : Int) (h : fH), I0 x0 x1 x2 h → ((x2 < 0 → Q 0 h) ∧ (0 ≤ x2 → ∀ z3 : Int, z3 = xshr x1 x2 → ∀ z4 : Int, z4 = xand z3 1 → ((z4 ≠ 1 → ∀ z5 : Int, z5 = wr (x2 + (-1)) → I0 x0 x1 z5 h) ∧ (z4 = 1 → ∀ (v1 : Int) (h1 : fH), fS 70 [34, x2] h v1 h1 → ∀ z6 : Int, z6 = wr (x2 + (-1)) → I0 x0 x1 z6 h1))))) : Q v h' := by
  refine x_mef vc_callOffInMind_k hs (fun k l h => match k with
    | 0 => (match l with | [x0, x1, x2] => I0 x0 x1 x2 h | _ => False)
    | _ => False) Q h0 ?_
  intro i Ti hT vals h hi
  match i, hT, hi with
  | 0, hT, hi =>
    cases hT
    match vals, hi with
    | [x0, x1, x2], hi => exact k0 _ _ _ _ hi
    | [], hi => exact False.elim hi
    | [_], hi => exact False.elim hi
    | [_, _], hi => exact False.elim hi
    | _ :: _ :: _ :: _ :: _, hi => exact False.elim hi
  | _ + 1, hT, _ => cases hT
def vc_two_T : xT := [(10, [.inl 1, .inr 0], 2, 5), (9, [.inr (-1)], 0, 0), (1, [.inr 3, .inl 4], 0, 0), (8, [.inl 5, .inr 1], 0, 0), (3, [.inr 3, .inl 4, .inl 6], 0, 0), (11, [.inr (-1)], 0, 0), (0, [.inr 11], 1, 0), (10, [.inl 1, .inl 4], 3, 5), (9, [.inr (-1)], 0, 0), (1, [.inr 3, .inl 5], 0, 0), (8, [.inl 6, .inr 1], 0, 0), (3, [.inr 3, .inl 5, .inl 7], 0, 0),
  (11, [.inr (-1)], 0, 0), (10, [.inl 2, .inr 0], 2, 5), (9, [.inr (-1)], 0, 0), (1, [.inr 3, .inl 5], 0, 0), (8, [.inl 6, .inr 1], 0, 0), (3, [.inr 3, .inl 5, .inl 7], 0, 0), (11, [.inr (-1)], 0, 0), (0, [.inr 11], 1, 0), (10, [.inl 2, .inl 5], 3, 5), (9, [.inr (-1)], 0, 0), (1, [.inr 3, .inl 6], 0, 0), (8, [.inl 7, .inr 1], 0, 0),
  (3, [.inr 3, .inl 6, .inl 8], 0, 0), (11, [.inr (-1)], 0, 0), (10, [.inl 1, .inl 2], 0, 5), (9, [.inr (-1)], 0, 0), (1, [.inr 3, .inl 6], 0, 0), (8, [.inl 7, .inr 1], 0, 0), (3, [.inr 3, .inl 6, .inl 8], 0, 0), (11, [.inr (-1)], 0, 0), (10, [.inl 3, .inr 0], 2, 5), (9, [.inr (-1)], 0, 0), (1, [.inr 3, .inl 6], 0, 0), (8, [.inl 7, .inr 1], 0, 0),
  (3, [.inr 3, .inl 6, .inl 8], 0, 0), (11, [.inr (-1)], 0, 0), (10, [.inl 3, .inr 5], 3, 5), (9, [.inr (-1)], 0, 0), (1, [.inr 3, .inl 6], 0, 0), (8, [.inl 7, .inr 1], 0, 0), (3, [.inr 3, .inl 6, .inl 8], 0, 0), (11, [.inr (-1)], 0, 0), (13, [.inr 11, .inl 1], 57, 0), (10, [.inl 6, .inr 0], 0, 5), (9, [.inr (-3)], 0, 0), (1, [.inr 3, .inl 7], 0, 0),
  (8, [.inl 8, .inr 1], 0, 0), (3, [.inr 3, .inl 7, .inl 9], 0, 0), (11, [.inr (-3)], 0, 0), (13, [.inr 11, .inl 2], 57, 0), (10, [.inl 7, .inr 0], 1, 2), (13, [.inr 34, .inr 11], 23, 0), (12, [.inl 0, .inl 1, .inl 2, .inl 3, .inr 0], 0, 0), (9, [.inr (-3)], 0, 0), (1, [.inr 3, .inl 8], 0, 0), (8, [.inl 9, .inr 1], 0, 0), (3, [.inr 3, .inl 8, .inl 10], 0, 0), (11, [.inr (-3)], 0, 0)]
def vc_two_T0 : xT := [(10, [.inl 4, .inr 1], 4, 1), (11, [.inr (-9)], 0, 0), (12, [.inl 0, .inl 1, .inl 2, .inl 3, .inl 4, .inr 0], 1, 0)]
def vc_two_T1 : xT := [(10, [.inl 5, .inr 1], 4, 2), (8, [.inl 4, .inr 1], 0, 0), (12, [.inl 0, .inl 1, .inl 2, .inl 3, .inl 6], 0, 0), (13, [.inl 0, .inl 1, .inl 2, .inl 3, .inl 4, .inl 5], 126, 0), (8, [.inr 2, .inl 4], 2, 0), (8, [.inl 6, .inl 7], 1, 0), (8, [.inr 1, .inl 4], 1, 0), (13, [.inl 0, .inl 1, .inl 2, .inl 3, .inl 9, .inl 5], 126, 0), (8, [.inr 1, .inl 4], 1, 0), (8, [.inr 2, .inl 11], 2, 0), (8, [.inl 10, .inl 12], 1, 0), (10, [.inl 8, .inl 13], 2, 12),
  (8, [.inr 2, .inl 5], 2, 0), (8, [.inl 6, .inl 14], 1, 0), (8, [.inr 1, .inl 5], 1, 0), (13, [.inl 0, .inl 1, .inl 2, .inl 3, .inl 4, .inl 16], 126, 0), (8, [.inr 1, .inl 5], 1, 0), (8, [.inr 2, .inl 18], 2, 0), (8, [.inl 17, .inl 19], 1, 0), (10, [.inl 15, .inl 20], 2, 2), (8, [.inl 5, .inr 1], 0, 0), (12, [.inl 0, .inl 1, .inl 2, .inl 3, .inl 4, .inl 21], 1, 0), (8, [.inl 5, .inr 1], 0, 0), (12, [.inl 0, .inl 1, .inl 2, .inl 3, .inl 4, .inl 21], 1, 0),
  (8, [.inr 2, .inl 5], 2, 0), (8, [.inl 6, .inl 14], 1, 0), (8, [.inr 1, .inl 5], 1, 0), (13, [.inl 0, .inl 1, .inl 2, .inl 3, .inl 4, .inl 16], 126, 0), (8, [.inr 1, .inl 5], 1, 0), (8, [.inr 2, .inl 18], 2, 0), (8, [.inl 17, .inl 19], 1, 0), (10, [.inl 15, .inl 20], 2, 2), (8, [.inl 5, .inr 1], 0, 0), (12, [.inl 0, .inl 1, .inl 2, .inl 3, .inl 4, .inl 21], 1, 0), (8, [.inr 10, .inl 4], 2, 0), (8, [.inl 21, .inl 5], 0, 0),
  (11, [.inl 22], 0, 0)]
theorem vc_two_k : x_chk 125 [(68, [(0, 0), (1, 0), (2, 0), (3, 0), (4, 0)]), (77, [(0, 0), (1, 0), (2, 0), (3, 0), (4, 0), (5, 0)])] vc_two_T [vc_two_T0, vc_two_T1] 600 = true := by decide +kernel
theorem vc_two {a0 a1 a2 a3 v : Int} {h h' : fH} (hs : fS 125 [a0, a1, a2, a3] h v h') (I0 : Int → Int → Int → Int → Int → fH → Prop) (I1 : Int → Int → Int → Int → Int → Int → fH → Prop) (Q : Int → fH → Prop) (h0 : ((a1 < 0 → ∀ z4 : Int, z4 = wr (-(-1)) → ∀ z5 : Int, z5 = h 3 z4 → ∀ z6 : Int, z6 = wr (z5 + 1) → ∀ h1 : fH, h1 = fu h 3 z4 z6 → Q (-1) h1) ∧ (0 ≤ a1 → ∀ z4 : Int, z4 = h 11 1 → ((z4 ≤ a1 → ∀ z5 : Int, z5 = wr (-(-1)) → ∀ z6 : Int, z6 = h 3 z5 → ∀ z7 : Int, z7 = wr (z6 + 1) → ∀ h1 : fH, h1 = fu h 3 z5 z7 → Q (-1) h1) ∧ (a1 < z4 → ((a2 < 0 → ∀ z5 : Int, z5 = wr (-(-1)) → ∀ z6 : Int, z6 = h 3 z5 → ∀ z7 : Int, z7 = wr (z6 + 1) → ∀ h1 : fH, h1 = fu h 3 z5 z7 → Q (-1) h1) ∧ (0 ≤ a2 → ∀ z5 : Int, z5 = h 11 1 → ((z5 ≤ a2 → ∀ z6 : Int, z6 = wr (-(-1)) → ∀ z7 : Int, z7 = h 3 z6 → ∀ z8 : Int, z8 = wr (z7 + 1) → ∀ h1 : fH, h1 = fu h 3 z6 z8 → Q (-1) h1) ∧ (a2 < z5 → ((a1 = a2 → ∀ z6 : Int, z6 = wr (-(-1)) → ∀ z7 : Int, z7 = h 3 z6 → ∀ z8 : Int, z8 = wr (z7 + 1) → ∀ h1 : fH, h1 = fu h 3 z6 z8 → Q (-1) h1) ∧ (a1 ≠ a2 → ((a3 < 0 → ∀ z6 : Int, z6 = wr (-(-1)) → ∀ z7 : Int, z7 = h 3 z6 → ∀ z8 : Int, z8 = wr (z7 + 1) → ∀ h1 : fH, h1 = fu h 3 z6 z8 → Q (-1) h1) ∧ (0 ≤ a3 → ((5 ≤ a3 → ∀ z6 : Int, z6 = wr (-(-1)) → ∀ z7 : Int, z7 = h 3 z6 → ∀ z8 : Int, z8 = wr (z7 + 1) → ∀ h1 : fH, h1 = fu h 3 z6 z8 → Q (-1) h1) ∧ (a3 < 5 → ∀ (v1 : Int) (h1 : fH), fS 57 [11, a1] h v1 h1 → ((v1 = 0 → ∀ z7 : Int, z7 = wr (-(-3)) → ∀ z8 : Int, z8 = h1 3 z7 → ∀ z9 : Int, z9 = wr (z8 + 1) → ∀ h2 : fH, h2 = fu h1 3 z7 z9 → Q (-3) h2) ∧ (v1 ≠ 0 → ∀ (v2 : Int) (h2 : fH), fS 57 [11, a2] h1 v2 h2 → ((v2 ≠ 0 → ∀ (v3 : Int) (h3 : fH), fS 23 [34, 11] h2 v3 h3 → I0 a0 a1 a2 a3 0 h3) ∧ (v2 = 0 → ∀ z8 : Int, z8 = wr (-(-3)) → ∀ z9 : Int, z9 = h2 3 z8 → ∀ z10 : Int, z10 = wr (z9 + 1) → ∀ h3 : fH, h3 = fu h2 3 z8 z10 → Q (-3) h3))))))))))))))))))) (k0 : ∀ (x0 x1 x2 x3 x4 : Int) (h : fH), I0 x0 x1 x2 x3 x4 h → ((1 < x4 → Q (-9) h) ∧ (x4 ≤ 1 → I1 x0 x1 x2 x3 x4 0 h))) (k1 : ∀ (x0 x1 x2 x3 x4 x5 : Int) (h : fH), I1 x0 x1 x2 x3 x4 x5 h → ((1 < x5 → ∀ z6 : Int, z6 = wr (x4 + 1) → I0 x0 x1 x2 x3 z6 h) ∧ (x5 ≤ 1 → ∀ (v1 : Int) (h1 : fH), fS 126 [x0, x1, x2, x3, x4, x5] h v1 h1 → ∀ z7 : Int, z7 = wr (2 * x4) → ∀ z8 : Int, z8 = wr (v1 - z7) → ∀ z9 : Int, z9 = wr (1 - x4) → ∀ (v2 : Int) (h2 : fH), fS 126 [x0, x1, x2, x3, z9, x5] h1 v2 h2 → ∀ z11 : Int, z11 = wr (1 - x4) → ∀ z12 : Int, z12 = wr (2 * z11) → ∀ z13 : Int, z13 = wr (v2 - z12) → ((z8 < z13 → ∀ z14 : Int, z14 = wr (2 * x5) → ∀ z15 : Int, z15 = wr (v1 - z14) → ∀ z16 : Int, z16 = wr (1 - x5) → ∀ (v3 : Int) (h3 : fH), fS 126 [x0, x1, x2, x3, x4, z16] h2 v3 h3 → ∀ z18 : Int, z18 = wr (1 - x5) → ∀ z19 : Int, z19 = wr (2 * z18) → ∀ z20 : Int, z20 = wr (v3 - z19) → ((z15 < z20 → ∀ z21 : Int, z21 = wr (x5 + 1) → I1 x0 x1 x2 x3 x4 z21 h3) ∧ (z20 ≤ z15 → ∀ z21 : Int, z21 = wr (x5 + 1) → I1 x0 x1 x2 x3 x4 z21 h3))) ∧ (z13 ≤ z8 → ∀ z14 : Int, z14 = wr (2 * x5) → ∀ z15 : Int, z15 = wr (v1 - z14) → ∀ z16 : Int, z16 = wr (1 - x5) → ∀ (v3 : Int) (h3 : fH), fS 126 [x0, x1, x2, x3, x4, z16] h2 v3 h3 → ∀ z18 : Int, z18 = wr (1 - x5) → ∀ z19 : Int, z19 = wr (2 * z18) → ∀ z20 : Int, z20 = wr (v3 - z19) → ((z15 < z20 → ∀ z21 : Int, z21 = wr (x5 + 1) → I1 x0 x1 x2 x3 x4 z21 h3) ∧ (z20 ≤ z15 → ∀ z21 : Int, z21 = wr (10 * x4) → ∀ z22 : Int, z22 = wr (z21 + x5) → Q z22 h3))))))) : Q v h' := by
  refine x_mef vc_two_k hs (fun k l h => match k with
    | 0 => (match l with | [x0, x1, x2, x3, x4] => I0 x0 x1 x2 x3 x4 h | _ => False)
    | 1 => (match l with | [x0, x1, x2, x3, x4, x5] => I1 x0 x1 x2 x3 x4 x5 h | _ => False)
    | _ => False) Q h0 ?_
  intro i Ti hT vals h hi
  match i, hT, hi with
  | 0, hT, hi =>
    cases hT
    match vals, hi with
    | [x0, x1, x2, x3, x4], hi => exact k0 _ _ _ _ _ _ hi
    | [], hi => exact False.elim hi
    | [_], hi => exact False.elim hi
    | [_, _], hi => exact False.elim hi
    | [_, _, _], hi => exact False.elim hi
    | [_, _, _, _], hi => exact False.elim hi
    | _ :: _ :: _ :: _ :: _ :: _ :: _, hi => exact False.elim hi
  | 1, hT, hi =>
    cases hT
    match vals, hi with
    | [x0, x1, x2, x3, x4, x5], hi => exact k1 _ _ _ _ _ _ _ hi
    | [], hi => exact False.elim hi
    | [_], hi => exact False.elim hi
    | [_, _], hi => exact False.elim hi
    | [_, _, _], hi => exact False.elim hi
    | [_, _, _, _], hi => exact False.elim hi
    | [_, _, _, _, _], hi => exact False.elim hi
    | _ :: _ :: _ :: _ :: _ :: _ :: _ :: _, hi => exact False.elim hi
  | _ + 2, hT, _ => cases hT
