/-! the trees of the methods (made by a program) -/
def vr_betOf_T : xT := [(12, [.inl 0, .inl 1, .inl 2, .inr 1], 0, 0)]
def vr_betOf_T0 : xT := [(10, [.inl 3, .inr 10], 3, 1), (11, [.inr (-9)], 0, 0), (12, [.inl 0, .inl 1, .inl 2, .inl 3, .inr 0], 1, 0)]
def vr_betOf_T1 : xT := [(10, [.inl 4, .inr 10], 3, 2), (8, [.inl 3, .inr 1], 0, 0), (12, [.inl 0, .inl 1, .inl 2, .inl 5], 0, 0), (8, [.inl 4, .inr 2], 9, 0), (8, [.inl 4, .inr 2], 10, 0), (13, [.inl 0, .inl 1, .inl 2, .inl 5, .inl 6], 166, 0), (10, [.inl 7, .inr 0], 0, 2), (8, [.inl 4, .inr 1], 0, 0), (12, [.inl 0, .inl 1, .inl 2, .inl 3, .inl 8], 1, 0), (8, [.inl 4, .inr 2], 9, 0), (8, [.inl 4, .inr 2], 10, 0), (0, [.inl 0], 15, 0),
  (8, [.inl 10, .inl 3], 0, 0), (13, [.inl 0, .inl 8, .inl 9, .inl 11], 210, 0), (10, [.inl 12, .inr 0], 0, 2), (8, [.inl 4, .inr 1], 0, 0), (12, [.inl 0, .inl 1, .inl 2, .inl 3, .inl 13], 1, 0), (8, [.inl 4, .inr 2], 9, 0), (8, [.inr 100, .inl 13], 2, 0), (8, [.inl 4, .inr 2], 10, 0), (8, [.inr 10, .inl 15], 2, 0), (8, [.inl 14, .inl 16], 0, 0), (8, [.inl 17, .inl 3], 0, 0), (11, [.inl 18], 0, 0)]
theorem vr_betOf_k : x_chk 209 [(2, [(0, 0), (1, 0), (2, 0), (3, 0)]), (11, [(0, 0), (1, 0), (2, 0), (3, 0), (4, 0)])] vr_betOf_T [vr_betOf_T0, vr_betOf_T1] 600 = true := by decide +kernel
theorem vr_betOf {a0 a1 a2 v : Int} {h h' : fH} (hs : fS 209 [a0, a1, a2] h v h') (I0 : Int → Int → Int → Int → fH → Prop) (I1 : Int → Int → Int → Int → Int → fH → Prop) (Q : Int → fH → Prop) (h0 : I0 a0 a1 a2 1 h) (k0 : ∀ (x0 x1 x2 x3 : Int) (h : fH), I0 x0 x1 x2 x3 h → ((10 ≤ x3 → Q (-9) h) ∧ (x3 < 10 → I1 x0 x1 x2 x3 0 h))) (k1 : ∀ (x0 x1 x2 x3 x4 : Int) (h : fH), I1 x0 x1 x2 x3 x4 h → ((10 ≤ x4 → ∀ z5 : Int, z5 = wr (x3 + 1) → I0 x0 x1 x2 z5 h) ∧ (x4 < 10 → ∀ z5 : Int, z5 = xdiv x4 2 → ∀ z6 : Int, z6 = xrem x4 2 → ∀ (v1 : Int) (h1 : fH), fS 166 [x0, x1, x2, z5, z6] h v1 h1 → ((v1 = 0 → ∀ z8 : Int, z8 = wr (x4 + 1) → I1 x0 x1 x2 x3 z8 h1) ∧ (v1 ≠ 0 → ∀ z8 : Int, z8 = xdiv x4 2 → ∀ z9 : Int, z9 = xrem x4 2 → ∀ z10 : Int, z10 = h1 x0 15 → ∀ z11 : Int, z11 = wr (z10 + x3) → ∀ (v2 : Int) (h2 : fH), fS 210 [x0, z8, z9, z11] h1 v2 h2 → ((v2 = 0 → ∀ z13 : Int, z13 = wr (x4 + 1) → I1 x0 x1 x2 x3 z13 h2) ∧ (v2 ≠ 0 → ∀ z13 : Int, z13 = xdiv x4 2 → ∀ z14 : Int, z14 = wr (100 * z13) → ∀ z15 : Int, z15 = xrem x4 2 → ∀ z16 : Int, z16 = wr (10 * z15) → ∀ z17 : Int, z17 = wr (z14 + z16) → ∀ z18 : Int, z18 = wr (z17 + x3) → Q z18 h2))))))) : Q v h' := by
  refine x_mef vr_betOf_k hs (fun k l h => match k with
    | 0 => (match l with | [x0, x1, x2, x3] => I0 x0 x1 x2 x3 h | _ => False)
    | 1 => (match l with | [x0, x1, x2, x3, x4] => I1 x0 x1 x2 x3 x4 h | _ => False)
    | _ => False) Q h0 ?_
  intro i Ti hT vals h hi
  match i, hT, hi with
  | 0, hT, hi =>
    cases hT
    match vals, hi with
    | [x0, x1, x2, x3], hi => exact k0 _ _ _ _ _ hi
    | [], hi => exact False.elim hi
    | [_], hi => exact False.elim hi
    | [_, _], hi => exact False.elim hi
    | [_, _, _], hi => exact False.elim hi
    | _ :: _ :: _ :: _ :: _ :: _, hi => exact False.elim hi
  | 1, hT, hi =>
    cases hT
    match vals, hi with
    | [x0, x1, x2, x3, x4], hi => exact k1 _ _ _ _ _ _ hi
    | [], hi => exact False.elim hi
    | [_], hi => exact False.elim hi
    | [_, _], hi => exact False.elim hi
    | [_, _, _], hi => exact False.elim hi
    | [_, _, _, _], hi => exact False.elim hi
    | _ :: _ :: _ :: _ :: _ :: _ :: _, hi => exact False.elim hi
  | _ + 2, hT, _ => cases hT
def vr_isLost_T : xT := [(1, [.inr 279, .inl 1], 0, 0), (8, [.inl 3, .inl 4], 0, 0), (1, [.inr 278, .inl 1], 0, 0), (8, [.inl 5, .inl 6], 10, 0), (10, [.inl 7, .inr 0], 1, 3), (10, [.inl 2, .inr 1], 1, 1), (11, [.inr 0], 0, 0), (11, [.inr 1], 0, 0), (10, [.inl 2, .inr 1], 1, 1), (11, [.inr 1], 0, 0), (11, [.inr 0], 0, 0)]
theorem vr_isLost_k : x_chk 210 [] vr_isLost_T [] 600 = true := by decide +kernel
theorem vr_isLost {a0 a1 a2 a3 v : Int} {h h' : fH} (hs : fS 210 [a0, a1, a2, a3] h v h') (Q : Int → fH → Prop) (h0 : ∀ z4 : Int, z4 = h 279 a1 → ∀ z5 : Int, z5 = wr (a3 + z4) → ∀ z6 : Int, z6 = h 278 a1 → ∀ z7 : Int, z7 = xrem z5 z6 → ((z7 ≠ 0 → ((a2 ≠ 1 → Q 0 h) ∧ (a2 = 1 → Q 1 h))) ∧ (z7 = 0 → ((a2 ≠ 1 → Q 1 h) ∧ (a2 = 1 → Q 0 h))))) : Q v h' := by
  exact x_mef vr_isLost_k hs (fun _ _ _ => False) Q h0 (fun i Ti hT => by cases hT)
def vr_takers_T : xT := [(2, [.inl 0, .inr 0], 16, 0), (0, [.inl 0], 0, 0), (8, [.inl 4, .inr 1], 1, 0), (8, [.inl 1, .inr 0], 18, 0), (10, [.inl 6, .inr 0], 2, 5), (9, [.inr (-1)], 0, 0), (1, [.inr 285, .inl 7], 0, 0), (8, [.inl 8, .inr 1], 0, 0), (3, [.inr 285, .inl 7, .inl 9], 0, 0), (11, [.inr (-1)], 0, 0), (8, [.inl 1, .inl 5], 18, 0), (10, [.inl 7, .inr 0], 4, 5),
  (9, [.inr (-1)], 0, 0), (1, [.inr 285, .inl 8], 0, 0), (8, [.inl 9, .inr 1], 0, 0), (3, [.inr 285, .inl 8, .inl 10], 0, 0), (11, [.inr (-1)], 0, 0), (8, [.inl 2, .inr 0], 18, 0), (10, [.inl 8, .inr 0], 2, 5), (9, [.inr (-1)], 0, 0), (1, [.inr 285, .inl 9], 0, 0), (8, [.inl 10, .inr 1], 0, 0), (3, [.inr 285, .inl 9, .inl 11], 0, 0), (11, [.inr (-1)], 0, 0),
  (8, [.inl 2, .inr 4], 18, 0), (10, [.inl 9, .inr 0], 4, 5), (9, [.inr (-1)], 0, 0), (1, [.inr 285, .inl 10], 0, 0), (8, [.inl 11, .inr 1], 0, 0), (3, [.inr 285, .inl 10, .inl 12], 0, 0), (11, [.inr (-1)], 0, 0), (8, [.inl 3, .inr 0], 18, 0), (10, [.inl 10, .inr 0], 2, 5), (9, [.inr (-2)], 0, 0), (1, [.inr 285, .inl 11], 0, 0), (8, [.inl 12, .inr 1], 0, 0),
  (3, [.inr 285, .inl 11, .inl 13], 0, 0), (11, [.inr (-2)], 0, 0), (8, [.inl 3, .inr 1], 18, 0), (10, [.inl 11, .inr 0], 4, 5), (9, [.inr (-2)], 0, 0), (1, [.inr 285, .inl 12], 0, 0), (8, [.inl 13, .inr 1], 0, 0), (3, [.inr 285, .inl 12, .inl 14], 0, 0), (11, [.inr (-2)], 0, 0), (12, [.inl 0, .inl 1, .inl 2, .inl 3, .inr 0, .inr 0], 0, 0)]
def vr_takers_T0 : xT := [(0, [.inl 0], 0, 0), (10, [.inl 5, .inl 6], 3, 1), (11, [.inl 4], 0, 0), (10, [.inl 5, .inl 1], 0, 3), (8, [.inl 4, .inr 0], 4, 0), (8, [.inl 5, .inr 1], 0, 0), (12, [.inl 0, .inl 1, .inl 2, .inl 3, .inl 7, .inl 8], 0, 0), (13, [.inl 0, .inl 5, .inl 1, .inl 2, .inl 3], 169, 0), (10, [.inl 7, .inr 0], 0, 3), (8, [.inl 4, .inr 0], 4, 0), (8, [.inl 5, .inr 1], 0, 0), (12, [.inl 0, .inl 1, .inl 2, .inl 3, .inl 8, .inl 9], 0, 0),
  (8, [.inr 1, .inl 5], 6, 0), (8, [.inl 4, .inl 8], 4, 0), (8, [.inl 5, .inr 1], 0, 0), (12, [.inl 0, .inl 1, .inl 2, .inl 3, .inl 9, .inl 10], 0, 0)]
theorem vr_takers_k : x_chk 211 [(50, [(0, 0), (1, 0), (2, 0), (3, 0), (5, 0), (6, 0)])] vr_takers_T [vr_takers_T0] 600 = true := by decide +kernel
theorem vr_takers {a0 a1 a2 a3 v : Int} {h h' : fH} (hs : fS 211 [a0, a1, a2, a3] h v h') (I0 : Int → Int → Int → Int → Int → Int → fH → Prop) (Q : Int → fH → Prop) (h0 : ∀ h1 : fH, h1 = fu h a0 16 0 → ∀ z4 : Int, z4 = h1 a0 0 → ∀ z5 : Int, z5 = wr (z4 - 1) → ∀ z6 : Int, z6 = xlcmp a1 0 → ((z6 < 0 → ∀ z7 : Int, z7 = wr (-(-1)) → ∀ z8 : Int, z8 = h1 285 z7 → ∀ z9 : Int, z9 = wr (z8 + 1) → ∀ h2 : fH, h2 = fu h1 285 z7 z9 → Q (-1) h2) ∧ (0 ≤ z6 → ∀ z7 : Int, z7 = xlcmp a1 z5 → ((0 < z7 → ∀ z8 : Int, z8 = wr (-(-1)) → ∀ z9 : Int, z9 = h1 285 z8 → ∀ z10 : Int, z10 = wr (z9 + 1) → ∀ h2 : fH, h2 = fu h1 285 z8 z10 → Q (-1) h2) ∧ (z7 ≤ 0 → ∀ z8 : Int, z8 = xlcmp a2 0 → ((z8 < 0 → ∀ z9 : Int, z9 = wr (-(-1)) → ∀ z10 : Int, z10 = h1 285 z9 → ∀ z11 : Int, z11 = wr (z10 + 1) → ∀ h2 : fH, h2 = fu h1 285 z9 z11 → Q (-1) h2) ∧ (0 ≤ z8 → ∀ z9 : Int, z9 = xlcmp a2 4 → ((0 < z9 → ∀ z10 : Int, z10 = wr (-(-1)) → ∀ z11 : Int, z11 = h1 285 z10 → ∀ z12 : Int, z12 = wr (z11 + 1) → ∀ h2 : fH, h2 = fu h1 285 z10 z12 → Q (-1) h2) ∧ (z9 ≤ 0 → ∀ z10 : Int, z10 = xlcmp a3 0 → ((z10 < 0 → ∀ z11 : Int, z11 = wr (-(-2)) → ∀ z12 : Int, z12 = h1 285 z11 → ∀ z13 : Int, z13 = wr (z12 + 1) → ∀ h2 : fH, h2 = fu h1 285 z11 z13 → Q (-2) h2) ∧ (0 ≤ z10 → ∀ z11 : Int, z11 = xlcmp a3 1 → ((0 < z11 → ∀ z12 : Int, z12 = wr (-(-2)) → ∀ z13 : Int, z13 = h1 285 z12 → ∀ z14 : Int, z14 = wr (z13 + 1) → ∀ h2 : fH, h2 = fu h1 285 z12 z14 → Q (-2) h2) ∧ (z11 ≤ 0 → I0 a0 a1 a2 a3 0 0 h1))))))))))))) (k0 : ∀ (x0 x1 x2 x3 x5 x6 : Int) (h : fH), I0 x0 x1 x2 x3 x5 x6 h → ∀ z6 : Int, z6 = h x0 0 → ((z6 ≤ x6 → Q x5 h) ∧ (x6 < z6 → ((x6 = x1 → ∀ z7 : Int, z7 = xor' x5 0 → ∀ z8 : Int, z8 = wr (x6 + 1) → I0 x0 x1 x2 x3 z7 z8 h) ∧ (x6 ≠ x1 → ∀ (v1 : Int) (h1 : fH), fS 169 [x0, x6, x1, x2, x3] h v1 h1 → ((v1 = 0 → ∀ z8 : Int, z8 = xor' x5 0 → ∀ z9 : Int, z9 = wr (x6 + 1) → I0 x0 x1 x2 x3 z8 z9 h1) ∧ (v1 ≠ 0 → ∀ z8 : Int, z8 = xshl 1 x6 → ∀ z9 : Int, z9 = xor' x5 z8 → ∀ z10 : Int, z10 = wr (x6 + 1) → I0 x0 x1 x2 x3 z9 z10 h1))))))) : Q v h' := by
  refine x_mef vr_takers_k hs (fun k l h => match k with
    | 0 => (match l with | [x0, x1, x2, x3, x5, x6] => I0 x0 x1 x2 x3 x5 x6 h | _ => False)
    | _ => False) Q h0 ?_
  intro i Ti hT vals h hi
  match i, hT, hi with
  | 0, hT, hi =>
    cases hT
    match vals, hi with
    | [x0, x1, x2, x3, x5, x6], hi => exact k0 _ _ _ _ _ _ _ hi
    | [], hi => exact False.elim hi
    | [_], hi => exact False.elim hi
    | [_, _], hi => exact False.elim hi
    | [_, _, _], hi => exact False.elim hi
    | [_, _, _, _], hi => exact False.elim hi
    | [_, _, _, _, _], hi => exact False.elim hi
    | _ :: _ :: _ :: _ :: _ :: _ :: _ :: _, hi => exact False.elim hi
  | _ + 1, hT, _ => cases hT
def vr_wooers_T : xT := [(2, [.inl 0, .inr 0], 16, 0), (0, [.inl 0], 0, 0), (8, [.inl 2, .inr 1], 1, 0), (8, [.inl 1, .inr 0], 18, 0), (10, [.inl 4, .inr 0], 2, 5), (9, [.inr (-1)], 0, 0), (1, [.inr 285, .inl 5], 0, 0), (8, [.inl 6, .inr 1], 0, 0), (3, [.inr 285, .inl 5, .inl 7], 0, 0), (11, [.inr (-1)], 0, 0), (8, [.inl 1, .inl 3], 18, 0), (10, [.inl 5, .inr 0], 4, 5),
  (9, [.inr (-1)], 0, 0), (1, [.inr 285, .inl 6], 0, 0), (8, [.inl 7, .inr 1], 0, 0), (3, [.inr 285, .inl 6, .inl 8], 0, 0), (11, [.inr (-1)], 0, 0), (13, [.inl 0, .inl 1], 213, 0), (11, [.inl 6], 0, 0)]
theorem vr_wooers_k : x_chk 212 [] vr_wooers_T [] 600 = true := by decide +kernel
theorem vr_wooers {a0 a1 v : Int} {h h' : fH} (hs : fS 212 [a0, a1] h v h') (Q : Int → fH → Prop) (h0 : ∀ h1 : fH, h1 = fu h a0 16 0 → ∀ z2 : Int, z2 = h1 a0 0 → ∀ z3 : Int, z3 = wr (z2 - 1) → ∀ z4 : Int, z4 = xlcmp a1 0 → ((z4 < 0 → ∀ z5 : Int, z5 = wr (-(-1)) → ∀ z6 : Int, z6 = h1 285 z5 → ∀ z7 : Int, z7 = wr (z6 + 1) → ∀ h2 : fH, h2 = fu h1 285 z5 z7 → Q (-1) h2) ∧ (0 ≤ z4 → ∀ z5 : Int, z5 = xlcmp a1 z3 → ((0 < z5 → ∀ z6 : Int, z6 = wr (-(-1)) → ∀ z7 : Int, z7 = h1 285 z6 → ∀ z8 : Int, z8 = wr (z7 + 1) → ∀ h2 : fH, h2 = fu h1 285 z6 z8 → Q (-1) h2) ∧ (z5 ≤ 0 → ∀ (v2 : Int) (h2 : fH), fS 213 [a0, a1] h1 v2 h2 → Q v2 h2))))) : Q v h' := by
  exact x_mef vr_wooers_k hs (fun _ _ _ => False) Q h0 (fun i Ti hT => by cases hT)
def vr_wooersOf_T : xT := [(12, [.inl 0, .inl 1, .inr 0, .inr 0], 0, 0)]
def vr_wooersOf_T0 : xT := [(0, [.inl 0], 0, 0), (10, [.inl 3, .inl 4], 3, 1), (11, [.inl 2], 0, 0), (10, [.inl 3, .inl 1], 0, 3), (8, [.inl 2, .inr 0], 4, 0), (8, [.inl 3, .inr 1], 0, 0), (12, [.inl 0, .inl 1, .inl 5, .inl 6], 0, 0), (13, [.inl 0, .inl 3, .inl 1], 209, 0), (10, [.inl 5, .inr 0], 2, 3), (8, [.inl 2, .inr 0], 4, 0), (8, [.inl 3, .inr 1], 0, 0), (12, [.inl 0, .inl 1, .inl 6, .inl 7], 0, 0),
  (8, [.inr 1, .inl 3], 6, 0), (8, [.inl 2, .inl 6], 4, 0), (8, [.inl 3, .inr 1], 0, 0), (12, [.inl 0, .inl 1, .inl 7, .inl 8], 0, 0)]
theorem vr_wooersOf_k : x_chk 213 [(4, [(0, 0), (1, 0), (2, 0), (3, 0)])] vr_wooersOf_T [vr_wooersOf_T0] 600 = true := by decide +kernel
theorem vr_wooersOf {a0 a1 v : Int} {h h' : fH} (hs : fS 213 [a0, a1] h v h') (I0 : Int → Int → Int → Int → fH → Prop) (Q : Int → fH → Prop) (h0 : I0 a0 a1 0 0 h) (k0 : ∀ (x0 x1 x2 x3 : Int) (h : fH), I0 x0 x1 x2 x3 h → ∀ z4 : Int, z4 = h x0 0 → ((z4 ≤ x3 → Q x2 h) ∧ (x3 < z4 → ((x3 = x1 → ∀ z5 : Int, z5 = xor' x2 0 → ∀ z6 : Int, z6 = wr (x3 + 1) → I0 x0 x1 z5 z6 h) ∧ (x3 ≠ x1 → ∀ (v1 : Int) (h1 : fH), fS 209 [x0, x3, x1] h v1 h1 → ((v1 < 0 → ∀ z6 : Int, z6 = xor' x2 0 → ∀ z7 : Int, z7 = wr (x3 + 1) → I0 x0 x1 z6 z7 h1) ∧ (0 ≤ v1 → ∀ z6 : Int, z6 = xshl 1 x3 → ∀ z7 : Int, z7 = xor' x2 z6 → ∀ z8 : Int, z8 = wr (x3 + 1) → I0 x0 x1 z7 z8 h1))))))) : Q v h' := by
  refine x_mef vr_wooersOf_k hs (fun k l h => match k with
    | 0 => (match l with | [x0, x1, x2, x3] => I0 x0 x1 x2 x3 h | _ => False)
    | _ => False) Q h0 ?_
  intro i Ti hT vals h hi
  match i, hT, hi with
  | 0, hT, hi =>
    cases hT
    match vals, hi with
    | [x0, x1, x2, x3], hi => exact k0 _ _ _ _ _ hi
    | [], hi => exact False.elim hi
    | [_], hi => exact False.elim hi
    | [_, _], hi => exact False.elim hi
    | [_, _, _], hi => exact False.elim hi
    | _ :: _ :: _ :: _ :: _ :: _, hi => exact False.elim hi
  | _ + 1, hT, _ => cases hT
def vr_match_T : xT := [(2, [.inl 0, .inr 0], 16, 0), (0, [.inl 0], 0, 0), (8, [.inl 2, .inr 1], 1, 0), (8, [.inl 1, .inr (-1)], 18, 0), (10, [.inl 4, .inr 0], 2, 5), (9, [.inr (-1)], 0, 0), (1, [.inr 285, .inl 5], 0, 0), (8, [.inl 6, .inr 1], 0, 0), (3, [.inr 285, .inl 5, .inl 7], 0, 0), (11, [.inr (-1)], 0, 0), (8, [.inl 1, .inl 3], 18, 0), (10, [.inl 5, .inr 0], 4, 5),
  (9, [.inr (-1)], 0, 0), (1, [.inr 285, .inl 6], 0, 0), (8, [.inl 7, .inr 1], 0, 0), (3, [.inr 285, .inl 6, .inl 8], 0, 0), (11, [.inr (-1)], 0, 0), (13, [.inl 0], 215, 0), (12, [.inl 0, .inl 1, .inr 0, .inr (-9), .inr 0], 0, 0)]
def vr_match_T0 : xT := [(0, [.inl 0], 0, 0), (10, [.inl 4, .inl 5], 3, 4), (10, [.inl 1, .inr 0], 3, 1), (11, [.inl 3], 0, 0), (1, [.inr 294, .inr 0], 0, 0), (11, [.inl 6], 0, 0), (13, [.inl 0, .inl 4, .inl 2], 218, 0), (10, [.inl 4, .inl 1], 1, 32), (10, [.inl 6, .inl 1], 1, 10), (10, [.inl 6, .inr 0], 2, 3), (8, [.inl 2, .inr 0], 4, 0), (8, [.inl 4, .inr 1], 0, 0),
  (12, [.inl 0, .inl 1, .inl 7, .inl 3, .inl 8], 0, 0), (8, [.inr 1, .inl 6], 6, 0), (8, [.inr 1, .inl 4], 6, 0), (8, [.inl 7, .inl 8], 4, 0), (8, [.inl 2, .inl 9], 4, 0), (8, [.inl 4, .inr 1], 0, 0), (12, [.inl 0, .inl 1, .inl 10, .inl 3, .inl 11], 0, 0), (10, [.inl 6, .inr 0], 2, 10), (10, [.inl 6, .inr 0], 2, 3), (8, [.inl 2, .inr 0], 4, 0), (8, [.inl 4, .inr 1], 0, 0), (12, [.inl 0, .inl 1, .inl 7, .inl 3, .inl 8], 0, 0),
  (8, [.inr 1, .inl 6], 6, 0), (8, [.inr 1, .inl 4], 6, 0), (8, [.inl 7, .inl 8], 4, 0), (8, [.inl 2, .inl 9], 4, 0), (8, [.inl 4, .inr 1], 0, 0), (12, [.inl 0, .inl 1, .inl 10, .inl 3, .inl 11], 0, 0), (10, [.inl 6, .inr 0], 2, 3), (8, [.inl 2, .inr 0], 4, 0), (8, [.inl 4, .inr 1], 0, 0), (12, [.inl 0, .inl 1, .inl 7, .inl 4, .inl 8], 0, 0), (8, [.inr 1, .inl 6], 6, 0), (8, [.inr 1, .inl 4], 6, 0),
  (8, [.inl 7, .inl 8], 4, 0), (8, [.inl 2, .inl 9], 4, 0), (8, [.inl 4, .inr 1], 0, 0), (12, [.inl 0, .inl 1, .inl 10, .inl 4, .inl 11], 0, 0), (10, [.inl 6, .inr 0], 2, 32), (10, [.inl 6, .inl 1], 1, 10), (10, [.inl 6, .inr 0], 2, 3), (8, [.inl 2, .inr 0], 4, 0), (8, [.inl 4, .inr 1], 0, 0), (12, [.inl 0, .inl 1, .inl 7, .inl 3, .inl 8], 0, 0), (8, [.inr 1, .inl 6], 6, 0), (8, [.inr 1, .inl 4], 6, 0),
  (8, [.inl 7, .inl 8], 4, 0), (8, [.inl 2, .inl 9], 4, 0), (8, [.inl 4, .inr 1], 0, 0), (12, [.inl 0, .inl 1, .inl 10, .inl 3, .inl 11], 0, 0), (10, [.inl 6, .inr 0], 2, 10), (10, [.inl 6, .inr 0], 2, 3), (8, [.inl 2, .inr 0], 4, 0), (8, [.inl 4, .inr 1], 0, 0), (12, [.inl 0, .inl 1, .inl 7, .inl 3, .inl 8], 0, 0), (8, [.inr 1, .inl 6], 6, 0), (8, [.inr 1, .inl 4], 6, 0), (8, [.inl 7, .inl 8], 4, 0),
  (8, [.inl 2, .inl 9], 4, 0), (8, [.inl 4, .inr 1], 0, 0), (12, [.inl 0, .inl 1, .inl 10, .inl 3, .inl 11], 0, 0), (10, [.inl 6, .inr 0], 2, 3), (8, [.inl 2, .inr 0], 4, 0), (8, [.inl 4, .inr 1], 0, 0), (12, [.inl 0, .inl 1, .inl 7, .inl 4, .inl 8], 0, 0), (8, [.inr 1, .inl 6], 6, 0), (8, [.inr 1, .inl 4], 6, 0), (8, [.inl 7, .inl 8], 4, 0), (8, [.inl 2, .inl 9], 4, 0), (8, [.inl 4, .inr 1], 0, 0),
  (12, [.inl 0, .inl 1, .inl 10, .inl 4, .inl 11], 0, 0), (10, [.inl 6, .inr 0], 2, 3), (8, [.inl 2, .inr 0], 4, 0), (8, [.inl 4, .inr 1], 0, 0), (12, [.inl 0, .inl 1, .inl 7, .inl 6, .inl 8], 0, 0), (8, [.inr 1, .inl 6], 6, 0), (8, [.inr 1, .inl 4], 6, 0), (8, [.inl 7, .inl 8], 4, 0), (8, [.inl 2, .inl 9], 4, 0), (8, [.inl 4, .inr 1], 0, 0), (12, [.inl 0, .inl 1, .inl 10, .inl 6, .inl 11], 0, 0)]
theorem vr_match_k : x_chk 214 [(41, [(0, 0), (1, 0), (2, 0), (3, 0), (4, 0)])] vr_match_T [vr_match_T0] 600 = true := by decide +kernel
theorem vr_match {a0 a1 v : Int} {h h' : fH} (hs : fS 214 [a0, a1] h v h') (I0 : Int → Int → Int → Int → Int → fH → Prop) (Q : Int → fH → Prop) (h0 : ∀ h1 : fH, h1 = fu h a0 16 0 → ∀ z2 : Int, z2 = h1 a0 0 → ∀ z3 : Int, z3 = wr (z2 - 1) → ∀ z4 : Int, z4 = xlcmp a1 (-1) → ((z4 < 0 → ∀ z5 : Int, z5 = wr (-(-1)) → ∀ z6 : Int, z6 = h1 285 z5 → ∀ z7 : Int, z7 = wr (z6 + 1) → ∀ h2 : fH, h2 = fu h1 285 z5 z7 → Q (-1) h2) ∧ (0 ≤ z4 → ∀ z5 : Int, z5 = xlcmp a1 z3 → ((0 < z5 → ∀ z6 : Int, z6 = wr (-(-1)) → ∀ z7 : Int, z7 = h1 285 z6 → ∀ z8 : Int, z8 = wr (z7 + 1) → ∀ h2 : fH, h2 = fu h1 285 z6 z8 → Q (-1) h2) ∧ (z5 ≤ 0 → ∀ (v2 : Int) (h2 : fH), fS 215 [a0] h1 v2 h2 → I0 a0 a1 0 (-9) 0 h2))))) (k0 : ∀ (x0 x1 x2 x3 x4 : Int) (h : fH), I0 x0 x1 x2 x3 x4 h → ∀ z5 : Int, z5 = h x0 0 → ((z5 ≤ x4 → ((0 ≤ x1 → Q x3 h) ∧ (x1 < 0 → ∀ z6 : Int, z6 = h 294 0 → Q z6 h))) ∧ (x4 < z5 → ∀ (v1 : Int) (h1 : fH), fS 218 [x0, x4, x2] h v1 h1 → ((x4 ≠ x1 → ((v1 ≠ x1 → ((v1 < 0 → ∀ z7 : Int, z7 = xor' x2 0 → ∀ z8 : Int, z8 = wr (x4 + 1) → I0 x0 x1 z7 x3 z8 h1) ∧ (0 ≤ v1 → ∀ z7 : Int, z7 = xshl 1 v1 → ∀ z8 : Int, z8 = xshl 1 x4 → ∀ z9 : Int, z9 = xor' z7 z8 → ∀ z10 : Int, z10 = xor' x2 z9 → ∀ z11 : Int, z11 = wr (x4 + 1) → I0 x0 x1 z10 x3 z11 h1))) ∧ (v1 = x1 → ((v1 < 0 → ((v1 < 0 → ∀ z7 : Int, z7 = xor' x2 0 → ∀ z8 : Int, z8 = wr (x4 + 1) → I0 x0 x1 z7 x3 z8 h1) ∧ (0 ≤ v1 → ∀ z7 : Int, z7 = xshl 1 v1 → ∀ z8 : Int, z8 = xshl 1 x4 → ∀ z9 : Int, z9 = xor' z7 z8 → ∀ z10 : Int, z10 = xor' x2 z9 → ∀ z11 : Int, z11 = wr (x4 + 1) → I0 x0 x1 z10 x3 z11 h1))) ∧ (0 ≤ v1 → ((v1 < 0 → ∀ z7 : Int, z7 = xor' x2 0 → ∀ z8 : Int, z8 = wr (x4 + 1) → I0 x0 x1 z7 x4 z8 h1) ∧ (0 ≤ v1 → ∀ z7 : Int, z7 = xshl 1 v1 → ∀ z8 : Int, z8 = xshl 1 x4 → ∀ z9 : Int, z9 = xor' z7 z8 → ∀ z10 : Int, z10 = xor' x2 z9 → ∀ z11 : Int, z11 = wr (x4 + 1) → I0 x0 x1 z10 x4 z11 h1))))))) ∧ (x4 = x1 → ((v1 < 0 → ((v1 ≠ x1 → ((v1 < 0 → ∀ z7 : Int, z7 = xor' x2 0 → ∀ z8 : Int, z8 = wr (x4 + 1) → I0 x0 x1 z7 x3 z8 h1) ∧ (0 ≤ v1 → ∀ z7 : Int, z7 = xshl 1 v1 → ∀ z8 : Int, z8 = xshl 1 x4 → ∀ z9 : Int, z9 = xor' z7 z8 → ∀ z10 : Int, z10 = xor' x2 z9 → ∀ z11 : Int, z11 = wr (x4 + 1) → I0 x0 x1 z10 x3 z11 h1))) ∧ (v1 = x1 → ((v1 < 0 → ((v1 < 0 → ∀ z7 : Int, z7 = xor' x2 0 → ∀ z8 : Int, z8 = wr (x4 + 1) → I0 x0 x1 z7 x3 z8 h1) ∧ (0 ≤ v1 → ∀ z7 : Int, z7 = xshl 1 v1 → ∀ z8 : Int, z8 = xshl 1 x4 → ∀ z9 : Int, z9 = xor' z7 z8 → ∀ z10 : Int, z10 = xor' x2 z9 → ∀ z11 : Int, z11 = wr (x4 + 1) → I0 x0 x1 z10 x3 z11 h1))) ∧ (0 ≤ v1 → ((v1 < 0 → ∀ z7 : Int, z7 = xor' x2 0 → ∀ z8 : Int, z8 = wr (x4 + 1) → I0 x0 x1 z7 x4 z8 h1) ∧ (0 ≤ v1 → ∀ z7 : Int, z7 = xshl 1 v1 → ∀ z8 : Int, z8 = xshl 1 x4 → ∀ z9 : Int, z9 = xor' z7 z8 → ∀ z10 : Int, z10 = xor' x2 z9 → ∀ z11 : Int, z11 = wr (x4 + 1) → I0 x0 x1 z10 x4 z11 h1))))))) ∧ (0 ≤ v1 → ((v1 < 0 → ∀ z7 : Int, z7 = xor' x2 0 → ∀ z8 : Int, z8 = wr (x4 + 1) → I0 x0 x1 z7 v1 z8 h1) ∧ (0 ≤ v1 → ∀ z7 : Int, z7 = xshl 1 v1 → ∀ z8 : Int, z8 = xshl 1 x4 → ∀ z9 : Int, z9 = xor' z7 z8 → ∀ z10 : Int, z10 = xor' x2 z9 → ∀ z11 : Int, z11 = wr (x4 + 1) → I0 x0 x1 z10 v1 z11 h1))))))))) : Q v h' := by
  refine x_mef vr_match_k hs (fun k l h => match k with
    | 0 => (match l with | [x0, x1, x2, x3, x4] => I0 x0 x1 x2 x3 x4 h | _ => False)
    | _ => False) Q h0 ?_
  intro i Ti hT vals h hi
  match i, hT, hi with
  | 0, hT, hi =>
    cases hT
    match vals, hi with
    | [x0, x1, x2, x3, x4], hi => exact k0 _ _ _ _ _ _ hi
    | [], hi => exact False.elim hi
    | [_], hi => exact False.elim hi
    | [_, _], hi => exact False.elim hi
    | [_, _, _], hi => exact False.elim hi
    | [_, _, _, _], hi => exact False.elim hi
    | _ :: _ :: _ :: _ :: _ :: _ :: _, hi => exact False.elim hi
  | _ + 1, hT, _ => cases hT
def vr_layMatch_T : xT := [(12, [.inl 0, .inr 0], 0, 0)]
def vr_layMatch_T0 : xT := [(0, [.inl 0], 0, 0), (10, [.inl 1, .inl 2], 3, 4), (0, [.inl 0], 0, 0), (8, [.inr 128, .inl 3], 2, 0), (8, [.inl 4, .inr 127], 0, 0), (12, [.inl 0, .inl 5], 1, 0), (13, [.inl 0, .inl 1], 213, 0), (3, [.inr 295, .inl 1, .inl 3], 0, 0), (8, [.inl 1, .inr 1], 0, 0), (12, [.inl 0, .inl 4], 0, 0)]
def vr_layMatch_T1 : xT := [(10, [.inl 1, .inr 0], 2, 1), (11, [.inr 0], 0, 0), (8, [.inl 1, .inr 128], 9, 0), (8, [.inl 1, .inr 128], 10, 0), (0, [.inl 0], 0, 0), (10, [.inl 2, .inl 4], 1, 7), (8, [.inl 2, .inr 1], 0, 0), (8, [.inr 128, .inl 5], 2, 0), (8, [.inl 6, .inl 3], 0, 0), (1, [.inr 294, .inl 7], 0, 0), (3, [.inr 294, .inl 1, .inl 8], 0, 0), (8, [.inl 2, .inr 1], 0, 0),
  (12, [.inl 0, .inl 1, .inl 2, .inl 3, .inl 9], 2, 0), (3, [.inr 294, .inl 1, .inr 0], 0, 0), (8, [.inl 2, .inr 1], 0, 0), (12, [.inl 0, .inl 1, .inl 2, .inl 3, .inl 5], 2, 0)]
def vr_layMatch_T2 : xT := [(0, [.inl 0], 0, 0), (10, [.inl 4, .inl 5], 3, 2), (8, [.inl 1, .inr (-1)], 0, 0), (12, [.inl 0, .inl 6], 1, 0), (8, [.inl 3, .inl 2], 7, 0), (8, [.inl 6, .inr 1], 3, 0), (10, [.inl 7, .inr 1], 1, 51), (8, [.inl 3, .inl 4], 7, 0), (8, [.inl 8, .inr 1], 3, 0), (10, [.inl 9, .inr 1], 1, 46), (1, [.inr 295, .inl 2], 0, 0), (8, [.inl 10, .inl 4], 7, 0),
  (8, [.inl 11, .inr 1], 3, 0), (10, [.inl 12, .inr 1], 1, 24), (1, [.inr 295, .inl 4], 0, 0), (8, [.inl 13, .inl 2], 7, 0), (8, [.inl 14, .inr 1], 3, 0), (10, [.inl 15, .inr 1], 1, 2), (8, [.inl 4, .inr 1], 0, 0), (12, [.inl 0, .inl 1, .inl 2, .inl 3, .inl 16], 2, 0), (8, [.inl 2, .inr 1], 0, 0), (8, [.inr 128, .inl 16], 2, 0), (8, [.inr 1, .inl 4], 6, 0), (8, [.inl 3, .inl 18], 4, 0),
  (8, [.inr 1, .inl 2], 6, 0), (8, [.inl 19, .inl 20], 4, 0), (8, [.inl 17, .inl 21], 0, 0), (1, [.inr 294, .inl 22], 0, 0), (8, [.inr 1, .inl 23], 0, 0), (1, [.inr 294, .inl 1], 0, 0), (10, [.inl 24, .inl 25], 5, 4), (1, [.inr 294, .inl 1], 0, 0), (3, [.inr 294, .inl 1, .inl 26], 0, 0), (8, [.inl 4, .inr 1], 0, 0), (12, [.inl 0, .inl 1, .inl 2, .inl 3, .inl 27], 2, 0), (3, [.inr 294, .inl 1, .inl 24], 0, 0),
  (8, [.inl 4, .inr 1], 0, 0), (12, [.inl 0, .inl 1, .inl 2, .inl 3, .inl 26], 2, 0), (8, [.inl 2, .inr 1], 0, 0), (8, [.inr 128, .inl 13], 2, 0), (8, [.inr 1, .inl 4], 6, 0), (8, [.inl 3, .inl 15], 4, 0), (8, [.inr 1, .inl 2], 6, 0), (8, [.inl 16, .inl 17], 4, 0), (8, [.inl 14, .inl 18], 0, 0), (1, [.inr 294, .inl 19], 0, 0), (8, [.inr 1, .inl 20], 0, 0), (1, [.inr 294, .inl 1], 0, 0),
  (10, [.inl 21, .inl 22], 5, 4), (1, [.inr 294, .inl 1], 0, 0), (3, [.inr 294, .inl 1, .inl 23], 0, 0), (8, [.inl 4, .inr 1], 0, 0), (12, [.inl 0, .inl 1, .inl 2, .inl 3, .inl 24], 2, 0), (3, [.inr 294, .inl 1, .inl 21], 0, 0), (8, [.inl 4, .inr 1], 0, 0), (12, [.inl 0, .inl 1, .inl 2, .inl 3, .inl 23], 2, 0), (8, [.inl 4, .inr 1], 0, 0), (12, [.inl 0, .inl 1, .inl 2, .inl 3, .inl 10], 2, 0), (8, [.inl 4, .inr 1], 0, 0), (12, [.inl 0, .inl 1, .inl 2, .inl 3, .inl 8], 2, 0)]
theorem vr_layMatch_k : x_chk 215 [(2, [(0, 0), (1, 0)]), (39, [(0, 0), (1, 0)]), (92, [(0, 0), (1, 0), (2, 0), (3, 0), (4, 0)])] vr_layMatch_T [vr_layMatch_T0, vr_layMatch_T1, vr_layMatch_T2] 600 = true := by decide +kernel
theorem vr_layMatch {a0 v : Int} {h h' : fH} (hs : fS 215 [a0] h v h') (I0 : Int → Int → fH → Prop) (I1 : Int → Int → fH → Prop) (I2 : Int → Int → Int → Int → Int → fH → Prop) (Q : Int → fH → Prop) (h0 : I0 a0 0 h) (k0 : ∀ (x0 x1 : Int) (h : fH), I0 x0 x1 h → ∀ z2 : Int, z2 = h x0 0 → ((z2 ≤ x1 → ∀ z3 : Int, z3 = h x0 0 → ∀ z4 : Int, z4 = wr (128 * z3) → ∀ z5 : Int, z5 = wr (z4 + 127) → I1 x0 z5 h) ∧ (x1 < z2 → ∀ (v1 : Int) (h1 : fH), fS 213 [x0, x1] h v1 h1 → ∀ h2 : fH, h2 = fu h1 295 x1 v1 → ∀ z4 : Int, z4 = wr (x1 + 1) → I0 x0 z4 h2))) (k1 : ∀ (x0 x1 : Int) (h : fH), I1 x0 x1 h → ((x1 < 0 → Q 0 h) ∧ (0 ≤ x1 → ∀ z2 : Int, z2 = xdiv x1 128 → ∀ z3 : Int, z3 = xrem x1 128 → ∀ z4 : Int, z4 = h x0 0 → ((z2 ≠ z4 → ∀ z5 : Int, z5 = wr (z2 + 1) → ∀ z6 : Int, z6 = wr (128 * z5) → ∀ z7 : Int, z7 = wr (z6 + z3) → ∀ z8 : Int, z8 = h 294 z7 → ∀ h1 : fH, h1 = fu h 294 x1 z8 → ∀ z9 : Int, z9 = wr (z2 + 1) → I2 x0 x1 z2 z3 z9 h1) ∧ (z2 = z4 → ∀ h1 : fH, h1 = fu h 294 x1 0 → ∀ z5 : Int, z5 = wr (z2 + 1) → I2 x0 x1 z2 z3 z5 h1))))) (k2 : ∀ (x0 x1 x2 x3 x4 : Int) (h : fH), I2 x0 x1 x2 x3 x4 h → ∀ z5 : Int, z5 = h x0 0 → ((z5 ≤ x4 → ∀ z6 : Int, z6 = wr (x1 + (-1)) → I1 x0 z6 h) ∧ (x4 < z5 → ∀ z6 : Int, z6 = xshr x3 x2 → ∀ z7 : Int, z7 = xand z6 1 → ((z7 ≠ 1 → ∀ z8 : Int, z8 = xshr x3 x4 → ∀ z9 : Int, z9 = xand z8 1 → ((z9 ≠ 1 → ∀ z10 : Int, z10 = h 295 x2 → ∀ z11 : Int, z11 = xshr z10 x4 → ∀ z12 : Int, z12 = xand z11 1 → ((z12 ≠ 1 → ∀ z13 : Int, z13 = h 295 x4 → ∀ z14 : Int, z14 = xshr z13 x2 → ∀ z15 : Int, z15 = xand z14 1 → ((z15 ≠ 1 → ∀ z16 : Int, z16 = wr (x4 + 1) → I2 x0 x1 x2 x3 z16 h) ∧ (z15 = 1 → ∀ z16 : Int, z16 = wr (x2 + 1) → ∀ z17 : Int, z17 = wr (128 * z16) → ∀ z18 : Int, z18 = xshl 1 x4 → ∀ z19 : Int, z19 = xor' x3 z18 → ∀ z20 : Int, z20 = xshl 1 x2 → ∀ z21 : Int, z21 = xor' z19 z20 → ∀ z22 : Int, z22 = wr (z17 + z21) → ∀ z23 : Int, z23 = h 294 z22 → ∀ z24 : Int, z24 = wr (1 + z23) → ∀ z25 : Int, z25 = h 294 x1 → ((z24 ≤ z25 → ∀ z26 : Int, z26 = h 294 x1 → ∀ h1 : fH, h1 = fu h 294 x1 z26 → ∀ z27 : Int, z27 = wr (x4 + 1) → I2 x0 x1 x2 x3 z27 h1) ∧ (z25 < z24 → ∀ h1 : fH, h1 = fu h 294 x1 z24 → ∀ z26 : Int, z26 = wr (x4 + 1) → I2 x0 x1 x2 x3 z26 h1))))) ∧ (z12 = 1 → ∀ z13 : Int, z13 = wr (x2 + 1) → ∀ z14 : Int, z14 = wr (128 * z13) → ∀ z15 : Int, z15 = xshl 1 x4 → ∀ z16 : Int, z16 = xor' x3 z15 → ∀ z17 : Int, z17 = xshl 1 x2 → ∀ z18 : Int, z18 = xor' z16 z17 → ∀ z19 : Int, z19 = wr (z14 + z18) → ∀ z20 : Int, z20 = h 294 z19 → ∀ z21 : Int, z21 = wr (1 + z20) → ∀ z22 : Int, z22 = h 294 x1 → ((z21 ≤ z22 → ∀ z23 : Int, z23 = h 294 x1 → ∀ h1 : fH, h1 = fu h 294 x1 z23 → ∀ z24 : Int, z24 = wr (x4 + 1) → I2 x0 x1 x2 x3 z24 h1) ∧ (z22 < z21 → ∀ h1 : fH, h1 = fu h 294 x1 z21 → ∀ z23 : Int, z23 = wr (x4 + 1) → I2 x0 x1 x2 x3 z23 h1))))) ∧ (z9 = 1 → ∀ z10 : Int, z10 = wr (x4 + 1) → I2 x0 x1 x2 x3 z10 h))) ∧ (z7 = 1 → ∀ z8 : Int, z8 = wr (x4 + 1) → I2 x0 x1 x2 x3 z8 h))))) : Q v h' := by
  refine x_mef vr_layMatch_k hs (fun k l h => match k with
    | 0 => (match l with | [x0, x1] => I0 x0 x1 h | _ => False)
    | 1 => (match l with | [x0, x1] => I1 x0 x1 h | _ => False)
    | 2 => (match l with | [x0, x1, x2, x3, x4] => I2 x0 x1 x2 x3 x4 h | _ => False)
    | _ => False) Q h0 ?_
  intro i Ti hT vals h hi
  match i, hT, hi with
  | 0, hT, hi =>
    cases hT
    match vals, hi with
    | [x0, x1], hi => exact k0 _ _ _ hi
    | [], hi => exact False.elim hi
    | [_], hi => exact False.elim hi
    | _ :: _ :: _ :: _, hi => exact False.elim hi
  | 1, hT, hi =>
    cases hT
    match vals, hi with
    | [x0, x1], hi => exact k1 _ _ _ hi
    | [], hi => exact False.elim hi
    | [_], hi => exact False.elim hi
    | _ :: _ :: _ :: _, hi => exact False.elim hi
  | 2, hT, hi =>
    cases hT
    match vals, hi with
    | [x0, x1, x2, x3, x4], hi => exact k2 _ _ _ _ _ _ hi
    | [], hi => exact False.elim hi
    | [_], hi => exact False.elim hi
    | [_, _], hi => exact False.elim hi
    | [_, _, _], hi => exact False.elim hi
    | [_, _, _, _], hi => exact False.elim hi
    | _ :: _ :: _ :: _ :: _ :: _ :: _, hi => exact False.elim hi
  | _ + 3, hT, _ => cases hT
