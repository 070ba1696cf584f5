/-! the trees of the methods (made by a program) -/
def vc_shares_T : xT := [(10, [.inl 1, .inr 1], 3, 25), (10, [.inl 1, .inr 9], 5, 19), (10, [.inl 2, .inr 0], 2, 5), (9, [.inr (-2)], 0, 0), (1, [.inr 3, .inl 3], 0, 0), (8, [.inl 4, .inr 1], 0, 0), (3, [.inr 3, .inl 3, .inl 5], 0, 0), (11, [.inr (-2)], 0, 0), (10, [.inl 2, .inr 2], 3, 5), (9, [.inr (-2)], 0, 0), (1, [.inr 3, .inl 3], 0, 0), (8, [.inl 4, .inr 1], 0, 0),
  (3, [.inr 3, .inl 3, .inl 5], 0, 0), (11, [.inr (-2)], 0, 0), (10, [.inl 2, .inr 0], 1, 3), (13, [.inr 11, .inr 0], 80, 0), (8, [.inl 3, .inl 1], 10, 0), (11, [.inl 4], 0, 0), (13, [.inr 11, .inr 0], 80, 0), (8, [.inl 3, .inl 1], 9, 0), (11, [.inl 4], 0, 0), (9, [.inr (-6)], 0, 0), (1, [.inr 3, .inl 3], 0, 0), (8, [.inl 4, .inr 1], 0, 0),
  (3, [.inr 3, .inl 3, .inl 5], 0, 0), (11, [.inr (-6)], 0, 0), (9, [.inr (-4)], 0, 0), (1, [.inr 3, .inl 3], 0, 0), (8, [.inl 4, .inr 1], 0, 0), (3, [.inr 3, .inl 3, .inl 5], 0, 0), (11, [.inr (-4)], 0, 0)]
theorem vc_shares_k : x_chk 136 [] vc_shares_T [] 600 = true := by decide +kernel
theorem vc_shares {a0 a1 a2 v : Int} {h h' : fH} (hs : fS 136 [a0, a1, a2] h v h') (Q : Int → fH → Prop) (h0 : ((1 ≤ a1 → ((a1 ≤ 9 → ((a2 < 0 → ∀ z3 : Int, z3 = wr (-(-2)) → ∀ z4 : Int, z4 = h 3 z3 → ∀ z5 : Int, z5 = wr (z4 + 1) → ∀ h1 : fH, h1 = fu h 3 z3 z5 → Q (-2) h1) ∧ (0 ≤ a2 → ((2 ≤ a2 → ∀ z3 : Int, z3 = wr (-(-2)) → ∀ z4 : Int, z4 = h 3 z3 → ∀ z5 : Int, z5 = wr (z4 + 1) → ∀ h1 : fH, h1 = fu h 3 z3 z5 → Q (-2) h1) ∧ (a2 < 2 → ((a2 ≠ 0 → ∀ (v1 : Int) (h1 : fH), fS 80 [11, 0] h v1 h1 → ∀ z4 : Int, z4 = xrem v1 a1 → Q z4 h1) ∧ (a2 = 0 → ∀ (v1 : Int) (h1 : fH), fS 80 [11, 0] h v1 h1 → ∀ z4 : Int, z4 = xdiv v1 a1 → Q z4 h1))))))) ∧ (9 < a1 → ∀ z3 : Int, z3 = wr (-(-6)) → ∀ z4 : Int, z4 = h 3 z3 → ∀ z5 : Int, z5 = wr (z4 + 1) → ∀ h1 : fH, h1 = fu h 3 z3 z5 → Q (-6) h1))) ∧ (a1 < 1 → ∀ z3 : Int, z3 = wr (-(-4)) → ∀ z4 : Int, z4 = h 3 z3 → ∀ z5 : Int, z5 = wr (z4 + 1) → ∀ h1 : fH, h1 = fu h 3 z3 z5 → Q (-4) h1))) : Q v h' := by
  exact x_mef vc_shares_k hs (fun _ _ _ => False) Q h0 (fun i Ti hT => by cases hT)
def vc_lots_T : xT := [(10, [.inl 1, .inr 1], 3, 20), (10, [.inl 1, .inr 20], 5, 14), (10, [.inl 3, .inr 0], 2, 5), (9, [.inr (-2)], 0, 0), (1, [.inr 3, .inl 4], 0, 0), (8, [.inl 5, .inr 1], 0, 0), (3, [.inr 3, .inl 4, .inl 6], 0, 0), (11, [.inr (-2)], 0, 0), (10, [.inl 3, .inr 2], 3, 5), (9, [.inr (-2)], 0, 0), (1, [.inr 3, .inl 4], 0, 0), (8, [.inl 5, .inr 1], 0, 0),
  (3, [.inr 3, .inl 4, .inl 6], 0, 0), (11, [.inr (-2)], 0, 0), (13, [.inr 34, .inr 11], 23, 0), (12, [.inl 0, .inl 1, .inl 3, .inl 2, .inr 0, .inr 0], 0, 0), (9, [.inr (-6)], 0, 0), (1, [.inr 3, .inl 4], 0, 0), (8, [.inl 5, .inr 1], 0, 0), (3, [.inr 3, .inl 4, .inl 6], 0, 0), (11, [.inr (-6)], 0, 0), (9, [.inr (-4)], 0, 0), (1, [.inr 3, .inl 4], 0, 0), (8, [.inl 5, .inr 1], 0, 0),
  (3, [.inr 3, .inl 4, .inl 6], 0, 0), (11, [.inr (-4)], 0, 0)]
def vc_lots_T0 : xT := [(10, [.inl 5, .inl 1], 3, 1), (11, [.inl 4], 0, 0), (12, [.inl 0, .inl 1, .inl 2, .inl 3, .inl 4, .inl 5, .inr 0], 1, 0)]
def vc_lots_T1 : xT := [(10, [.inl 6, .inr 5], 3, 9), (10, [.inl 2, .inr 0], 1, 4), (13, [.inr 34, .inr 10], 80, 0), (8, [.inl 4, .inl 7], 0, 0), (8, [.inl 5, .inr 1], 0, 0), (12, [.inl 0, .inl 1, .inl 2, .inl 3, .inl 8, .inl 9], 0, 0), (13, [.inr 34, .inr 10], 91, 0), (8, [.inl 4, .inl 7], 0, 0), (8, [.inl 5, .inr 1], 0, 0), (12, [.inl 0, .inl 1, .inl 2, .inl 3, .inl 8, .inl 9], 0, 0), (8, [.inl 3, .inr 1103515245], 2, 0), (8, [.inl 7, .inr 12345], 0, 0),
  (8, [.inl 8, .inr 2147483647], 3, 0), (8, [.inl 9, .inr 65536], 9, 0), (8, [.inl 10, .inr 9], 10, 0), (3, [.inr 52, .inl 6, .inl 11], 0, 0), (8, [.inl 6, .inr 1], 0, 0), (12, [.inl 0, .inl 1, .inl 2, .inl 8, .inl 4, .inl 5, .inl 12], 1, 0)]
theorem vc_lots_k : x_chk 137 [(60, [(0, 0), (1, 0), (3, 0), (4, 0), (5, 0), (6, 0)]), (69, [(0, 0), (1, 0), (3, 0), (4, 0), (5, 0), (6, 0), (7, 0)])] vc_lots_T [vc_lots_T0, vc_lots_T1] 600 = true := by decide +kernel
theorem vc_lots {a0 a1 a2 a3 v : Int} {h h' : fH} (hs : fS 137 [a0, a1, a2, a3] h v h') (I0 : Int → Int → Int → Int → Int → Int → fH → Prop) (I1 : Int → Int → Int → Int → Int → Int → Int → fH → Prop) (Q : Int → fH → Prop) (h0 : ((1 ≤ a1 → ((a1 ≤ 20 → ((a3 < 0 → ∀ z4 : Int, z4 = wr (-(-2)) → ∀ z5 : Int, z5 = h 3 z4 → ∀ z6 : Int, z6 = wr (z5 + 1) → ∀ h1 : fH, h1 = fu h 3 z4 z6 → Q (-2) h1) ∧ (0 ≤ a3 → ((2 ≤ a3 → ∀ z4 : Int, z4 = wr (-(-2)) → ∀ z5 : Int, z5 = h 3 z4 → ∀ z6 : Int, z6 = wr (z5 + 1) → ∀ h1 : fH, h1 = fu h 3 z4 z6 → Q (-2) h1) ∧ (a3 < 2 → ∀ (v1 : Int) (h1 : fH), fS 23 [34, 11] h v1 h1 → I0 a0 a1 a3 a2 0 0 h1))))) ∧ (20 < a1 → ∀ z4 : Int, z4 = wr (-(-6)) → ∀ z5 : Int, z5 = h 3 z4 → ∀ z6 : Int, z6 = wr (z5 + 1) → ∀ h1 : fH, h1 = fu h 3 z4 z6 → Q (-6) h1))) ∧ (a1 < 1 → ∀ z4 : Int, z4 = wr (-(-4)) → ∀ z5 : Int, z5 = h 3 z4 → ∀ z6 : Int, z6 = wr (z5 + 1) → ∀ h1 : fH, h1 = fu h 3 z4 z6 → Q (-4) h1))) (k0 : ∀ (x0 x1 x3 x4 x5 x6 : Int) (h : fH), I0 x0 x1 x3 x4 x5 x6 h → ((x1 ≤ x6 → Q x5 h) ∧ (x6 < x1 → I1 x0 x1 x3 x4 x5 x6 0 h))) (k1 : ∀ (x0 x1 x3 x4 x5 x6 x7 : Int) (h : fH), I1 x0 x1 x3 x4 x5 x6 x7 h → ((5 ≤ x7 → ((x3 ≠ 0 → ∀ (v1 : Int) (h1 : fH), fS 80 [34, 10] h v1 h1 → ∀ z8 : Int, z8 = wr (x5 + v1) → ∀ z9 : Int, z9 = wr (x6 + 1) → I0 x0 x1 x3 x4 z8 z9 h1) ∧ (x3 = 0 → ∀ (v1 : Int) (h1 : fH), fS 91 [34, 10] h v1 h1 → ∀ z8 : Int, z8 = wr (x5 + v1) → ∀ z9 : Int, z9 = wr (x6 + 1) → I0 x0 x1 x3 x4 z8 z9 h1))) ∧ (x7 < 5 → ∀ z7 : Int, z7 = wr (x4 * 1103515245) → ∀ z8 : Int, z8 = wr (z7 + 12345) → ∀ z9 : Int, z9 = xand z8 2147483647 → ∀ z10 : Int, z10 = xdiv z9 65536 → ∀ z11 : Int, z11 = xrem z10 9 → ∀ h1 : fH, h1 = fu h 52 x7 z11 → ∀ z12 : Int, z12 = wr (x7 + 1) → I1 x0 x1 x3 z8 x5 x6 z12 h1))) : Q v h' := by
  refine x_mef vc_lots_k hs (fun k l h => match k with
    | 0 => (match l with | [x0, x1, x3, x4, x5, x6] => I0 x0 x1 x3 x4 x5 x6 h | _ => False)
    | 1 => (match l with | [x0, x1, x3, x4, x5, x6, x7] => I1 x0 x1 x3 x4 x5 x6 x7 h | _ => False)
    | _ => False) Q h0 ?_
  intro i Ti hT vals h hi
  match i, hT, hi with
  | 0, hT, hi =>
    cases hT
    match vals, hi with
    | [x0, x1, x3, x4, x5, x6], hi => exact k0 _ _ _ _ _ _ _ hi
    | [], hi => exact False.elim hi
    | [_], hi => exact False.elim hi
    | [_, _], hi => exact False.elim hi
    | [_, _, _], hi => exact False.elim hi
    | [_, _, _, _], hi => exact False.elim hi
    | [_, _, _, _, _], hi => exact False.elim hi
    | _ :: _ :: _ :: _ :: _ :: _ :: _ :: _, hi => exact False.elim hi
  | 1, hT, hi =>
    cases hT
    match vals, hi with
    | [x0, x1, x3, x4, x5, x6, x7], hi => exact k1 _ _ _ _ _ _ _ _ hi
    | [], hi => exact False.elim hi
    | [_], hi => exact False.elim hi
    | [_, _], hi => exact False.elim hi
    | [_, _, _], hi => exact False.elim hi
    | [_, _, _, _], hi => exact False.elim hi
    | [_, _, _, _, _], hi => exact False.elim hi
    | [_, _, _, _, _, _], hi => exact False.elim hi
    | _ :: _ :: _ :: _ :: _ :: _ :: _ :: _ :: _, hi => exact False.elim hi
  | _ + 2, hT, _ => cases hT
def vc_saddest_T : xT := [(10, [.inl 1, .inr 0], 0, 2), (13, [.inl 0], 139, 0), (11, [.inl 2], 0, 0), (10, [.inl 1, .inr 1], 0, 2), (13, [.inl 0, .inr 0], 140, 0), (11, [.inl 2], 0, 0), (10, [.inl 1, .inr 2], 0, 2), (13, [.inr 11], 141, 0), (11, [.inl 2], 0, 0), (9, [.inr (-2)], 0, 0), (1, [.inr 3, .inl 2], 0, 0), (8, [.inl 3, .inr 1], 0, 0),
  (3, [.inr 3, .inl 2, .inl 4], 0, 0), (11, [.inr (-2)], 0, 0)]
theorem vc_saddest_k : x_chk 138 [] vc_saddest_T [] 600 = true := by decide +kernel
theorem vc_saddest {a0 a1 v : Int} {h h' : fH} (hs : fS 138 [a0, a1] h v h') (Q : Int → fH → Prop) (h0 : ((a1 = 0 → ∀ (v1 : Int) (h1 : fH), fS 139 [a0] h v1 h1 → Q v1 h1) ∧ (a1 ≠ 0 → ((a1 = 1 → ∀ (v1 : Int) (h1 : fH), fS 140 [a0, 0] h v1 h1 → Q v1 h1) ∧ (a1 ≠ 1 → ((a1 = 2 → ∀ (v1 : Int) (h1 : fH), fS 141 [11] h v1 h1 → Q v1 h1) ∧ (a1 ≠ 2 → ∀ z2 : Int, z2 = wr (-(-2)) → ∀ z3 : Int, z3 = h 3 z2 → ∀ z4 : Int, z4 = wr (z3 + 1) → ∀ h1 : fH, h1 = fu h 3 z2 z4 → Q (-2) h1))))))) : Q v h' := by
  exact x_mef vc_saddest_k hs (fun _ _ _ => False) Q h0 (fun i Ti hT => by cases hT)
def vc_whoHasMostTears_T : xT := [(12, [.inl 0, .inr (-9), .inr 0], 0, 0)]
def vc_whoHasMostTears_T0 : xT := [(0, [.inr 11], 1, 0), (10, [.inl 2, .inl 3], 3, 1), (11, [.inl 1], 0, 0), (10, [.inl 1, .inr (-9)], 0, 2), (8, [.inl 2, .inr 1], 0, 0), (12, [.inl 0, .inl 2, .inl 4], 0, 0), (1, [.inr 18, .inl 2], 0, 0), (1, [.inr 18, .inl 1], 0, 0), (10, [.inl 4, .inl 5], 5, 2), (8, [.inl 2, .inr 1], 0, 0), (12, [.inl 0, .inl 1, .inl 6], 0, 0), (8, [.inl 2, .inr 1], 0, 0),
  (12, [.inl 0, .inl 2, .inl 6], 0, 0)]
theorem vc_whoHasMostTears_k : x_chk 139 [(5, [(0, 0), (1, 0), (2, 0)])] vc_whoHasMostTears_T [vc_whoHasMostTears_T0] 600 = true := by decide +kernel
theorem vc_whoHasMostTears {a0 v : Int} {h h' : fH} (hs : fS 139 [a0] h v h') (I0 : Int → Int → Int → fH → Prop) (Q : Int → fH → Prop) (h0 : I0 a0 (-9) 0 h) (k0 : ∀ (x0 x1 x2 : Int) (h : fH), I0 x0 x1 x2 h → ∀ z3 : Int, z3 = h 11 1 → ((z3 ≤ x2 → Q x1 h) ∧ (x2 < z3 → ((x1 = (-9) → ∀ z4 : Int, z4 = wr (x2 + 1) → I0 x0 x2 z4 h) ∧ (x1 ≠ (-9) → ∀ z4 : Int, z4 = h 18 x2 → ∀ z5 : Int, z5 = h 18 x1 → ((z4 ≤ z5 → ∀ z6 : Int, z6 = wr (x2 + 1) → I0 x0 x1 z6 h) ∧ (z5 < z4 → ∀ z6 : Int, z6 = wr (x2 + 1) → I0 x0 x2 z6 h))))))) : Q v h' := by
  refine x_mef vc_whoHasMostTears_k hs (fun k l h => match k with
    | 0 => (match l with | [x0, x1, x2] => I0 x0 x1 x2 h | _ => False)
    | _ => False) Q h0 ?_
  intro i Ti hT vals h hi
  match i, hT, hi with
  | 0, hT, hi =>
    cases hT
    match vals, hi with
    | [x0, x1, x2], hi => exact k0 _ _ _ _ hi
    | [], hi => exact False.elim hi
    | [_], hi => exact False.elim hi
    | [_, _], hi => exact False.elim hi
    | _ :: _ :: _ :: _ :: _, hi => exact False.elim hi
  | _ + 1, hT, _ => cases hT
def vc_twosWhoWishEachOther_T : xT := [(12, [.inl 0, .inl 1, .inr 0, .inr 0], 0, 0)]
def vc_twosWhoWishEachOther_T0 : xT := [(0, [.inr 11], 1, 0), (10, [.inl 3, .inl 4], 3, 1), (11, [.inl 2], 0, 0), (1, [.inr 17, .inl 3], 0, 0), (10, [.inl 5, .inl 3], 5, 2), (8, [.inl 3, .inr 1], 0, 0), (12, [.inl 0, .inl 1, .inl 2, .inl 6], 0, 0), (0, [.inr 11], 1, 0), (10, [.inl 5, .inl 6], 3, 2), (8, [.inl 3, .inr 1], 0, 0), (12, [.inl 0, .inl 1, .inl 2, .inl 7], 0, 0), (1, [.inr 17, .inl 5], 0, 0),
  (10, [.inl 7, .inl 3], 1, 2), (8, [.inl 3, .inr 1], 0, 0), (12, [.inl 0, .inl 1, .inl 2, .inl 8], 0, 0), (10, [.inl 1, .inr 0], 0, 3), (8, [.inl 2, .inr 1], 0, 0), (8, [.inl 3, .inr 1], 0, 0), (12, [.inl 0, .inl 1, .inl 8, .inl 9], 0, 0), (1, [.inr 19, .inl 3], 0, 0), (10, [.inl 8, .inl 5], 1, 2), (8, [.inl 3, .inr 1], 0, 0), (12, [.inl 0, .inl 1, .inl 2, .inl 9], 0, 0), (8, [.inl 2, .inr 1], 0, 0),
  (8, [.inl 3, .inr 1], 0, 0), (12, [.inl 0, .inl 1, .inl 9, .inl 10], 0, 0)]
theorem vc_twosWhoWishEachOther_k : x_chk 140 [(4, [(0, 0), (1, 0), (2, 0), (3, 0)])] vc_twosWhoWishEachOther_T [vc_twosWhoWishEachOther_T0] 600 = true := by decide +kernel
theorem vc_twosWhoWishEachOther {a0 a1 v : Int} {h h' : fH} (hs : fS 140 [a0, a1] h v h') (I0 : Int → Int → Int → Int → fH → Prop) (Q : Int → fH → Prop) (h0 : I0 a0 a1 0 0 h) (k0 : ∀ (x0 x1 x2 x3 : Int) (h : fH), I0 x0 x1 x2 x3 h → ∀ z4 : Int, z4 = h 11 1 → ((z4 ≤ x3 → Q x2 h) ∧ (x3 < z4 → ∀ z5 : Int, z5 = h 17 x3 → ((z5 ≤ x3 → ∀ z6 : Int, z6 = wr (x3 + 1) → I0 x0 x1 x2 z6 h) ∧ (x3 < z5 → ∀ z6 : Int, z6 = h 11 1 → ((z6 ≤ z5 → ∀ z7 : Int, z7 = wr (x3 + 1) → I0 x0 x1 x2 z7 h) ∧ (z5 < z6 → ∀ z7 : Int, z7 = h 17 z5 → ((z7 ≠ x3 → ∀ z8 : Int, z8 = wr (x3 + 1) → I0 x0 x1 x2 z8 h) ∧ (z7 = x3 → ((x1 = 0 → ∀ z8 : Int, z8 = wr (x2 + 1) → ∀ z9 : Int, z9 = wr (x3 + 1) → I0 x0 x1 z8 z9 h) ∧ (x1 ≠ 0 → ∀ z8 : Int, z8 = h 19 x3 → ((z8 ≠ z5 → ∀ z9 : Int, z9 = wr (x3 + 1) → I0 x0 x1 x2 z9 h) ∧ (z8 = z5 → ∀ z9 : Int, z9 = wr (x2 + 1) → ∀ z10 : Int, z10 = wr (x3 + 1) → I0 x0 x1 z9 z10 h))))))))))))) : Q v h' := by
  refine x_mef vc_twosWhoWishEachOther_k hs (fun k l h => match k with
    | 0 => (match l with | [x0, x1, x2, x3] => I0 x0 x1 x2 x3 h | _ => False)
    | _ => False) Q h0 ?_
  intro i Ti hT vals h hi
  match i, hT, hi with
  | 0, hT, hi =>
    cases hT
    match vals, hi with
    | [x0, x1, x2, x3], hi => exact k0 _ _ _ _ _ hi
    | [], hi => exact False.elim hi
    | [_], hi => exact False.elim hi
    | [_, _], hi => exact False.elim hi
    | [_, _, _], hi => exact False.elim hi
    | _ :: _ :: _ :: _ :: _ :: _, hi => exact False.elim hi
  | _ + 1, hT, _ => cases hT
def vt_freeBits_T : xT := [(12, [.inl 0, .inr 0, .inr 0], 0, 0)]
def vt_freeBits_T0 : xT := [(0, [.inl 0], 1, 0), (10, [.inl 2, .inl 3], 3, 1), (11, [.inl 1], 0, 0), (13, [.inl 0, .inl 2], 57, 0), (10, [.inl 4, .inr 0], 0, 2), (8, [.inl 2, .inr 1], 0, 0), (12, [.inl 0, .inl 1, .inl 5], 0, 0), (8, [.inr 1, .inl 2], 6, 0), (8, [.inl 1, .inl 5], 4, 0), (8, [.inl 2, .inr 1], 0, 0), (12, [.inl 0, .inl 6, .inl 7], 0, 0)]
theorem vt_freeBits_k : x_chk 141 [(4, [(0, 0), (1, 0), (2, 0)])] vt_freeBits_T [vt_freeBits_T0] 600 = true := by decide +kernel
theorem vt_freeBits {a0 v : Int} {h h' : fH} (hs : fS 141 [a0] h v h') (I0 : Int → Int → Int → fH → Prop) (Q : Int → fH → Prop) (h0 : I0 a0 0 0 h) (k0 : ∀ (x0 x1 x2 : Int) (h : fH), I0 x0 x1 x2 h → ∀ z3 : Int, z3 = h x0 1 → ((z3 ≤ x2 → Q x1 h) ∧ (x2 < z3 → ∀ (v1 : Int) (h1 : fH), fS 57 [x0, x2] h v1 h1 → ((v1 = 0 → ∀ z5 : Int, z5 = wr (x2 + 1) → I0 x0 x1 z5 h1) ∧ (v1 ≠ 0 → ∀ z5 : Int, z5 = xshl 1 x2 → ∀ z6 : Int, z6 = xor' x1 z5 → ∀ z7 : Int, z7 = wr (x2 + 1) → I0 x0 z6 z7 h1))))) : Q v h' := by
  refine x_mef vt_freeBits_k hs (fun k l h => match k with
    | 0 => (match l with | [x0, x1, x2] => I0 x0 x1 x2 h | _ => False)
    | _ => False) Q h0 ?_
  intro i Ti hT vals h hi
  match i, hT, hi with
  | 0, hT, hi =>
    cases hT
    match vals, hi with
    | [x0, x1, x2], hi => exact k0 _ _ _ _ hi
    | [], hi => exact False.elim hi
    | [_], hi => exact False.elim hi
    | [_, _], hi => exact False.elim hi
    | _ :: _ :: _ :: _ :: _, hi => exact False.elim hi
  | _ + 1, hT, _ => cases hT
def vc_wished_T : xT := [(10, [.inl 1, .inr 0], 2, 5), (9, [.inr (-1)], 0, 0), (1, [.inr 3, .inl 2], 0, 0), (8, [.inl 3, .inr 1], 0, 0), (3, [.inr 3, .inl 2, .inl 4], 0, 0), (11, [.inr (-1)], 0, 0), (0, [.inr 11], 1, 0), (10, [.inl 1, .inl 2], 3, 5), (9, [.inr (-1)], 0, 0), (1, [.inr 3, .inl 3], 0, 0), (8, [.inl 4, .inr 1], 0, 0), (3, [.inr 3, .inl 3, .inl 5], 0, 0),
  (11, [.inr (-1)], 0, 0), (12, [.inl 0, .inl 1, .inr 0, .inr 0], 0, 0)]
def vc_wished_T0 : xT := [(0, [.inr 11], 1, 0), (10, [.inl 3, .inl 4], 3, 1), (11, [.inl 2], 0, 0), (10, [.inl 3, .inl 1], 0, 2), (8, [.inl 3, .inr 1], 0, 0), (12, [.inl 0, .inl 1, .inl 2, .inl 5], 0, 0), (1, [.inr 17, .inl 3], 0, 0), (10, [.inl 5, .inl 1], 1, 2), (8, [.inl 3, .inr 1], 0, 0), (12, [.inl 0, .inl 1, .inl 2, .inl 6], 0, 0), (8, [.inl 2, .inr 1], 0, 0), (8, [.inl 3, .inr 1], 0, 0),
  (12, [.inl 0, .inl 1, .inl 6, .inl 7], 0, 0)]
theorem vc_wished_k : x_chk 142 [(21, [(0, 0), (1, 0), (2, 0), (3, 0)])] vc_wished_T [vc_wished_T0] 600 = true := by decide +kernel
theorem vc_wished {a0 a1 v : Int} {h h' : fH} (hs : fS 142 [a0, a1] h v h') (I0 : Int → Int → Int → Int → fH → Prop) (Q : Int → fH → Prop) (h0 : ((a1 < 0 → ∀ z2 : Int, z2 = wr (-(-1)) → ∀ z3 : Int, z3 = h 3 z2 → ∀ z4 : Int, z4 = wr (z3 + 1) → ∀ h1 : fH, h1 = fu h 3 z2 z4 → Q (-1) h1) ∧ (0 ≤ a1 → ∀ z2 : Int, z2 = h 11 1 → ((z2 ≤ a1 → ∀ z3 : Int, z3 = wr (-(-1)) → ∀ z4 : Int, z4 = h 3 z3 → ∀ z5 : Int, z5 = wr (z4 + 1) → ∀ h1 : fH, h1 = fu h 3 z3 z5 → Q (-1) h1) ∧ (a1 < z2 → I0 a0 a1 0 0 h))))) (k0 : ∀ (x0 x1 x2 x3 : Int) (h : fH), I0 x0 x1 x2 x3 h → ∀ z4 : Int, z4 = h 11 1 → ((z4 ≤ x3 → Q x2 h) ∧ (x3 < z4 → ((x3 = x1 → ∀ z5 : Int, z5 = wr (x3 + 1) → I0 x0 x1 x2 z5 h) ∧ (x3 ≠ x1 → ∀ z5 : Int, z5 = h 17 x3 → ((z5 ≠ x1 → ∀ z6 : Int, z6 = wr (x3 + 1) → I0 x0 x1 x2 z6 h) ∧ (z5 = x1 → ∀ z6 : Int, z6 = wr (x2 + 1) → ∀ z7 : Int, z7 = wr (x3 + 1) → I0 x0 x1 z6 z7 h))))))) : Q v h' := by
  refine x_mef vc_wished_k hs (fun k l h => match k with
    | 0 => (match l with | [x0, x1, x2, x3] => I0 x0 x1 x2 x3 h | _ => False)
    | _ => False) Q h0 ?_
  intro i Ti hT vals h hi
  match i, hT, hi with
  | 0, hT, hi =>
    cases hT
    match vals, hi with
    | [x0, x1, x2, x3], hi => exact k0 _ _ _ _ _ hi
    | [], hi => exact False.elim hi
    | [_], hi => exact False.elim hi
    | [_, _], hi => exact False.elim hi
    | [_, _, _], hi => exact False.elim hi
    | _ :: _ :: _ :: _ :: _ :: _, hi => exact False.elim hi
  | _ + 1, hT, _ => cases hT
def vc_scorn_T : xT := [(10, [.inl 1, .inr 0], 2, 5), (9, [.inr (-1)], 0, 0), (1, [.inr 3, .inl 2], 0, 0), (8, [.inl 3, .inr 1], 0, 0), (3, [.inr 3, .inl 2, .inl 4], 0, 0), (11, [.inr (-1)], 0, 0), (10, [.inl 1, .inr 5], 3, 5), (9, [.inr (-1)], 0, 0), (1, [.inr 3, .inl 2], 0, 0), (8, [.inl 3, .inr 1], 0, 0), (3, [.inr 3, .inl 2, .inl 4], 0, 0), (11, [.inr (-1)], 0, 0),
  (12, [.inl 0, .inl 1, .inr 0, .inr 0], 0, 0)]
def vc_scorn_T0 : xT := [(0, [.inr 11], 1, 0), (10, [.inl 3, .inl 4], 3, 1), (11, [.inl 2], 0, 0), (5, [.inr 20, .inl 3], 0, 1), (1, [.inl 5, .inl 1], 0, 0), (10, [.inl 6, .inr 0], 0, 3), (8, [.inl 2, .inr 1], 0, 0), (8, [.inl 3, .inr 1], 0, 0), (12, [.inl 0, .inl 1, .inl 7, .inl 8], 0, 0), (10, [.inl 6, .inr 9], 1, 2), (8, [.inl 3, .inr 1], 0, 0), (12, [.inl 0, .inl 1, .inl 2, .inl 7], 0, 0),
  (8, [.inl 2, .inr 1], 0, 0), (8, [.inl 3, .inr 1], 0, 0), (12, [.inl 0, .inl 1, .inl 7, .inl 8], 0, 0)]
theorem vc_scorn_k : x_chk 143 [(17, [(0, 0), (1, 0), (2, 0), (3, 0)])] vc_scorn_T [vc_scorn_T0] 600 = true := by decide +kernel
theorem vc_scorn {a0 a1 v : Int} {h h' : fH} (hs : fS 143 [a0, a1] h v h') (I0 : Int → Int → Int → Int → fH → Prop) (Q : Int → fH → Prop) (h0 : ((a1 < 0 → ∀ z2 : Int, z2 = wr (-(-1)) → ∀ z3 : Int, z3 = h 3 z2 → ∀ z4 : Int, z4 = wr (z3 + 1) → ∀ h1 : fH, h1 = fu h 3 z2 z4 → Q (-1) h1) ∧ (0 ≤ a1 → ((5 ≤ a1 → ∀ z2 : Int, z2 = wr (-(-1)) → ∀ z3 : Int, z3 = h 3 z2 → ∀ z4 : Int, z4 = wr (z3 + 1) → ∀ h1 : fH, h1 = fu h 3 z2 z4 → Q (-1) h1) ∧ (a1 < 5 → I0 a0 a1 0 0 h))))) (k0 : ∀ (x0 x1 x2 x3 : Int) (h : fH), I0 x0 x1 x2 x3 h → ∀ z4 : Int, z4 = h 11 1 → ((z4 ≤ x3 → Q x2 h) ∧ (x3 < z4 → ∀ z5 : Int, z5 = 20 + 1 + 1 * x3 → ∀ z6 : Int, z6 = h z5 x1 → ((z6 = 0 → ∀ z7 : Int, z7 = wr (x2 + 1) → ∀ z8 : Int, z8 = wr (x3 + 1) → I0 x0 x1 z7 z8 h) ∧ (z6 ≠ 0 → ((z6 ≠ 9 → ∀ z7 : Int, z7 = wr (x3 + 1) → I0 x0 x1 x2 z7 h) ∧ (z6 = 9 → ∀ z7 : Int, z7 = wr (x2 + 1) → ∀ z8 : Int, z8 = wr (x3 + 1) → I0 x0 x1 z7 z8 h))))))) : Q v h' := by
  refine x_mef vc_scorn_k hs (fun k l h => match k with
    | 0 => (match l with | [x0, x1, x2, x3] => I0 x0 x1 x2 x3 h | _ => False)
    | _ => False) Q h0 ?_
  intro i Ti hT vals h hi
  match i, hT, hi with
  | 0, hT, hi =>
    cases hT
    match vals, hi with
    | [x0, x1, x2, x3], hi => exact k0 _ _ _ _ _ hi
    | [], hi => exact False.elim hi
    | [_], hi => exact False.elim hi
    | [_, _], hi => exact False.elim hi
    | [_, _, _], hi => exact False.elim hi
    | _ :: _ :: _ :: _ :: _ :: _, hi => exact False.elim hi
  | _ + 1, hT, _ => cases hT
def vc_left_T : xT := [(10, [.inl 1, .inr 0], 0, 2), (13, [.inl 0], 145, 0), (11, [.inl 2], 0, 0), (10, [.inl 1, .inr 1], 0, 2), (13, [.inl 0], 146, 0), (11, [.inl 2], 0, 0), (10, [.inl 1, .inr 2], 0, 2), (13, [.inl 0], 147, 0), (11, [.inl 2], 0, 0), (10, [.inl 1, .inr 3], 0, 2), (13, [.inl 0, .inr 1], 140, 0), (11, [.inl 2], 0, 0),
  (10, [.inl 1, .inr 4], 0, 2), (13, [.inl 0], 148, 0), (11, [.inl 2], 0, 0), (9, [.inr (-2)], 0, 0), (1, [.inr 3, .inl 2], 0, 0), (8, [.inl 3, .inr 1], 0, 0), (3, [.inr 3, .inl 2, .inl 4], 0, 0), (11, [.inr (-2)], 0, 0)]
theorem vc_left_k : x_chk 144 [] vc_left_T [] 600 = true := by decide +kernel
theorem vc_left {a0 a1 v : Int} {h h' : fH} (hs : fS 144 [a0, a1] h v h') (Q : Int → fH → Prop) (h0 : ((a1 = 0 → ∀ (v1 : Int) (h1 : fH), fS 145 [a0] h v1 h1 → Q v1 h1) ∧ (a1 ≠ 0 → ((a1 = 1 → ∀ (v1 : Int) (h1 : fH), fS 146 [a0] h v1 h1 → Q v1 h1) ∧ (a1 ≠ 1 → ((a1 = 2 → ∀ (v1 : Int) (h1 : fH), fS 147 [a0] h v1 h1 → Q v1 h1) ∧ (a1 ≠ 2 → ((a1 = 3 → ∀ (v1 : Int) (h1 : fH), fS 140 [a0, 1] h v1 h1 → Q v1 h1) ∧ (a1 ≠ 3 → ((a1 = 4 → ∀ (v1 : Int) (h1 : fH), fS 148 [a0] h v1 h1 → Q v1 h1) ∧ (a1 ≠ 4 → ∀ z2 : Int, z2 = wr (-(-2)) → ∀ z3 : Int, z3 = h 3 z2 → ∀ z4 : Int, z4 = wr (z3 + 1) → ∀ h1 : fH, h1 = fu h 3 z2 z4 → Q (-2) h1))))))))))) : Q v h' := by
  exact x_mef vc_left_k hs (fun _ _ _ => False) Q h0 (fun i Ti hT => by cases hT)
def vc_daysOfLastWager_T : xT := [(12, [.inl 0, .inr 0, .inr 0], 0, 0)]
def vc_daysOfLastWager_T0 : xT := [(0, [.inr 11], 14, 0), (10, [.inl 2, .inl 3], 3, 1), (11, [.inl 1], 0, 0), (1, [.inr 30, .inl 2], 0, 0), (0, [.inl 4], 4, 0), (8, [.inl 1, .inl 5], 11, 0), (8, [.inl 2, .inr 1], 0, 0), (12, [.inl 0, .inl 6, .inl 7], 0, 0)]
theorem vc_daysOfLastWager_k : x_chk 145 [(4, [(0, 0), (1, 0), (2, 0)])] vc_daysOfLastWager_T [vc_daysOfLastWager_T0] 600 = true := by decide +kernel
theorem vc_daysOfLastWager {a0 v : Int} {h h' : fH} (hs : fS 145 [a0] h v h') (I0 : Int → Int → Int → fH → Prop) (Q : Int → fH → Prop) (h0 : I0 a0 0 0 h) (k0 : ∀ (x0 x1 x2 : Int) (h : fH), I0 x0 x1 x2 h → ∀ z3 : Int, z3 = h 11 14 → ((z3 ≤ x2 → Q x1 h) ∧ (x2 < z3 → ∀ z4 : Int, z4 = h 30 x2 → ∀ z5 : Int, z5 = h z4 4 → ∀ z6 : Int, z6 = xmax x1 z5 → ∀ z7 : Int, z7 = wr (x2 + 1) → I0 x0 z6 z7 h))) : Q v h' := by
  refine x_mef vc_daysOfLastWager_k hs (fun k l h => match k with
    | 0 => (match l with | [x0, x1, x2] => I0 x0 x1 x2 h | _ => False)
    | _ => False) Q h0 ?_
  intro i Ti hT vals h hi
  match i, hT, hi with
  | 0, hT, hi =>
    cases hT
    match vals, hi with
    | [x0, x1, x2], hi => exact k0 _ _ _ _ hi
    | [], hi => exact False.elim hi
    | [_], hi => exact False.elim hi
    | [_, _], hi => exact False.elim hi
    | _ :: _ :: _ :: _ :: _, hi => exact False.elim hi
  | _ + 1, hT, _ => cases hT
def vc_longestChasteRun_T : xT := [(12, [.inl 0, .inr 0, .inr 0, .inr 1], 0, 0)]
def vc_longestChasteRun_T0 : xT := [(10, [.inl 3, .inr 60], 4, 1), (11, [.inl 1], 0, 0), (13, [.inr 11, .inl 3], 91, 0), (8, [.inl 3, .inr 1], 1, 0), (13, [.inr 11, .inl 5], 91, 0), (10, [.inl 4, .inl 6], 5, 4), (8, [.inl 2, .inr 1], 0, 0), (8, [.inl 1, .inl 7], 11, 0), (8, [.inl 3, .inr 1], 0, 0), (12, [.inl 0, .inl 8, .inl 7, .inl 9], 0, 0), (8, [.inl 1, .inr 0], 11, 0), (8, [.inl 3, .inr 1], 0, 0),
  (12, [.inl 0, .inl 7, .inr 0, .inl 8], 0, 0)]
theorem vc_longestChasteRun_k : x_chk 146 [(6, [(0, 0), (1, 0), (2, 0), (3, 0)])] vc_longestChasteRun_T [vc_longestChasteRun_T0] 600 = true := by decide +kernel
theorem vc_longestChasteRun {a0 v : Int} {h h' : fH} (hs : fS 146 [a0] h v h') (I0 : Int → Int → Int → Int → fH → Prop) (Q : Int → fH → Prop) (h0 : I0 a0 0 0 1 h) (k0 : ∀ (x0 x1 x2 x3 : Int) (h : fH), I0 x0 x1 x2 x3 h → ((60 < x3 → Q x1 h) ∧ (x3 ≤ 60 → ∀ (v1 : Int) (h1 : fH), fS 91 [11, x3] h v1 h1 → ∀ z5 : Int, z5 = wr (x3 - 1) → ∀ (v2 : Int) (h2 : fH), fS 91 [11, z5] h1 v2 h2 → ((v1 ≤ v2 → ∀ z7 : Int, z7 = wr (x2 + 1) → ∀ z8 : Int, z8 = xmax x1 z7 → ∀ z9 : Int, z9 = wr (x3 + 1) → I0 x0 z8 z7 z9 h2) ∧ (v2 < v1 → ∀ z7 : Int, z7 = xmax x1 0 → ∀ z8 : Int, z8 = wr (x3 + 1) → I0 x0 z7 0 z8 h2))))) : Q v h' := by
  refine x_mef vc_longestChasteRun_k hs (fun k l h => match k with
    | 0 => (match l with | [x0, x1, x2, x3] => I0 x0 x1 x2 x3 h | _ => False)
    | _ => False) Q h0 ?_
  intro i Ti hT vals h hi
  match i, hT, hi with
  | 0, hT, hi =>
    cases hT
    match vals, hi with
    | [x0, x1, x2, x3], hi => exact k0 _ _ _ _ _ hi
    | [], hi => exact False.elim hi
    | [_], hi => exact False.elim hi
    | [_, _], hi => exact False.elim hi
    | [_, _, _], hi => exact False.elim hi
    | _ :: _ :: _ :: _ :: _ :: _, hi => exact False.elim hi
  | _ + 1, hT, _ => cases hT
def vc_eventsToday_T : xT := [(12, [.inl 0, .inr 0, .inr 0], 0, 0)]
def vc_eventsToday_T0 : xT := [(10, [.inl 2, .inr 5], 3, 1), (11, [.inl 1], 0, 0), (0, [.inr 11], 15, 0), (1, [.inr 29, .inl 2], 0, 0), (8, [.inl 3, .inl 4], 0, 0), (1, [.inr 28, .inl 2], 0, 0), (8, [.inl 5, .inl 6], 10, 0), (10, [.inl 7, .inr 0], 1, 2), (8, [.inl 2, .inr 1], 0, 0), (12, [.inl 0, .inl 1, .inl 8], 0, 0), (8, [.inr 1, .inl 2], 6, 0), (8, [.inl 1, .inl 8], 4, 0),
  (8, [.inl 2, .inr 1], 0, 0), (12, [.inl 0, .inl 9, .inl 10], 0, 0)]
theorem vc_eventsToday_k : x_chk 147 [(4, [(0, 0), (1, 0), (2, 0)])] vc_eventsToday_T [vc_eventsToday_T0] 600 = true := by decide +kernel
theorem vc_eventsToday {a0 v : Int} {h h' : fH} (hs : fS 147 [a0] h v h') (I0 : Int → Int → Int → fH → Prop) (Q : Int → fH → Prop) (h0 : I0 a0 0 0 h) (k0 : ∀ (x0 x1 x2 : Int) (h : fH), I0 x0 x1 x2 h → ((5 ≤ x2 → Q x1 h) ∧ (x2 < 5 → ∀ z3 : Int, z3 = h 11 15 → ∀ z4 : Int, z4 = h 29 x2 → ∀ z5 : Int, z5 = wr (z3 + z4) → ∀ z6 : Int, z6 = h 28 x2 → ∀ z7 : Int, z7 = xrem z5 z6 → ((z7 ≠ 0 → ∀ z8 : Int, z8 = wr (x2 + 1) → I0 x0 x1 z8 h) ∧ (z7 = 0 → ∀ z8 : Int, z8 = xshl 1 x2 → ∀ z9 : Int, z9 = xor' x1 z8 → ∀ z10 : Int, z10 = wr (x2 + 1) → I0 x0 z9 z10 h))))) : Q v h' := by
  refine x_mef vc_eventsToday_k hs (fun k l h => match k with
    | 0 => (match l with | [x0, x1, x2] => I0 x0 x1 x2 h | _ => False)
    | _ => False) Q h0 ?_
  intro i Ti hT vals h hi
  match i, hT, hi with
  | 0, hT, hi =>
    cases hT
    match vals, hi with
    | [x0, x1, x2], hi => exact k0 _ _ _ _ hi
    | [], hi => exact False.elim hi
    | [_], hi => exact False.elim hi
    | [_, _], hi => exact False.elim hi
    | _ :: _ :: _ :: _ :: _, hi => exact False.elim hi
  | _ + 1, hT, _ => cases hT
