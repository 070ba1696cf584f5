/-! the trees of the methods (made by a program) -/
def vc_feed_T : xT := [(10, [.inl 1, .inr 0], 3, 20), (10, [.inl 1, .inr 255], 4, 5), (9, [.inr (-6)], 0, 0), (1, [.inr 3, .inl 2], 0, 0), (8, [.inl 3, .inr 1], 0, 0), (3, [.inr 3, .inl 2, .inl 4], 0, 0), (11, [.inr (-6)], 0, 0), (0, [.inr 266], 1, 0), (10, [.inl 2, .inr 96], 2, 7), (0, [.inr 266], 1, 0), (3, [.inr 267, .inl 3, .inl 1], 0, 0), (0, [.inr 266], 1, 0),
  (8, [.inl 4, .inr 1], 0, 0), (2, [.inr 266, .inl 5], 1, 0), (0, [.inr 266], 1, 0), (11, [.inl 6], 0, 0), (9, [.inr (-6)], 0, 0), (1, [.inr 3, .inl 3], 0, 0), (8, [.inl 4, .inr 1], 0, 0), (3, [.inr 3, .inl 3, .inl 5], 0, 0), (11, [.inr (-6)], 0, 0), (9, [.inr (-4)], 0, 0), (1, [.inr 3, .inl 2], 0, 0), (8, [.inl 3, .inr 1], 0, 0),
  (3, [.inr 3, .inl 2, .inl 4], 0, 0), (11, [.inr (-4)], 0, 0)]
theorem vc_feed_k : x_chk 12 [] vc_feed_T [] 600 = true := by decide +kernel
theorem vc_feed {a0 a1 v : Int} {h h' : fH} (hs : fS 12 [a0, a1] h v h') (Q : Int → fH → Prop) (h0 : ((0 ≤ a1 → ((255 < a1 → ∀ z2 : Int, z2 = wr (-(-6)) → ∀ z3 : Int, z3 = h 3 z2 → ∀ z4 : Int, z4 = wr (z3 + 1) → ∀ h1 : fH, h1 = fu h 3 z2 z4 → Q (-6) h1) ∧ (a1 ≤ 255 → ∀ z2 : Int, z2 = h 266 1 → ((z2 < 96 → ∀ z3 : Int, z3 = h 266 1 → ∀ h1 : fH, h1 = fu h 267 z3 a1 → ∀ z4 : Int, z4 = h1 266 1 → ∀ z5 : Int, z5 = wr (z4 + 1) → ∀ h2 : fH, h2 = fu h1 266 1 z5 → ∀ z6 : Int, z6 = h2 266 1 → Q z6 h2) ∧ (96 ≤ z2 → ∀ z3 : Int, z3 = wr (-(-6)) → ∀ z4 : Int, z4 = h 3 z3 → ∀ z5 : Int, z5 = wr (z4 + 1) → ∀ h1 : fH, h1 = fu h 3 z3 z5 → Q (-6) h1))))) ∧ (a1 < 0 → ∀ z2 : Int, z2 = wr (-(-4)) → ∀ z3 : Int, z3 = h 3 z2 → ∀ z4 : Int, z4 = wr (z3 + 1) → ∀ h1 : fH, h1 = fu h 3 z2 z4 → Q (-4) h1))) : Q v h' := by
  exact x_mef vc_feed_k hs (fun _ _ _ => False) Q h0 (fun i Ti hT => by cases hT)
def vc_town_T : xT := [(13, [.inr 266], 17, 0), (10, [.inl 1, .inr 0], 2, 2), (13, [.inr 34, .inr 11], 23, 0), (12, [.inl 0, .inr 0, .inr 0], 0, 0), (2, [.inr 266, .inr 0], 1, 0), (8, [.inr (-1000), .inl 1], 1, 0), (11, [.inl 2], 0, 0)]
def vc_town_T0 : xT := [(0, [.inr 266], 1, 0), (10, [.inl 2, .inl 3], 3, 9), (0, [.inr 266], 1, 0), (10, [.inl 2, .inl 4], 2, 3), (2, [.inr 266, .inr 0], 1, 0), (8, [.inr (-2000), .inl 2], 1, 0), (11, [.inl 5], 0, 0), (2, [.inr 266, .inr 0], 1, 0), (13, [.inr 11, .inr 34], 23, 0), (2, [.inr 80, .inr 0], 2, 0), (11, [.inl 1], 0, 0), (13, [.inl 0, .inl 2], 26, 0),
  (10, [.inl 4, .inr 0], 0, 9), (0, [.inr 266], 1, 0), (10, [.inl 2, .inl 5], 2, 3), (2, [.inr 266, .inr 0], 1, 0), (8, [.inr (-2000), .inl 2], 1, 0), (11, [.inl 6], 0, 0), (2, [.inr 266, .inr 0], 1, 0), (13, [.inr 11, .inr 34], 23, 0), (2, [.inr 80, .inr 0], 2, 0), (11, [.inl 1], 0, 0), (8, [.inl 1, .inr 1], 0, 0), (13, [.inr 266, .inl 2], 18, 0),
  (13, [.inl 6], 19, 0), (8, [.inr 2, .inl 7], 0, 0), (8, [.inl 2, .inl 8], 0, 0), (12, [.inl 0, .inl 5, .inl 9], 0, 0)]
theorem vc_town_k : x_chk 16 [(40, [(0, 0), (2, 0), (3, 0)])] vc_town_T [vc_town_T0] 600 = true := by decide +kernel
theorem vc_town {a0 v : Int} {h h' : fH} (hs : fS 16 [a0] h v h') (I0 : Int → Int → Int → fH → Prop) (Q : Int → fH → Prop) (h0 : ∀ (v1 : Int) (h1 : fH), fS 17 [266] h v1 h1 → ((v1 < 0 → ∀ (v2 : Int) (h2 : fH), fS 23 [34, 11] h1 v2 h2 → I0 a0 0 0 h2) ∧ (0 ≤ v1 → ∀ h2 : fH, h2 = fu h1 266 1 0 → ∀ z2 : Int, z2 = wr ((-1000) - v1) → Q z2 h2))) (k0 : ∀ (x0 x2 x3 : Int) (h : fH), I0 x0 x2 x3 h → ∀ z3 : Int, z3 = h 266 1 → ((z3 ≤ x3 → ∀ z4 : Int, z4 = h 266 1 → ((x3 < z4 → ∀ h1 : fH, h1 = fu h 266 1 0 → ∀ z5 : Int, z5 = wr ((-2000) - x3) → Q z5 h1) ∧ (z4 ≤ x3 → ∀ h1 : fH, h1 = fu h 266 1 0 → ∀ (v2 : Int) (h2 : fH), fS 23 [11, 34] h1 v2 h2 → ∀ h3 : fH, h3 = fu h2 80 2 0 → Q x2 h3))) ∧ (x3 < z3 → ∀ (v1 : Int) (h1 : fH), fS 26 [x0, x3] h v1 h1 → ((v1 = 0 → ∀ z5 : Int, z5 = h1 266 1 → ((x3 < z5 → ∀ h2 : fH, h2 = fu h1 266 1 0 → ∀ z6 : Int, z6 = wr ((-2000) - x3) → Q z6 h2) ∧ (z5 ≤ x3 → ∀ h2 : fH, h2 = fu h1 266 1 0 → ∀ (v3 : Int) (h3 : fH), fS 23 [11, 34] h2 v3 h3 → ∀ h4 : fH, h4 = fu h3 80 2 0 → Q x2 h4))) ∧ (v1 ≠ 0 → ∀ z5 : Int, z5 = wr (x2 + 1) → ∀ (v2 : Int) (h2 : fH), fS 18 [266, x3] h1 v2 h2 → ∀ (v3 : Int) (h3 : fH), fS 19 [v2] h2 v3 h3 → ∀ z8 : Int, z8 = wr (2 + v3) → ∀ z9 : Int, z9 = wr (x3 + z8) → I0 x0 z5 z9 h3))))) : Q v h' := by
  refine x_mef vc_town_k hs (fun k l h => match k with
    | 0 => (match l with | [x0, x2, x3] => I0 x0 x2 x3 h | _ => False)
    | _ => False) Q h0 ?_
  intro i Ti hT vals h hi
  match i, hT, hi with
  | 0, hT, hi =>
    cases hT
    match vals, hi with
    | [x0, x2, x3], hi => exact k0 _ _ _ _ hi
    | [], hi => exact False.elim hi
    | [_], hi => exact False.elim hi
    | [_, _], hi => exact False.elim hi
    | _ :: _ :: _ :: _ :: _, hi => exact False.elim hi
  | _ + 1, hT, _ => cases hT
def vl_firstBadPlace_T : xT := [(12, [.inl 0, .inr 0], 0, 0)]
def vl_firstBadPlace_T0 : xT := [(13, [.inl 0, .inl 1], 18, 0), (13, [.inl 2], 19, 0), (10, [.inl 3, .inr 0], 3, 2), (8, [.inl 1, .inr 1], 0, 0), (12, [.inl 0, .inl 4, .inl 3, .inr 0], 1, 0), (11, [.inl 1], 0, 0)]
def vl_firstBadPlace_T1 : xT := [(10, [.inl 3, .inl 2], 3, 8), (13, [.inl 0, .inl 1], 18, 0), (10, [.inl 4, .inr 59], 0, 5), (8, [.inl 1, .inr 1], 0, 0), (0, [.inl 0], 1, 0), (10, [.inl 5, .inl 6], 2, 1), (12, [.inl 0, .inl 5], 0, 0), (11, [.inr (-9)], 0, 0), (11, [.inl 1], 0, 0), (13, [.inl 0, .inl 1], 20, 0), (10, [.inl 4, .inr 0], 2, 1), (11, [.inl 1], 0, 0),
  (10, [.inl 4, .inr 10], 3, 1), (11, [.inl 1], 0, 0), (8, [.inl 1, .inr 1], 0, 0), (8, [.inl 3, .inr 1], 0, 0), (12, [.inl 0, .inl 5, .inl 2, .inl 6], 1, 0)]
theorem vl_firstBadPlace_k : x_chk 17 [(2, [(0, 0), (1, 0)]), (22, [(0, 0), (1, 0), (2, 0), (3, 0)])] vl_firstBadPlace_T [vl_firstBadPlace_T0, vl_firstBadPlace_T1] 600 = true := by decide +kernel
theorem vl_firstBadPlace {a0 v : Int} {h h' : fH} (hs : fS 17 [a0] h v h') (I0 : Int → Int → fH → Prop) (I1 : Int → Int → Int → Int → fH → Prop) (Q : Int → fH → Prop) (h0 : I0 a0 0 h) (k0 : ∀ (x0 x1 : Int) (h : fH), I0 x0 x1 h → ∀ (v1 : Int) (h1 : fH), fS 18 [x0, x1] h v1 h1 → ∀ (v2 : Int) (h2 : fH), fS 19 [v1] h1 v2 h2 → ((0 ≤ v2 → ∀ z4 : Int, z4 = wr (x1 + 1) → I1 x0 z4 v2 0 h2) ∧ (v2 < 0 → Q x1 h2))) (k1 : ∀ (x0 x1 x2 x3 : Int) (h : fH), I1 x0 x1 x2 x3 h → ((x2 ≤ x3 → ∀ (v1 : Int) (h1 : fH), fS 18 [x0, x1] h v1 h1 → ((v1 = 59 → ∀ z5 : Int, z5 = wr (x1 + 1) → ∀ z6 : Int, z6 = h1 x0 1 → ((z5 < z6 → I0 x0 z5 h1) ∧ (z6 ≤ z5 → Q (-9) h1))) ∧ (v1 ≠ 59 → Q x1 h1))) ∧ (x3 < x2 → ∀ (v1 : Int) (h1 : fH), fS 20 [x0, x1] h v1 h1 → ((v1 < 0 → Q x1 h1) ∧ (0 ≤ v1 → ((10 ≤ v1 → Q x1 h1) ∧ (v1 < 10 → ∀ z5 : Int, z5 = wr (x1 + 1) → ∀ z6 : Int, z6 = wr (x3 + 1) → I1 x0 z5 x2 z6 h1))))))) : Q v h' := by
  refine x_mef vl_firstBadPlace_k hs (fun k l h => match k with
    | 0 => (match l with | [x0, x1] => I0 x0 x1 h | _ => False)
    | 1 => (match l with | [x0, x1, x2, x3] => I1 x0 x1 x2 x3 h | _ => False)
    | _ => False) Q h0 ?_
  intro i Ti hT vals h hi
  match i, hT, hi with
  | 0, hT, hi =>
    cases hT
    match vals, hi with
    | [x0, x1], hi => exact k0 _ _ _ hi
    | [], hi => exact False.elim hi
    | [_], hi => exact False.elim hi
    | _ :: _ :: _ :: _, hi => exact False.elim hi
  | 1, hT, hi =>
    cases hT
    match vals, hi with
    | [x0, x1, x2, x3], hi => exact k1 _ _ _ _ _ hi
    | [], hi => exact False.elim hi
    | [_], hi => exact False.elim hi
    | [_, _], hi => exact False.elim hi
    | [_, _, _], hi => exact False.elim hi
    | _ :: _ :: _ :: _ :: _ :: _, hi => exact False.elim hi
  | _ + 2, hT, _ => cases hT
def vl_at_T : xT := [(10, [.inl 1, .inr 0], 2, 1), (11, [.inr (-1)], 0, 0), (0, [.inl 0], 1, 0), (10, [.inl 1, .inl 2], 3, 1), (11, [.inr (-1)], 0, 0), (1, [.inr 267, .inl 1], 0, 0), (11, [.inl 3], 0, 0)]
theorem vl_at_k : x_chk 18 [] vl_at_T [] 600 = true := by decide +kernel
theorem vl_at {a0 a1 v : Int} {h h' : fH} (hs : fS 18 [a0, a1] h v h') (Q : Int → fH → Prop) (h0 : ((a1 < 0 → Q (-1) h) ∧ (0 ≤ a1 → ∀ z2 : Int, z2 = h a0 1 → ((z2 ≤ a1 → Q (-1) h) ∧ (a1 < z2 → ∀ z3 : Int, z3 = h 267 a1 → Q z3 h))))) : Q v h' := by
  exact x_mef vl_at_k hs (fun _ _ _ => False) Q h0 (fun i Ti hT => by cases hT)
def vl_digitsBehind_T : xT := [(10, [.inl 0, .inr 97], 0, 1), (11, [.inr 5], 0, 0), (10, [.inl 0, .inr 98], 0, 1), (11, [.inr 3], 0, 0), (10, [.inl 0, .inr 100], 0, 1), (11, [.inr 2], 0, 0), (10, [.inl 0, .inr 101], 0, 1), (11, [.inr 3], 0, 0), (10, [.inl 0, .inr 112], 0, 1), (11, [.inr 2], 0, 0), (10, [.inl 0, .inr 119], 0, 1), (11, [.inr 2], 0, 0),
  (11, [.inr (-1)], 0, 0)]
theorem vl_digitsBehind_k : x_chk 19 [] vl_digitsBehind_T [] 600 = true := by decide +kernel
theorem vl_digitsBehind {a0 v : Int} {h h' : fH} (hs : fS 19 [a0] h v h') (Q : Int → fH → Prop) (h0 : ((a0 = 97 → Q 5 h) ∧ (a0 ≠ 97 → ((a0 = 98 → Q 3 h) ∧ (a0 ≠ 98 → ((a0 = 100 → Q 2 h) ∧ (a0 ≠ 100 → ((a0 = 101 → Q 3 h) ∧ (a0 ≠ 101 → ((a0 = 112 → Q 2 h) ∧ (a0 ≠ 112 → ((a0 = 119 → Q 2 h) ∧ (a0 ≠ 119 → Q (-1) h))))))))))))) : Q v h' := by
  exact x_mef vl_digitsBehind_k hs (fun _ _ _ => False) Q h0 (fun i Ti hT => by cases hT)
def vl_digit_T : xT := [(13, [.inl 0, .inl 1], 18, 0), (8, [.inl 2, .inr 48], 1, 0), (11, [.inl 3], 0, 0)]
theorem vl_digit_k : x_chk 20 [] vl_digit_T [] 600 = true := by decide +kernel
theorem vl_digit {a0 a1 v : Int} {h h' : fH} (hs : fS 20 [a0, a1] h v h') (Q : Int → fH → Prop) (h0 : ∀ (v1 : Int) (h1 : fH), fS 18 [a0, a1] h v1 h1 → ∀ z3 : Int, z3 = wr (v1 - 48) → Q z3 h1) : Q v h' := by
  exact x_mef vl_digit_k hs (fun _ _ _ => False) Q h0 (fun i Ti hT => by cases hT)
def vt_copyFrom_T : xT := [(0, [.inl 1], 1, 0), (2, [.inl 0, .inl 2], 1, 0), (0, [.inl 1], 14, 0), (2, [.inl 0, .inl 3], 14, 0), (0, [.inl 1], 15, 0), (2, [.inl 0, .inl 4], 15, 0), (4, [.inl 1], 0, 1), (4, [.inl 0], 0, 1), (13, [.inl 5, .inl 6], 24, 0), (4, [.inl 1], 0, 2), (4, [.inl 0], 0, 2), (13, [.inl 8, .inl 9], 24, 0),
  (4, [.inl 1], 0, 3), (4, [.inl 0], 0, 3), (13, [.inl 11, .inl 12], 24, 0), (4, [.inl 1], 0, 4), (4, [.inl 0], 0, 4), (13, [.inl 14, .inl 15], 24, 0), (4, [.inl 1], 0, 5), (4, [.inl 0], 0, 5), (13, [.inl 17, .inl 18], 24, 0), (4, [.inl 1], 0, 6), (4, [.inl 0], 0, 6), (13, [.inl 20, .inl 21], 24, 0),
  (4, [.inl 1], 0, 7), (4, [.inl 0], 0, 7), (13, [.inl 23, .inl 24], 24, 0), (4, [.inl 1], 0, 8), (4, [.inl 0], 0, 8), (13, [.inl 26, .inl 27], 24, 0), (4, [.inl 1], 0, 17), (4, [.inl 0], 0, 17), (13, [.inl 29, .inl 30], 24, 0), (4, [.inl 1], 0, 18), (4, [.inl 0], 0, 18), (13, [.inl 32, .inl 33], 24, 0),
  (12, [.inl 0, .inl 1, .inr 0], 0, 0)]
def vt_copyFrom_T0 : xT := [(0, [.inl 0], 1, 0), (10, [.inl 2, .inl 3], 3, 1), (12, [.inl 0, .inl 1, .inr 0], 1, 0), (4, [.inl 1], 0, 9), (5, [.inl 4, .inl 2], 0, 1), (4, [.inl 0], 0, 9), (5, [.inl 6, .inl 2], 0, 1), (13, [.inl 5, .inl 7], 24, 0), (8, [.inl 2, .inr 1], 0, 0), (12, [.inl 0, .inl 1, .inl 9], 0, 0)]
def vt_copyFrom_T1 : xT := [(0, [.inl 0], 14, 0), (10, [.inl 2, .inl 3], 3, 1), (11, [.inr 0], 0, 0), (4, [.inl 0], 0, 19), (1, [.inl 4, .inl 2], 0, 0), (4, [.inl 1], 0, 19), (1, [.inl 6, .inl 2], 0, 0), (13, [.inl 5, .inl 7], 25, 0), (8, [.inl 2, .inr 1], 0, 0), (12, [.inl 0, .inl 1, .inl 9], 1, 0)]
theorem vt_copyFrom_k : x_chk 23 [(136, [(0, 0), (1, 0), (2, 0)]), (167, [(0, 0), (1, 0), (2, 0)])] vt_copyFrom_T [vt_copyFrom_T0, vt_copyFrom_T1] 600 = true := by decide +kernel
theorem vt_copyFrom {a0 a1 v : Int} {h h' : fH} (hs : fS 23 [a0, a1] h v h') (I0 : Int → Int → Int → fH → Prop) (I1 : Int → Int → Int → fH → Prop) (Q : Int → fH → Prop) (h0 : ∀ z2 : Int, z2 = h a1 1 → ∀ h1 : fH, h1 = fu h a0 1 z2 → ∀ z3 : Int, z3 = h1 a1 14 → ∀ h2 : fH, h2 = fu h1 a0 14 z3 → ∀ z4 : Int, z4 = h2 a1 15 → ∀ h3 : fH, h3 = fu h2 a0 15 z4 → ∀ z5 : Int, z5 = a1 + 1 → ∀ z6 : Int, z6 = a0 + 1 → ∀ (v4 : Int) (h4 : fH), fS 24 [z5, z6] h3 v4 h4 → ∀ z8 : Int, z8 = a1 + 2 → ∀ z9 : Int, z9 = a0 + 2 → ∀ (v5 : Int) (h5 : fH), fS 24 [z8, z9] h4 v5 h5 → ∀ z11 : Int, z11 = a1 + 3 → ∀ z12 : Int, z12 = a0 + 3 → ∀ (v6 : Int) (h6 : fH), fS 24 [z11, z12] h5 v6 h6 → ∀ z14 : Int, z14 = a1 + 4 → ∀ z15 : Int, z15 = a0 + 4 → ∀ (v7 : Int) (h7 : fH), fS 24 [z14, z15] h6 v7 h7 → ∀ z17 : Int, z17 = a1 + 5 → ∀ z18 : Int, z18 = a0 + 5 → ∀ (v8 : Int) (h8 : fH), fS 24 [z17, z18] h7 v8 h8 → ∀ z20 : Int, z20 = a1 + 6 → ∀ z21 : Int, z21 = a0 + 6 → ∀ (v9 : Int) (h9 : fH), fS 24 [z20, z21] h8 v9 h9 → ∀ z23 : Int, z23 = a1 + 7 → ∀ z24 : Int, z24 = a0 + 7 → ∀ (v10 : Int) (h10 : fH), fS 24 [z23, z24] h9 v10 h10 → ∀ z26 : Int, z26 = a1 + 8 → ∀ z27 : Int, z27 = a0 + 8 → ∀ (v11 : Int) (h11 : fH), fS 24 [z26, z27] h10 v11 h11 → ∀ z29 : Int, z29 = a1 + 17 → ∀ z30 : Int, z30 = a0 + 17 → ∀ (v12 : Int) (h12 : fH), fS 24 [z29, z30] h11 v12 h12 → ∀ z32 : Int, z32 = a1 + 18 → ∀ z33 : Int, z33 = a0 + 18 → ∀ (v13 : Int) (h13 : fH), fS 24 [z32, z33] h12 v13 h13 → I0 a0 a1 0 h13) (k0 : ∀ (x0 x1 x2 : Int) (h : fH), I0 x0 x1 x2 h → ∀ z3 : Int, z3 = h x0 1 → ((z3 ≤ x2 → I1 x0 x1 0 h) ∧ (x2 < z3 → ∀ z4 : Int, z4 = x1 + 9 → ∀ z5 : Int, z5 = z4 + 1 + 1 * x2 → ∀ z6 : Int, z6 = x0 + 9 → ∀ z7 : Int, z7 = z6 + 1 + 1 * x2 → ∀ (v1 : Int) (h1 : fH), fS 24 [z5, z7] h v1 h1 → ∀ z9 : Int, z9 = wr (x2 + 1) → I0 x0 x1 z9 h1))) (k1 : ∀ (x0 x1 x2 : Int) (h : fH), I1 x0 x1 x2 h → ∀ z3 : Int, z3 = h x0 14 → ((z3 ≤ x2 → Q 0 h) ∧ (x2 < z3 → ∀ z4 : Int, z4 = x0 + 19 → ∀ z5 : Int, z5 = h z4 x2 → ∀ z6 : Int, z6 = x1 + 19 → ∀ z7 : Int, z7 = h z6 x2 → ∀ (v1 : Int) (h1 : fH), fS 25 [z5, z7] h v1 h1 → ∀ z9 : Int, z9 = wr (x2 + 1) → I1 x0 x1 z9 h1))) : Q v h' := by
  refine x_mef vt_copyFrom_k hs (fun k l h => match k with
    | 0 => (match l with | [x0, x1, x2] => I0 x0 x1 x2 h | _ => False)
    | 1 => (match l with | [x0, x1, x2] => I1 x0 x1 x2 h | _ => False)
    | _ => False) Q h0 ?_
  intro i Ti hT vals h hi
  match i, hT, hi with
  | 0, hT, hi =>
    cases hT
    match vals, hi with
    | [x0, x1, x2], hi => exact k0 _ _ _ _ hi
    | [], hi => exact False.elim hi
    | [_], hi => exact False.elim hi
    | [_, _], hi => exact False.elim hi
    | _ :: _ :: _ :: _ :: _, hi => exact False.elim hi
  | 1, hT, hi =>
    cases hT
    match vals, hi with
    | [x0, x1, x2], hi => exact k1 _ _ _ _ hi
    | [], hi => exact False.elim hi
    | [_], hi => exact False.elim hi
    | [_, _], hi => exact False.elim hi
    | _ :: _ :: _ :: _ :: _, hi => exact False.elim hi
  | _ + 2, hT, _ => cases hT
def vt_copy_T : xT := [(6, [.inl 1], 0, 0), (7, [.inl 0, .inl 1, .inl 2], 0, 0), (11, [.inr 0], 0, 0)]
theorem vt_copy_k : x_chk 24 [] vt_copy_T [] 600 = true := by decide +kernel
theorem vt_copy {a0 a1 v : Int} {h h' : fH} (hs : fS 24 [a0, a1] h v h') (Q : Int → fH → Prop) (h0 : ∀ z2 : Int, z2 = f_len a1 → ∀ h1 : fH, h1 = fcp h a0 a1 z2 → Q 0 h1) : Q v h' := by
  exact x_mef vt_copy_k hs (fun _ _ _ => False) Q h0 (fun i Ti hT => by cases hT)
def vg_beLike_T : xT := [(0, [.inl 1], 0, 0), (2, [.inl 0, .inl 2], 0, 0), (0, [.inl 1], 1, 0), (2, [.inl 0, .inl 3], 1, 0), (0, [.inl 1], 2, 0), (2, [.inl 0, .inl 4], 2, 0), (0, [.inl 1], 3, 0), (2, [.inl 0, .inl 5], 3, 0), (0, [.inl 1], 4, 0), (2, [.inl 0, .inl 6], 4, 0), (11, [.inr 0], 0, 0)]
theorem vg_beLike_k : x_chk 25 [] vg_beLike_T [] 600 = true := by decide +kernel
theorem vg_beLike {a0 a1 v : Int} {h h' : fH} (hs : fS 25 [a0, a1] h v h') (Q : Int → fH → Prop) (h0 : ∀ z2 : Int, z2 = h a1 0 → ∀ h1 : fH, h1 = fu h a0 0 z2 → ∀ z3 : Int, z3 = h1 a1 1 → ∀ h2 : fH, h2 = fu h1 a0 1 z3 → ∀ z4 : Int, z4 = h2 a1 2 → ∀ h3 : fH, h3 = fu h2 a0 2 z4 → ∀ z5 : Int, z5 = h3 a1 3 → ∀ h4 : fH, h4 = fu h3 a0 3 z5 → ∀ z6 : Int, z6 = h4 a1 4 → ∀ h5 : fH, h5 = fu h4 a0 4 z6 → Q 0 h5) : Q v h' := by
  exact x_mef vg_beLike_k hs (fun _ _ _ => False) Q h0 (fun i Ti hT => by cases hT)
def vc_tellInMind_T : xT := [(8, [.inl 1, .inr 1], 0, 0), (13, [.inr 266, .inl 2], 20, 0), (8, [.inl 1, .inr 2], 0, 0), (13, [.inr 266, .inl 4], 20, 0), (8, [.inl 1, .inr 3], 0, 0), (13, [.inr 266, .inl 6], 20, 0), (8, [.inl 1, .inr 4], 0, 0), (13, [.inr 266, .inl 8], 20, 0), (8, [.inl 1, .inr 5], 0, 0), (13, [.inr 266, .inl 10], 20, 0), (13, [.inr 266, .inl 1], 18, 0), (10, [.inl 12, .inr 97], 0, 14),
  (13, [.inr 34, .inl 3, .inl 5, .inl 7, .inl 9, .inl 11], 54, 0), (10, [.inl 13, .inr 0], 0, 11), (0, [.inr 34], 14, 0), (1, [.inr 53, .inl 14], 0, 0), (2, [.inl 15, .inl 3], 0, 0), (2, [.inl 15, .inl 5], 1, 0), (2, [.inl 15, .inl 7], 2, 0), (2, [.inl 15, .inl 9], 3, 0), (2, [.inl 15, .inl 11], 4, 0), (0, [.inr 34], 14, 0), (8, [.inl 16, .inr 1], 0, 0), (2, [.inr 34, .inl 17], 14, 0),
  (11, [.inr 1], 0, 0), (11, [.inr 0], 0, 0), (10, [.inl 12, .inr 98], 0, 16), (10, [.inl 3, .inr 0], 2, 1), (11, [.inr 0], 0, 0), (0, [.inr 34], 1, 0), (10, [.inl 3, .inl 13], 3, 1), (11, [.inr 0], 0, 0), (10, [.inl 5, .inr 0], 2, 1), (11, [.inr 0], 0, 0), (10, [.inl 5, .inr 5], 3, 1), (11, [.inr 0], 0, 0),
  (10, [.inl 7, .inr 0], 3, 5), (10, [.inl 7, .inr 9], 5, 3), (5, [.inr 43, .inl 3], 0, 1), (3, [.inl 14, .inl 5, .inl 7], 0, 0), (11, [.inr 1], 0, 0), (11, [.inr 0], 0, 0), (11, [.inr 0], 0, 0), (10, [.inl 12, .inr 100], 0, 14), (8, [.inr 10, .inl 3], 2, 0), (8, [.inl 13, .inl 5], 0, 0), (10, [.inl 14, .inr 1], 3, 10), (10, [.inl 14, .inr 60], 4, 1),
  (11, [.inr 0], 0, 0), (0, [.inr 34], 15, 0), (8, [.inl 15, .inl 14], 0, 0), (10, [.inl 16, .inr 999], 5, 4), (8, [.inr 10, .inl 3], 2, 0), (8, [.inl 17, .inl 5], 0, 0), (13, [.inr 34, .inl 18], 64, 0), (11, [.inr 1], 0, 0), (11, [.inr 0], 0, 0), (11, [.inr 0], 0, 0), (10, [.inl 12, .inr 101], 0, 15), (10, [.inl 3, .inr 0], 2, 1),
  (11, [.inr 0], 0, 0), (10, [.inl 3, .inr 5], 3, 1), (11, [.inr 0], 0, 0), (10, [.inl 5, .inr 1], 2, 1), (11, [.inr 0], 0, 0), (10, [.inl 7, .inr 0], 3, 7), (10, [.inl 5, .inr 9], 4, 1), (11, [.inr 0], 0, 0), (10, [.inl 7, .inr 8], 5, 3), (3, [.inr 51, .inl 3, .inl 5], 0, 0), (3, [.inr 52, .inl 3, .inl 7], 0, 0), (11, [.inr 1], 0, 0),
  (11, [.inr 0], 0, 0), (11, [.inr 0], 0, 0), (10, [.inl 12, .inr 112], 0, 14), (6, [.inr 4], 0, 0), (10, [.inl 3, .inr 0], 2, 1), (11, [.inr 0], 0, 0), (10, [.inl 3, .inl 13], 3, 1), (11, [.inr 0], 0, 0), (10, [.inl 5, .inr 0], 3, 7), (10, [.inl 5, .inr 10], 3, 1), (11, [.inr 0], 0, 0), (0, [.inr 34], 1, 0),
  (10, [.inl 14, .inr 7], 2, 2), (13, [.inr 34, .inl 3, .inl 5], 28, 0), (11, [.inr 1], 0, 0), (11, [.inr 0], 0, 0), (11, [.inr 0], 0, 0), (10, [.inl 12, .inr 119], 0, 11), (10, [.inl 3, .inr 0], 2, 1), (11, [.inr 0], 0, 0), (0, [.inr 34], 1, 0), (10, [.inl 3, .inl 13], 3, 1), (11, [.inr 0], 0, 0), (10, [.inl 5, .inr 0], 2, 1),
  (11, [.inr 0], 0, 0), (10, [.inl 5, .inr 7], 3, 1), (11, [.inr 0], 0, 0), (3, [.inr 40, .inl 3, .inl 5], 0, 0), (11, [.inr 1], 0, 0), (11, [.inr 0], 0, 0)]
theorem vc_tellInMind_k : x_chk 26 [] vc_tellInMind_T [] 600 = true := by decide +kernel
theorem vc_tellInMind {a0 a1 v : Int} {h h' : fH} (hs : fS 26 [a0, a1] h v h') (Q : Int → fH → Prop) (h0 : ∀ z2 : Int, z2 = wr (a1 + 1) → ∀ (v1 : Int) (h1 : fH), fS 20 [266, z2] h v1 h1 → ∀ z4 : Int, z4 = wr (a1 + 2) → ∀ (v2 : Int) (h2 : fH), fS 20 [266, z4] h1 v2 h2 → ∀ z6 : Int, z6 = wr (a1 + 3) → ∀ (v3 : Int) (h3 : fH), fS 20 [266, z6] h2 v3 h3 → ∀ z8 : Int, z8 = wr (a1 + 4) → ∀ (v4 : Int) (h4 : fH), fS 20 [266, z8] h3 v4 h4 → ∀ z10 : Int, z10 = wr (a1 + 5) → ∀ (v5 : Int) (h5 : fH), fS 20 [266, z10] h4 v5 h5 → ∀ (v6 : Int) (h6 : fH), fS 18 [266, a1] h5 v6 h6 → ((v6 = 97 → ∀ (v7 : Int) (h7 : fH), fS 54 [34, v1, v2, v3, v4, v5] h6 v7 h7 → ((v7 = 0 → ∀ z14 : Int, z14 = h7 34 14 → ∀ z15 : Int, z15 = h7 53 z14 → ∀ h8 : fH, h8 = fu h7 z15 0 v1 → ∀ h9 : fH, h9 = fu h8 z15 1 v2 → ∀ h10 : fH, h10 = fu h9 z15 2 v3 → ∀ h11 : fH, h11 = fu h10 z15 3 v4 → ∀ h12 : fH, h12 = fu h11 z15 4 v5 → ∀ z16 : Int, z16 = h12 34 14 → ∀ z17 : Int, z17 = wr (z16 + 1) → ∀ h13 : fH, h13 = fu h12 34 14 z17 → Q 1 h13) ∧ (v7 ≠ 0 → Q 0 h7))) ∧ (v6 ≠ 97 → ((v6 = 98 → ((v1 < 0 → Q 0 h6) ∧ (0 ≤ v1 → ∀ z13 : Int, z13 = h6 34 1 → ((z13 ≤ v1 → Q 0 h6) ∧ (v1 < z13 → ((v2 < 0 → Q 0 h6) ∧ (0 ≤ v2 → ((5 ≤ v2 → Q 0 h6) ∧ (v2 < 5 → ((0 ≤ v3 → ((v3 ≤ 9 → ∀ z14 : Int, z14 = 43 + 1 + 1 * v1 → ∀ h7 : fH, h7 = fu h6 z14 v2 v3 → Q 1 h7) ∧ (9 < v3 → Q 0 h6))) ∧ (v3 < 0 → Q 0 h6))))))))))) ∧ (v6 ≠ 98 → ((v6 = 100 → ∀ z13 : Int, z13 = wr (10 * v1) → ∀ z14 : Int, z14 = wr (z13 + v2) → ((1 ≤ z14 → ((60 < z14 → Q 0 h6) ∧ (z14 ≤ 60 → ∀ z15 : Int, z15 = h6 34 15 → ∀ z16 : Int, z16 = wr (z15 + z14) → ((z16 ≤ 999 → ∀ z17 : Int, z17 = wr (10 * v1) → ∀ z18 : Int, z18 = wr (z17 + v2) → ∀ (v7 : Int) (h7 : fH), fS 64 [34, z18] h6 v7 h7 → Q 1 h7) ∧ (999 < z16 → Q 0 h6))))) ∧ (z14 < 1 → Q 0 h6))) ∧ (v6 ≠ 100 → ((v6 = 101 → ((v1 < 0 → Q 0 h6) ∧ (0 ≤ v1 → ((5 ≤ v1 → Q 0 h6) ∧ (v1 < 5 → ((v2 < 1 → Q 0 h6) ∧ (1 ≤ v2 → ((0 ≤ v3 → ((9 < v2 → Q 0 h6) ∧ (v2 ≤ 9 → ((v3 ≤ 8 → ∀ h7 : fH, h7 = fu h6 51 v1 v2 → ∀ h8 : fH, h8 = fu h7 52 v1 v3 → Q 1 h8) ∧ (8 < v3 → Q 0 h6))))) ∧ (v3 < 0 → Q 0 h6))))))))) ∧ (v6 ≠ 101 → ((v6 = 112 → ∀ z13 : Int, z13 = f_len 4 → ((v1 < 0 → Q 0 h6) ∧ (0 ≤ v1 → ((z13 ≤ v1 → Q 0 h6) ∧ (v1 < z13 → ((0 ≤ v2 → ((10 ≤ v2 → Q 0 h6) ∧ (v2 < 10 → ∀ z14 : Int, z14 = h6 34 1 → ((z14 < 7 → ∀ (v7 : Int) (h7 : fH), fS 28 [34, v1, v2] h6 v7 h7 → Q 1 h7) ∧ (7 ≤ z14 → Q 0 h6))))) ∧ (v2 < 0 → Q 0 h6))))))) ∧ (v6 ≠ 112 → ((v6 = 119 → ((v1 < 0 → Q 0 h6) ∧ (0 ≤ v1 → ∀ z13 : Int, z13 = h6 34 1 → ((z13 ≤ v1 → Q 0 h6) ∧ (v1 < z13 → ((v2 < 0 → Q 0 h6) ∧ (0 ≤ v2 → ((7 ≤ v2 → Q 0 h6) ∧ (v2 < 7 → ∀ h7 : fH, h7 = fu h6 40 v1 v2 → Q 1 h7))))))))) ∧ (v6 ≠ 119 → Q 0 h6))))))))))))) : Q v h' := by
  exact x_mef vc_tellInMind_k hs (fun _ _ _ => False) Q h0 (fun i Ti hT => by cases hT)
def vt_come_T : xT := [(0, [.inl 0], 1, 0), (13, [.inl 0, .inl 3, .inl 1, .inl 2], 29, 0), (4, [.inl 0], 0, 6), (0, [.inl 0], 1, 0), (0, [.inl 0], 1, 0), (3, [.inl 5, .inl 6, .inl 7], 0, 0), (4, [.inl 0], 0, 7), (0, [.inl 0], 1, 0), (3, [.inl 8, .inl 9, .inr 0], 0, 0), (4, [.inl 0], 0, 8), (0, [.inl 0], 1, 0), (3, [.inl 10, .inl 11, .inr (-9)], 0, 0),
  (4, [.inl 0], 0, 9), (0, [.inl 0], 1, 0), (5, [.inl 12, .inl 13], 0, 1), (13, [.inl 14, .inr 5], 47, 0), (0, [.inl 0], 1, 0), (8, [.inl 16, .inr 1], 0, 0), (2, [.inl 0, .inl 17], 1, 0), (11, [.inr 0], 0, 0)]
theorem vt_come_k : x_chk 28 [] vt_come_T [] 600 = true := by decide +kernel
theorem vt_come {a0 a1 a2 v : Int} {h h' : fH} (hs : fS 28 [a0, a1, a2] h v h') (Q : Int → fH → Prop) (h0 : ∀ z3 : Int, z3 = h a0 1 → ∀ (v1 : Int) (h1 : fH), fS 29 [a0, z3, a1, a2] h v1 h1 → ∀ z5 : Int, z5 = a0 + 6 → ∀ z6 : Int, z6 = h1 a0 1 → ∀ z7 : Int, z7 = h1 a0 1 → ∀ h2 : fH, h2 = fu h1 z5 z6 z7 → ∀ z8 : Int, z8 = a0 + 7 → ∀ z9 : Int, z9 = h2 a0 1 → ∀ h3 : fH, h3 = fu h2 z8 z9 0 → ∀ z10 : Int, z10 = a0 + 8 → ∀ z11 : Int, z11 = h3 a0 1 → ∀ h4 : fH, h4 = fu h3 z10 z11 (-9) → ∀ z12 : Int, z12 = a0 + 9 → ∀ z13 : Int, z13 = h4 a0 1 → ∀ z14 : Int, z14 = z12 + 1 + 1 * z13 → ∀ (v5 : Int) (h5 : fH), fS 47 [z14, 5] h4 v5 h5 → ∀ z16 : Int, z16 = h5 a0 1 → ∀ z17 : Int, z17 = wr (z16 + 1) → ∀ h6 : fH, h6 = fu h5 a0 1 z17 → Q 0 h6) : Q v h' := by
  exact x_mef vt_come_k hs (fun _ _ _ => False) Q h0 (fun i Ti hT => by cases hT)
def vt_become_T : xT := [(4, [.inl 0], 0, 1), (3, [.inl 4, .inl 1, .inl 2], 0, 0), (4, [.inl 0], 0, 2), (3, [.inl 5, .inl 1, .inl 3], 0, 0), (4, [.inl 0], 0, 3), (5, [.inr 4, .inl 2], 0, 1), (10, [.inl 7, .inr 5], 0, 3), (13, [.inl 7, .inl 3], 35, 0), (3, [.inl 6, .inl 1, .inl 8], 0, 0), (12, [.inl 0, .inl 1, .inl 2, .inl 3], 0, 0), (10, [.inl 7, .inr 6], 0, 3), (13, [.inl 7, .inl 3], 30, 0),
  (3, [.inl 6, .inl 1, .inl 8], 0, 0), (12, [.inl 0, .inl 1, .inl 2, .inl 3], 0, 0), (10, [.inl 7, .inr 8], 0, 3), (13, [.inl 7, .inl 3], 31, 0), (3, [.inl 6, .inl 1, .inl 8], 0, 0), (12, [.inl 0, .inl 1, .inl 2, .inl 3], 0, 0), (10, [.inl 7, .inr 7], 0, 3), (13, [.inl 7, .inl 3], 32, 0), (3, [.inl 6, .inl 1, .inl 8], 0, 0), (12, [.inl 0, .inl 1, .inl 2, .inl 3], 0, 0), (10, [.inl 7, .inr 10], 0, 3), (13, [.inl 7, .inl 3], 33, 0),
  (3, [.inl 6, .inl 1, .inl 8], 0, 0), (12, [.inl 0, .inl 1, .inl 2, .inl 3], 0, 0), (10, [.inl 7, .inr 9], 0, 3), (13, [.inl 7, .inl 3], 34, 0), (3, [.inl 6, .inl 1, .inl 8], 0, 0), (12, [.inl 0, .inl 1, .inl 2, .inl 3], 0, 0), (14, [], 0, 0)]
def vt_become_T0 : xT := [(4, [.inl 0], 0, 4), (5, [.inr 4, .inl 2], 0, 1), (10, [.inl 5, .inr 5], 0, 3), (13, [.inl 5, .inl 3], 41, 0), (3, [.inl 4, .inl 1, .inl 6], 0, 0), (12, [.inl 0, .inl 1, .inl 2], 1, 0), (10, [.inl 5, .inr 6], 0, 3), (13, [.inl 5, .inl 3], 36, 0), (3, [.inl 4, .inl 1, .inl 6], 0, 0), (12, [.inl 0, .inl 1, .inl 2], 1, 0), (10, [.inl 5, .inr 8], 0, 3), (13, [.inl 5, .inl 3], 37, 0),
  (3, [.inl 4, .inl 1, .inl 6], 0, 0), (12, [.inl 0, .inl 1, .inl 2], 1, 0), (10, [.inl 5, .inr 7], 0, 3), (13, [.inl 5, .inl 3], 38, 0), (3, [.inl 4, .inl 1, .inl 6], 0, 0), (12, [.inl 0, .inl 1, .inl 2], 1, 0), (10, [.inl 5, .inr 10], 0, 3), (13, [.inl 5, .inl 3], 39, 0), (3, [.inl 4, .inl 1, .inl 6], 0, 0), (12, [.inl 0, .inl 1, .inl 2], 1, 0), (10, [.inl 5, .inr 9], 0, 3), (13, [.inl 5, .inl 3], 40, 0),
  (3, [.inl 4, .inl 1, .inl 6], 0, 0), (12, [.inl 0, .inl 1, .inl 2], 1, 0), (14, [], 0, 0)]
def vt_become_T1 : xT := [(4, [.inl 0], 0, 5), (5, [.inr 4, .inl 2], 0, 1), (10, [.inl 4, .inr 5], 0, 3), (13, [.inl 4], 46, 0), (3, [.inl 3, .inl 1, .inl 5], 0, 0), (11, [.inr 0], 0, 0), (10, [.inl 4, .inr 6], 0, 3), (13, [.inl 4], 42, 0), (3, [.inl 3, .inl 1, .inl 5], 0, 0), (11, [.inr 0], 0, 0), (10, [.inl 4, .inr 8], 0, 3), (13, [.inl 4], 46, 0),
  (3, [.inl 3, .inl 1, .inl 5], 0, 0), (11, [.inr 0], 0, 0), (10, [.inl 4, .inr 7], 0, 3), (13, [.inl 4], 43, 0), (3, [.inl 3, .inl 1, .inl 5], 0, 0), (11, [.inr 0], 0, 0), (10, [.inl 4, .inr 10], 0, 3), (13, [.inl 4], 44, 0), (3, [.inl 3, .inl 1, .inl 5], 0, 0), (11, [.inr 0], 0, 0), (10, [.inl 4, .inr 9], 0, 3), (13, [.inl 4], 45, 0),
  (3, [.inl 3, .inl 1, .inl 5], 0, 0), (11, [.inr 0], 0, 0), (14, [], 0, 0)]
theorem vt_become_k : x_chk 29 [(30, [(0, 0), (1, 0), (2, 0), (3, 0)]), (46, [(0, 0), (1, 0), (2, 0)])] vt_become_T [vt_become_T0, vt_become_T1] 600 = true := by decide +kernel
theorem vt_become {a0 a1 a2 a3 v : Int} {h h' : fH} (hs : fS 29 [a0, a1, a2, a3] h v h') (I0 : Int → Int → Int → Int → fH → Prop) (I1 : Int → Int → Int → fH → Prop) (Q : Int → fH → Prop) (h0 : ∀ z4 : Int, z4 = a0 + 1 → ∀ h1 : fH, h1 = fu h z4 a1 a2 → ∀ z5 : Int, z5 = a0 + 2 → ∀ h2 : fH, h2 = fu h1 z5 a1 a3 → ∀ z6 : Int, z6 = a0 + 3 → ∀ z7 : Int, z7 = 4 + 1 + 1 * a2 → ((z7 = 5 → ∀ (v3 : Int) (h3 : fH), fS 35 [z7, a3] h2 v3 h3 → ∀ h4 : fH, h4 = fu h3 z6 a1 v3 → I0 a0 a1 a2 a3 h4) ∧ (z7 ≠ 5 → ((z7 = 6 → ∀ (v3 : Int) (h3 : fH), fS 30 [z7, a3] h2 v3 h3 → ∀ h4 : fH, h4 = fu h3 z6 a1 v3 → I0 a0 a1 a2 a3 h4) ∧ (z7 ≠ 6 → ((z7 = 8 → ∀ (v3 : Int) (h3 : fH), fS 31 [z7, a3] h2 v3 h3 → ∀ h4 : fH, h4 = fu h3 z6 a1 v3 → I0 a0 a1 a2 a3 h4) ∧ (z7 ≠ 8 → ((z7 = 7 → ∀ (v3 : Int) (h3 : fH), fS 32 [z7, a3] h2 v3 h3 → ∀ h4 : fH, h4 = fu h3 z6 a1 v3 → I0 a0 a1 a2 a3 h4) ∧ (z7 ≠ 7 → ((z7 = 10 → ∀ (v3 : Int) (h3 : fH), fS 33 [z7, a3] h2 v3 h3 → ∀ h4 : fH, h4 = fu h3 z6 a1 v3 → I0 a0 a1 a2 a3 h4) ∧ (z7 ≠ 10 → ((z7 = 9 → ∀ (v3 : Int) (h3 : fH), fS 34 [z7, a3] h2 v3 h3 → ∀ h4 : fH, h4 = fu h3 z6 a1 v3 → I0 a0 a1 a2 a3 h4) ∧ (z7 ≠ 9 → True))))))))))))) (k0 : ∀ (x0 x1 x2 x3 : Int) (h : fH), I0 x0 x1 x2 x3 h → ∀ z4 : Int, z4 = x0 + 4 → ∀ z5 : Int, z5 = 4 + 1 + 1 * x2 → ((z5 = 5 → ∀ (v1 : Int) (h1 : fH), fS 41 [z5, x3] h v1 h1 → ∀ h2 : fH, h2 = fu h1 z4 x1 v1 → I1 x0 x1 x2 h2) ∧ (z5 ≠ 5 → ((z5 = 6 → ∀ (v1 : Int) (h1 : fH), fS 36 [z5, x3] h v1 h1 → ∀ h2 : fH, h2 = fu h1 z4 x1 v1 → I1 x0 x1 x2 h2) ∧ (z5 ≠ 6 → ((z5 = 8 → ∀ (v1 : Int) (h1 : fH), fS 37 [z5, x3] h v1 h1 → ∀ h2 : fH, h2 = fu h1 z4 x1 v1 → I1 x0 x1 x2 h2) ∧ (z5 ≠ 8 → ((z5 = 7 → ∀ (v1 : Int) (h1 : fH), fS 38 [z5, x3] h v1 h1 → ∀ h2 : fH, h2 = fu h1 z4 x1 v1 → I1 x0 x1 x2 h2) ∧ (z5 ≠ 7 → ((z5 = 10 → ∀ (v1 : Int) (h1 : fH), fS 39 [z5, x3] h v1 h1 → ∀ h2 : fH, h2 = fu h1 z4 x1 v1 → I1 x0 x1 x2 h2) ∧ (z5 ≠ 10 → ((z5 = 9 → ∀ (v1 : Int) (h1 : fH), fS 40 [z5, x3] h v1 h1 → ∀ h2 : fH, h2 = fu h1 z4 x1 v1 → I1 x0 x1 x2 h2) ∧ (z5 ≠ 9 → True))))))))))))) (k1 : ∀ (x0 x1 x2 : Int) (h : fH), I1 x0 x1 x2 h → ∀ z3 : Int, z3 = x0 + 5 → ∀ z4 : Int, z4 = 4 + 1 + 1 * x2 → ((z4 = 5 → ∀ (v1 : Int) (h1 : fH), fS 46 [z4] h v1 h1 → ∀ h2 : fH, h2 = fu h1 z3 x1 v1 → Q 0 h2) ∧ (z4 ≠ 5 → ((z4 = 6 → ∀ (v1 : Int) (h1 : fH), fS 42 [z4] h v1 h1 → ∀ h2 : fH, h2 = fu h1 z3 x1 v1 → Q 0 h2) ∧ (z4 ≠ 6 → ((z4 = 8 → ∀ (v1 : Int) (h1 : fH), fS 46 [z4] h v1 h1 → ∀ h2 : fH, h2 = fu h1 z3 x1 v1 → Q 0 h2) ∧ (z4 ≠ 8 → ((z4 = 7 → ∀ (v1 : Int) (h1 : fH), fS 43 [z4] h v1 h1 → ∀ h2 : fH, h2 = fu h1 z3 x1 v1 → Q 0 h2) ∧ (z4 ≠ 7 → ((z4 = 10 → ∀ (v1 : Int) (h1 : fH), fS 44 [z4] h v1 h1 → ∀ h2 : fH, h2 = fu h1 z3 x1 v1 → Q 0 h2) ∧ (z4 ≠ 10 → ((z4 = 9 → ∀ (v1 : Int) (h1 : fH), fS 45 [z4] h v1 h1 → ∀ h2 : fH, h2 = fu h1 z3 x1 v1 → Q 0 h2) ∧ (z4 ≠ 9 → True))))))))))))) : Q v h' := by
  refine x_mef vt_become_k hs (fun k l h => match k with
    | 0 => (match l with | [x0, x1, x2, x3] => I0 x0 x1 x2 x3 h | _ => False)
    | 1 => (match l with | [x0, x1, x2] => I1 x0 x1 x2 h | _ => False)
    | _ => False) Q h0 ?_
  intro i Ti hT vals h hi
  match i, hT, hi with
  | 0, hT, hi =>
    cases hT
    match vals, hi with
    | [x0, x1, x2, x3], hi => exact k0 _ _ _ _ _ hi
    | [], hi => exact False.elim hi
    | [_], hi => exact False.elim hi
    | [_, _], hi => exact False.elim hi
    | [_, _, _], hi => exact False.elim hi
    | _ :: _ :: _ :: _ :: _ :: _, hi => exact False.elim hi
  | 1, hT, hi =>
    cases hT
    match vals, hi with
    | [x0, x1, x2], hi => exact k1 _ _ _ _ hi
    | [], hi => exact False.elim hi
    | [_], hi => exact False.elim hi
    | [_, _], hi => exact False.elim hi
    | _ :: _ :: _ :: _ :: _, hi => exact False.elim hi
  | _ + 2, hT, _ => cases hT
