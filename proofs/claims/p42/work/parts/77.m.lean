section
/-! the trees of the methods (made by a program) -/
noncomputable def vc_feed_T : xT := [(10, [.inl 1, .inr 0], 3, 20), (10, [.inl 1, .inr 255], 4, 5), (9, [.inr (-6)], 0, 0), (1, [.inr 3, .inl 2], 0, 0), (8, [.inl 3, .inr 1], 0, 0), (3, [.inr 3, .inl 2, .inl 4], 0, 0), (11, [.inr (-6)], 0, 0), (0, [.inr 266], 1, 0), (10, [.inl 2, .inr 96], 2, 7), (0, [.inr 266], 1, 0), (3, [.inr 267, .inl 3, .inl 1], 0, 0), (0, [.inr 266], 1, 0),
  (8, [.inl 4, .inr 1], 0, 0), (2, [.inr 266, .inl 5], 1, 0), (0, [.inr 266], 1, 0), (11, [.inl 6], 0, 0), (9, [.inr (-6)], 0, 0), (1, [.inr 3, .inl 3], 0, 0), (8, [.inl 4, .inr 1], 0, 0), (3, [.inr 3, .inl 3, .inl 5], 0, 0), (11, [.inr (-6)], 0, 0), (9, [.inr (-4)], 0, 0), (1, [.inr 3, .inl 2], 0, 0), (8, [.inl 3, .inr 1], 0, 0),
  (3, [.inr 3, .inl 2, .inl 4], 0, 0), (11, [.inr (-4)], 0, 0)]
theorem vc_feed_k : x_chk 12 [] vc_feed_T [] 600 = true := by decide +kernel
theorem vc_feed {a0 a1 v : Int} {h h' : fH} (hs : fS 12 [a0, a1] h v h') (Q : Int → fH → Prop) (h0 : ((0 ≤ a1 → ((255 < a1 → ∀ z2 : Int, z2 = wr (-(-6)) → ∀ z3 : Int, z3 = h 3 z2 → ∀ z4 : Int, z4 = wr (z3 + 1) → ∀ h1 : fH, h1 = fu h 3 z2 z4 → Q (-6) h1) ∧ (a1 ≤ 255 → ∀ z2 : Int, z2 = h 266 1 → ((z2 < 96 → ∀ z3 : Int, z3 = h 266 1 → ∀ h1 : fH, h1 = fu h 267 z3 a1 → ∀ z4 : Int, z4 = h1 266 1 → ∀ z5 : Int, z5 = wr (z4 + 1) → ∀ h2 : fH, h2 = fu h1 266 1 z5 → ∀ z6 : Int, z6 = h2 266 1 → Q z6 h2) ∧ (96 ≤ z2 → ∀ z3 : Int, z3 = wr (-(-6)) → ∀ z4 : Int, z4 = h 3 z3 → ∀ z5 : Int, z5 = wr (z4 + 1) → ∀ h1 : fH, h1 = fu h 3 z3 z5 → Q (-6) h1))))) ∧ (a1 < 0 → ∀ z2 : Int, z2 = wr (-(-4)) → ∀ z3 : Int, z3 = h 3 z2 → ∀ z4 : Int, z4 = wr (z3 + 1) → ∀ h1 : fH, h1 = fu h 3 z2 z4 → Q (-4) h1))) : Q v h' := by
  exact x_mef vc_feed_k hs (fun _ _ _ => False) Q h0 (fun i Ti hT => by cases hT)
noncomputable def vc_town_T : xT := [(13, [.inr 266], 17, 0), (10, [.inl 1, .inr 0], 2, 2), (13, [.inr 34, .inr 11], 23, 0), (12, [.inl 0, .inr 0, .inr 0], 0, 0), (2, [.inr 266, .inr 0], 1, 0), (8, [.inr (-1000), .inl 1], 1, 0), (11, [.inl 2], 0, 0)]
noncomputable def vc_town_T0 : xT := [(0, [.inr 266], 1, 0), (10, [.inl 2, .inl 3], 3, 9), (0, [.inr 266], 1, 0), (10, [.inl 2, .inl 4], 2, 3), (2, [.inr 266, .inr 0], 1, 0), (8, [.inr (-2000), .inl 2], 1, 0), (11, [.inl 5], 0, 0), (2, [.inr 266, .inr 0], 1, 0), (13, [.inr 11, .inr 34], 23, 0), (2, [.inr 80, .inr 0], 2, 0), (11, [.inl 1], 0, 0), (13, [.inl 0, .inl 2], 26, 0),
  (10, [.inl 4, .inr 0], 0, 9), (0, [.inr 266], 1, 0), (10, [.inl 2, .inl 5], 2, 3), (2, [.inr 266, .inr 0], 1, 0), (8, [.inr (-2000), .inl 2], 1, 0), (11, [.inl 6], 0, 0), (2, [.inr 266, .inr 0], 1, 0), (13, [.inr 11, .inr 34], 23, 0), (2, [.inr 80, .inr 0], 2, 0), (11, [.inl 1], 0, 0), (8, [.inl 1, .inr 1], 0, 0), (13, [.inr 266, .inl 2], 18, 0),
  (13, [.inl 6], 19, 0), (8, [.inr 2, .inl 7], 0, 0), (8, [.inl 2, .inl 8], 0, 0), (12, [.inl 0, .inl 5, .inl 9], 0, 0)]
theorem vc_town_k : x_chk 16 [(40, [(0, 0), (2, 0), (3, 0)])] vc_town_T [vc_town_T0] 600 = true := by decide +kernel
theorem vc_town {a0 v : Int} {h h' : fH} (hs : fS 16 [a0] h v h') (I0 : Int → Int → Int → fH → Prop) (Q : Int → fH → Prop) (h0 : ∀ (v1 : Int) (h1 : fH), fS 17 [266] h v1 h1 → ((v1 < 0 → ∀ (v2 : Int) (h2 : fH), fS 23 [34, 11] h1 v2 h2 → I0 a0 0 0 h2) ∧ (0 ≤ v1 → ∀ h2 : fH, h2 = fu h1 266 1 0 → ∀ z2 : Int, z2 = wr ((-1000) - v1) → Q z2 h2))) (k0 : ∀ (x0 x2 x3 : Int) (h : fH), I0 x0 x2 x3 h → ∀ z3 : Int, z3 = h 266 1 → ((z3 ≤ x3 → ∀ z4 : Int, z4 = h 266 1 → ((x3 < z4 → ∀ h1 : fH, h1 = fu h 266 1 0 → ∀ z5 : Int, z5 = wr ((-2000) - x3) → Q z5 h1) ∧ (z4 ≤ x3 → ∀ h1 : fH, h1 = fu h 266 1 0 → ∀ (v2 : Int) (h2 : fH), fS 23 [11, 34] h1 v2 h2 → ∀ h3 : fH, h3 = fu h2 80 2 0 → Q x2 h3))) ∧ (x3 < z3 → ∀ (v1 : Int) (h1 : fH), fS 26 [x0, x3] h v1 h1 → ((v1 = 0 → ∀ z5 : Int, z5 = h1 266 1 → ((x3 < z5 → ∀ h2 : fH, h2 = fu h1 266 1 0 → ∀ z6 : Int, z6 = wr ((-2000) - x3) → Q z6 h2) ∧ (z5 ≤ x3 → ∀ h2 : fH, h2 = fu h1 266 1 0 → ∀ (v3 : Int) (h3 : fH), fS 23 [11, 34] h2 v3 h3 → ∀ h4 : fH, h4 = fu h3 80 2 0 → Q x2 h4))) ∧ (v1 ≠ 0 → ∀ z5 : Int, z5 = wr (x2 + 1) → ∀ (v2 : Int) (h2 : fH), fS 18 [266, x3] h1 v2 h2 → ∀ (v3 : Int) (h3 : fH), fS 19 [v2] h2 v3 h3 → ∀ z8 : Int, z8 = wr (2 + v3) → ∀ z9 : Int, z9 = wr (x3 + z8) → I0 x0 z5 z9 h3))))) : Q v h' := by
  refine x_mef vc_town_k hs (fun k l h => match k with
    | 0 => (match l with | [x0, x2, x3] => I0 x0 x2 x3 h | _ => False)
    | _ => False) Q h0 ?_
  intro i Ti hT vals h hi
  match i, hT, hi with
  | 0, hT, hi =>
    cases hT
    match vals, hi with
    | [x0, x2, x3], hi => exact k0 _ _ _ _ hi
    | [], hi => exact False.elim hi
    | [_], hi => exact False.elim hi
    | [_, _], hi => exact False.elim hi
    | _ :: _ :: _ :: _ :: _, hi => exact False.elim hi
  | _ + 1, hT, _ => cases hT
noncomputable def vl_firstBadPlace_T : xT := [(12, [.inl 0, .inr 0], 0, 0)]
noncomputable def vl_firstBadPlace_T0 : xT := [(13, [.inl 0, .inl 1], 18, 0), (13, [.inl 2], 19, 0), (10, [.inl 3, .inr 0], 3, 2), (8, [.inl 1, .inr 1], 0, 0), (12, [.inl 0, .inl 4, .inl 3, .inr 0], 1, 0), (11, [.inl 1], 0, 0)]
noncomputable def vl_firstBadPlace_T1 : xT := [(10, [.inl 3, .inl 2], 3, 8), (13, [.inl 0, .inl 1], 18, 0), (10, [.inl 4, .inr 59], 0, 5), (8, [.inl 1, .inr 1], 0, 0), (0, [.inl 0], 1, 0), (10, [.inl 5, .inl 6], 2, 1), (12, [.inl 0, .inl 5], 0, 0), (11, [.inr (-9)], 0, 0), (11, [.inl 1], 0, 0), (13, [.inl 0, .inl 1], 20, 0), (10, [.inl 4, .inr 0], 2, 1), (11, [.inl 1], 0, 0),
  (10, [.inl 4, .inr 10], 3, 1), (11, [.inl 1], 0, 0), (8, [.inl 1, .inr 1], 0, 0), (8, [.inl 3, .inr 1], 0, 0), (12, [.inl 0, .inl 5, .inl 2, .inl 6], 1, 0)]
theorem vl_firstBadPlace_k : x_chk 17 [(2, [(0, 0), (1, 0)]), (22, [(0, 0), (1, 0), (2, 0), (3, 0)])] vl_firstBadPlace_T [vl_firstBadPlace_T0, vl_firstBadPlace_T1] 600 = true := by decide +kernel
theorem vl_firstBadPlace {a0 v : Int} {h h' : fH} (hs : fS 17 [a0] h v h') (I0 : Int → Int → fH → Prop) (I1 : Int → Int → Int → Int → fH → Prop) (Q : Int → fH → Prop) (h0 : I0 a0 0 h) (k0 : ∀ (x0 x1 : Int) (h : fH), I0 x0 x1 h → ∀ (v1 : Int) (h1 : fH), fS 18 [x0, x1] h v1 h1 → ∀ (v2 : Int) (h2 : fH), fS 19 [v1] h1 v2 h2 → ((0 ≤ v2 → ∀ z4 : Int, z4 = wr (x1 + 1) → I1 x0 z4 v2 0 h2) ∧ (v2 < 0 → Q x1 h2))) (k1 : ∀ (x0 x1 x2 x3 : Int) (h : fH), I1 x0 x1 x2 x3 h → ((x2 ≤ x3 → ∀ (v1 : Int) (h1 : fH), fS 18 [x0, x1] h v1 h1 → ((v1 = 59 → ∀ z5 : Int, z5 = wr (x1 + 1) → ∀ z6 : Int, z6 = h1 x0 1 → ((z5 < z6 → I0 x0 z5 h1) ∧ (z6 ≤ z5 → Q (-9) h1))) ∧ (v1 ≠ 59 → Q x1 h1))) ∧ (x3 < x2 → ∀ (v1 : Int) (h1 : fH), fS 20 [x0, x1] h v1 h1 → ((v1 < 0 → Q x1 h1) ∧ (0 ≤ v1 → ((10 ≤ v1 → Q x1 h1) ∧ (v1 < 10 → ∀ z5 : Int, z5 = wr (x1 + 1) → ∀ z6 : Int, z6 = wr (x3 + 1) → I1 x0 z5 x2 z6 h1))))))) : Q v h' := by
  refine x_mef vl_firstBadPlace_k hs (fun k l h => match k with
    | 0 => (match l with | [x0, x1] => I0 x0 x1 h | _ => False)
    | 1 => (match l with | [x0, x1, x2, x3] => I1 x0 x1 x2 x3 h | _ => False)
    | _ => False) Q h0 ?_
  intro i Ti hT vals h hi
  match i, hT, hi with
  | 0, hT, hi =>
    cases hT
    match vals, hi with
    | [x0, x1], hi => exact k0 _ _ _ hi
    | [], hi => exact False.elim hi
    | [_], hi => exact False.elim hi
    | _ :: _ :: _ :: _, hi => exact False.elim hi
  | 1, hT, hi =>
    cases hT
    match vals, hi with
    | [x0, x1, x2, x3], hi => exact k1 _ _ _ _ _ hi
    | [], hi => exact False.elim hi
    | [_], hi => exact False.elim hi
    | [_, _], hi => exact False.elim hi
    | [_, _, _], hi => exact False.elim hi
    | _ :: _ :: _ :: _ :: _ :: _, hi => exact False.elim hi
  | _ + 2, hT, _ => cases hT
noncomputable def vl_at_T : xT := [(10, [.inl 1, .inr 0], 2, 1), (11, [.inr (-1)], 0, 0), (0, [.inl 0], 1, 0), (10, [.inl 1, .inl 2], 3, 1), (11, [.inr (-1)], 0, 0), (1, [.inr 267, .inl 1], 0, 0), (11, [.inl 3], 0, 0)]
theorem vl_at_k : x_chk 18 [] vl_at_T [] 600 = true := by decide +kernel
theorem vl_at {a0 a1 v : Int} {h h' : fH} (hs : fS 18 [a0, a1] h v h') (Q : Int → fH → Prop) (h0 : ((a1 < 0 → Q (-1) h) ∧ (0 ≤ a1 → ∀ z2 : Int, z2 = h a0 1 → ((z2 ≤ a1 → Q (-1) h) ∧ (a1 < z2 → ∀ z3 : Int, z3 = h 267 a1 → Q z3 h))))) : Q v h' := by
  exact x_mef vl_at_k hs (fun _ _ _ => False) Q h0 (fun i Ti hT => by cases hT)
noncomputable def vl_digitsBehind_T : xT := [(10, [.inl 0, .inr 97], 0, 1), (11, [.inr 5], 0, 0), (10, [.inl 0, .inr 98], 0, 1), (11, [.inr 3], 0, 0), (10, [.inl 0, .inr 100], 0, 1), (11, [.inr 2], 0, 0), (10, [.inl 0, .inr 101], 0, 1), (11, [.inr 3], 0, 0), (10, [.inl 0, .inr 112], 0, 1), (11, [.inr 2], 0, 0), (10, [.inl 0, .inr 119], 0, 1), (11, [.inr 2], 0, 0),
  (11, [.inr (-1)], 0, 0)]
theorem vl_digitsBehind_k : x_chk 19 [] vl_digitsBehind_T [] 600 = true := by decide +kernel
theorem vl_digitsBehind {a0 v : Int} {h h' : fH} (hs : fS 19 [a0] h v h') (Q : Int → fH → Prop) (h0 : ((a0 = 97 → Q 5 h) ∧ (a0 ≠ 97 → ((a0 = 98 → Q 3 h) ∧ (a0 ≠ 98 → ((a0 = 100 → Q 2 h) ∧ (a0 ≠ 100 → ((a0 = 101 → Q 3 h) ∧ (a0 ≠ 101 → ((a0 = 112 → Q 2 h) ∧ (a0 ≠ 112 → ((a0 = 119 → Q 2 h) ∧ (a0 ≠ 119 → Q (-1) h))))))))))))) : Q v h' := by
  exact x_mef vl_digitsBehind_k hs (fun _ _ _ => False) Q h0 (fun i Ti hT => by cases hT)
noncomputable def vl_digit_T : xT := [(13, [.inl 0, .inl 1], 18, 0), (8, [.inl 2, .inr 48], 1, 0), (11, [.inl 3], 0, 0)]
theorem vl_digit_k : x_chk 20 [] vl_digit_T [] 600 = true := by decide +kernel
theorem vl_digit {a0 a1 v : Int} {h h' : fH} (hs : fS 20 [a0, a1] h v h') (Q : Int → fH → Prop) (h0 : ∀ (v1 : Int) (h1 : fH), fS 18 [a0, a1] h v1 h1 → ∀ z3 : Int, z3 = wr (v1 - 48) → Q z3 h1) : Q v h' := by
  exact x_mef vl_digit_k hs (fun _ _ _ => False) Q h0 (fun i Ti hT => by cases hT)
noncomputable def vt_copyFrom_T : xT := [(0, [.inl 1], 1, 0), (2, [.inl 0, .inl 2], 1, 0), (0, [.inl 1], 14, 0), (2, [.inl 0, .inl 3], 14, 0), (0, [.inl 1], 15, 0), (2, [.inl 0, .inl 4], 15, 0), (4, [.inl 1], 0, 1), (4, [.inl 0], 0, 1), (13, [.inl 5, .inl 6], 24, 0), (4, [.inl 1], 0, 2), (4, [.inl 0], 0, 2), (13, [.inl 8, .inl 9], 24, 0),
  (4, [.inl 1], 0, 3), (4, [.inl 0], 0, 3), (13, [.inl 11, .inl 12], 24, 0), (4, [.inl 1], 0, 4), (4, [.inl 0], 0, 4), (13, [.inl 14, .inl 15], 24, 0), (4, [.inl 1], 0, 5), (4, [.inl 0], 0, 5), (13, [.inl 17, .inl 18], 24, 0), (4, [.inl 1], 0, 6), (4, [.inl 0], 0, 6), (13, [.inl 20, .inl 21], 24, 0),
  (4, [.inl 1], 0, 7), (4, [.inl 0], 0, 7), (13, [.inl 23, .inl 24], 24, 0), (4, [.inl 1], 0, 8), (4, [.inl 0], 0, 8), (13, [.inl 26, .inl 27], 24, 0), (4, [.inl 1], 0, 17), (4, [.inl 0], 0, 17), (13, [.inl 29, .inl 30], 24, 0), (4, [.inl 1], 0, 18), (4, [.inl 0], 0, 18), (13, [.inl 32, .inl 33], 24, 0),
  (12, [.inl 0, .inl 1, .inr 0], 0, 0)]
noncomputable def vt_copyFrom_T0 : xT := [(0, [.inl 0], 1, 0), (10, [.inl 2, .inl 3], 3, 1), (12, [.inl 0, .inl 1, .inr 0], 1, 0), (4, [.inl 1], 0, 9), (5, [.inl 4, .inl 2], 0, 1), (4, [.inl 0], 0, 9), (5, [.inl 6, .inl 2], 0, 1), (13, [.inl 5, .inl 7], 24, 0), (8, [.inl 2, .inr 1], 0, 0), (12, [.inl 0, .inl 1, .inl 9], 0, 0)]
noncomputable def vt_copyFrom_T1 : xT := [(0, [.inl 0], 14, 0), (10, [.inl 2, .inl 3], 3, 1), (11, [.inr 0], 0, 0), (4, [.inl 0], 0, 19), (1, [.inl 4, .inl 2], 0, 0), (4, [.inl 1], 0, 19), (1, [.inl 6, .inl 2], 0, 0), (13, [.inl 5, .inl 7], 25, 0), (8, [.inl 2, .inr 1], 0, 0), (12, [.inl 0, .inl 1, .inl 9], 1, 0)]
theorem vt_copyFrom_k : x_chk 23 [(136, [(0, 0), (1, 0), (2, 0)]), (167, [(0, 0), (1, 0), (2, 0)])] vt_copyFrom_T [vt_copyFrom_T0, vt_copyFrom_T1] 600 = true := by decide +kernel
theorem vt_copyFrom {a0 a1 v : Int} {h h' : fH} (hs : fS 23 [a0, a1] h v h') (I0 : Int → Int → Int → fH → Prop) (I1 : Int → Int → Int → fH → Prop) (Q : Int → fH → Prop) (h0 : ∀ z2 : Int, z2 = h a1 1 → ∀ h1 : fH, h1 = fu h a0 1 z2 → ∀ z3 : Int, z3 = h1 a1 14 → ∀ h2 : fH, h2 = fu h1 a0 14 z3 → ∀ z4 : Int, z4 = h2 a1 15 → ∀ h3 : fH, h3 = fu h2 a0 15 z4 → ∀ z5 : Int, z5 = a1 + 1 → ∀ z6 : Int, z6 = a0 + 1 → ∀ (v4 : Int) (h4 : fH), fS 24 [z5, z6] h3 v4 h4 → ∀ z8 : Int, z8 = a1 + 2 → ∀ z9 : Int, z9 = a0 + 2 → ∀ (v5 : Int) (h5 : fH), fS 24 [z8, z9] h4 v5 h5 → ∀ z11 : Int, z11 = a1 + 3 → ∀ z12 : Int, z12 = a0 + 3 → ∀ (v6 : Int) (h6 : fH), fS 24 [z11, z12] h5 v6 h6 → ∀ z14 : Int, z14 = a1 + 4 → ∀ z15 : Int, z15 = a0 + 4 → ∀ (v7 : Int) (h7 : fH), fS 24 [z14, z15] h6 v7 h7 → ∀ z17 : Int, z17 = a1 + 5 → ∀ z18 : Int, z18 = a0 + 5 → ∀ (v8 : Int) (h8 : fH), fS 24 [z17, z18] h7 v8 h8 → ∀ z20 : Int, z20 = a1 + 6 → ∀ z21 : Int, z21 = a0 + 6 → ∀ (v9 : Int) (h9 : fH), fS 24 [z20, z21] h8 v9 h9 → ∀ z23 : Int, z23 = a1 + 7 → ∀ z24 : Int, z24 = a0 + 7 → ∀ (v10 : Int) (h10 : fH), fS 24 [z23, z24] h9 v10 h10 → ∀ z26 : Int, z26 = a1 + 8 → ∀ z27 : Int, z27 = a0 + 8 → ∀ (v11 : Int) (h11 : fH), fS 24 [z26, z27] h10 v11 h11 → ∀ z29 : Int, z29 = a1 + 17 → ∀ z30 : Int, z30 = a0 + 17 → ∀ (v12 : Int) (h12 : fH), fS 24 [z29, z30] h11 v12 h12 → ∀ z32 : Int, z32 = a1 + 18 → ∀ z33 : Int, z33 = a0 + 18 → ∀ (v13 : Int) (h13 : fH), fS 24 [z32, z33] h12 v13 h13 → I0 a0 a1 0 h13) (k0 : ∀ (x0 x1 x2 : Int) (h : fH), I0 x0 x1 x2 h → ∀ z3 : Int, z3 = h x0 1 → ((z3 ≤ x2 → I1 x0 x1 0 h) ∧ (x2 < z3 → ∀ z4 : Int, z4 = x1 + 9 → ∀ z5 : Int, z5 = z4 + 1 + 1 * x2 → ∀ z6 : Int, z6 = x0 + 9 → ∀ z7 : Int, z7 = z6 + 1 + 1 * x2 → ∀ (v1 : Int) (h1 : fH), fS 24 [z5, z7] h v1 h1 → ∀ z9 : Int, z9 = wr (x2 + 1) → I0 x0 x1 z9 h1))) (k1 : ∀ (x0 x1 x2 : Int) (h : fH), I1 x0 x1 x2 h → ∀ z3 : Int, z3 = h x0 14 → ((z3 ≤ x2 → Q 0 h) ∧ (x2 < z3 → ∀ z4 : Int, z4 = x0 + 19 → ∀ z5 : Int, z5 = h z4 x2 → ∀ z6 : Int, z6 = x1 + 19 → ∀ z7 : Int, z7 = h z6 x2 → ∀ (v1 : Int) (h1 : fH), fS 25 [z5, z7] h v1 h1 → ∀ z9 : Int, z9 = wr (x2 + 1) → I1 x0 x1 z9 h1))) : Q v h' := by
  refine x_mef vt_copyFrom_k hs (fun k l h => match k with
    | 0 => (match l with | [x0, x1, x2] => I0 x0 x1 x2 h | _ => False)
    | 1 => (match l with | [x0, x1, x2] => I1 x0 x1 x2 h | _ => False)
    | _ => False) Q h0 ?_
  intro i Ti hT vals h hi
  match i, hT, hi with
  | 0, hT, hi =>
    cases hT
    match vals, hi with
    | [x0, x1, x2], hi => exact k0 _ _ _ _ hi
    | [], hi => exact False.elim hi
    | [_], hi => exact False.elim hi
    | [_, _], hi => exact False.elim hi
    | _ :: _ :: _ :: _ :: _, hi => exact False.elim hi
  | 1, hT, hi =>
    cases hT
    match vals, hi with
    | [x0, x1, x2], hi => exact k1 _ _ _ _ hi
    | [], hi => exact False.elim hi
    | [_], hi => exact False.elim hi
    | [_, _], hi => exact False.elim hi
    | _ :: _ :: _ :: _ :: _, hi => exact False.elim hi
  | _ + 2, hT, _ => cases hT
noncomputable def vt_copy_T : xT := [(6, [.inl 1], 0, 0), (7, [.inl 0, .inl 1, .inl 2], 0, 0), (11, [.inr 0], 0, 0)]
theorem vt_copy_k : x_chk 24 [] vt_copy_T [] 600 = true := by decide +kernel
theorem vt_copy {a0 a1 v : Int} {h h' : fH} (hs : fS 24 [a0, a1] h v h') (Q : Int → fH → Prop) (h0 : ∀ z2 : Int, z2 = f_len a1 → ∀ h1 : fH, h1 = fcp h a0 a1 z2 → Q 0 h1) : Q v h' := by
  exact x_mef vt_copy_k hs (fun _ _ _ => False) Q h0 (fun i Ti hT => by cases hT)
noncomputable def vg_beLike_T : xT := [(0, [.inl 1], 0, 0), (2, [.inl 0, .inl 2], 0, 0), (0, [.inl 1], 1, 0), (2, [.inl 0, .inl 3], 1, 0), (0, [.inl 1], 2, 0), (2, [.inl 0, .inl 4], 2, 0), (0, [.inl 1], 3, 0), (2, [.inl 0, .inl 5], 3, 0), (0, [.inl 1], 4, 0), (2, [.inl 0, .inl 6], 4, 0), (11, [.inr 0], 0, 0)]
theorem vg_beLike_k : x_chk 25 [] vg_beLike_T [] 600 = true := by decide +kernel
theorem vg_beLike {a0 a1 v : Int} {h h' : fH} (hs : fS 25 [a0, a1] h v h') (Q : Int → fH → Prop) (h0 : ∀ z2 : Int, z2 = h a1 0 → ∀ h1 : fH, h1 = fu h a0 0 z2 → ∀ z3 : Int, z3 = h1 a1 1 → ∀ h2 : fH, h2 = fu h1 a0 1 z3 → ∀ z4 : Int, z4 = h2 a1 2 → ∀ h3 : fH, h3 = fu h2 a0 2 z4 → ∀ z5 : Int, z5 = h3 a1 3 → ∀ h4 : fH, h4 = fu h3 a0 3 z5 → ∀ z6 : Int, z6 = h4 a1 4 → ∀ h5 : fH, h5 = fu h4 a0 4 z6 → Q 0 h5) : Q v h' := by
  exact x_mef vg_beLike_k hs (fun _ _ _ => False) Q h0 (fun i Ti hT => by cases hT)
noncomputable def vc_tellInMind_T : xT := [(8, [.inl 1, .inr 1], 0, 0), (13, [.inr 266, .inl 2], 20, 0), (8, [.inl 1, .inr 2], 0, 0), (13, [.inr 266, .inl 4], 20, 0), (8, [.inl 1, .inr 3], 0, 0), (13, [.inr 266, .inl 6], 20, 0), (8, [.inl 1, .inr 4], 0, 0), (13, [.inr 266, .inl 8], 20, 0), (8, [.inl 1, .inr 5], 0, 0), (13, [.inr 266, .inl 10], 20, 0), (13, [.inr 266, .inl 1], 18, 0), (10, [.inl 12, .inr 97], 0, 14),
  (13, [.inr 34, .inl 3, .inl 5, .inl 7, .inl 9, .inl 11], 54, 0), (10, [.inl 13, .inr 0], 0, 11), (0, [.inr 34], 14, 0), (1, [.inr 53, .inl 14], 0, 0), (2, [.inl 15, .inl 3], 0, 0), (2, [.inl 15, .inl 5], 1, 0), (2, [.inl 15, .inl 7], 2, 0), (2, [.inl 15, .inl 9], 3, 0), (2, [.inl 15, .inl 11], 4, 0), (0, [.inr 34], 14, 0), (8, [.inl 16, .inr 1], 0, 0), (2, [.inr 34, .inl 17], 14, 0),
  (11, [.inr 1], 0, 0), (11, [.inr 0], 0, 0), (10, [.inl 12, .inr 98], 0, 16), (10, [.inl 3, .inr 0], 2, 1), (11, [.inr 0], 0, 0), (0, [.inr 34], 1, 0), (10, [.inl 3, .inl 13], 3, 1), (11, [.inr 0], 0, 0), (10, [.inl 5, .inr 0], 2, 1), (11, [.inr 0], 0, 0), (10, [.inl 5, .inr 5], 3, 1), (11, [.inr 0], 0, 0),
  (10, [.inl 7, .inr 0], 3, 5), (10, [.inl 7, .inr 9], 5, 3), (5, [.inr 43, .inl 3], 0, 1), (3, [.inl 14, .inl 5, .inl 7], 0, 0), (11, [.inr 1], 0, 0), (11, [.inr 0], 0, 0), (11, [.inr 0], 0, 0), (10, [.inl 12, .inr 100], 0, 14), (8, [.inr 10, .inl 3], 2, 0), (8, [.inl 13, .inl 5], 0, 0), (10, [.inl 14, .inr 1], 3, 10), (10, [.inl 14, .inr 60], 4, 1),
  (11, [.inr 0], 0, 0), (0, [.inr 34], 15, 0), (8, [.inl 15, .inl 14], 0, 0), (10, [.inl 16, .inr 999], 5, 4), (8, [.inr 10, .inl 3], 2, 0), (8, [.inl 17, .inl 5], 0, 0), (13, [.inr 34, .inl 18], 64, 0), (11, [.inr 1], 0, 0), (11, [.inr 0], 0, 0), (11, [.inr 0], 0, 0), (10, [.inl 12, .inr 101], 0, 15), (10, [.inl 3, .inr 0], 2, 1),
  (11, [.inr 0], 0, 0), (10, [.inl 3, .inr 5], 3, 1), (11, [.inr 0], 0, 0), (10, [.inl 5, .inr 1], 2, 1), (11, [.inr 0], 0, 0), (10, [.inl 7, .inr 0], 3, 7), (10, [.inl 5, .inr 9], 4, 1), (11, [.inr 0], 0, 0), (10, [.inl 7, .inr 8], 5, 3), (3, [.inr 51, .inl 3, .inl 5], 0, 0), (3, [.inr 52, .inl 3, .inl 7], 0, 0), (11, [.inr 1], 0, 0),
  (11, [.inr 0], 0, 0), (11, [.inr 0], 0, 0), (10, [.inl 12, .inr 112], 0, 14), (6, [.inr 4], 0, 0), (10, [.inl 3, .inr 0], 2, 1), (11, [.inr 0], 0, 0), (10, [.inl 3, .inl 13], 3, 1), (11, [.inr 0], 0, 0), (10, [.inl 5, .inr 0], 3, 7), (10, [.inl 5, .inr 10], 3, 1), (11, [.inr 0], 0, 0), (0, [.inr 34], 1, 0),
  (10, [.inl 14, .inr 7], 2, 2), (13, [.inr 34, .inl 3, .inl 5], 28, 0), (11, [.inr 1], 0, 0), (11, [.inr 0], 0, 0), (11, [.inr 0], 0, 0), (10, [.inl 12, .inr 119], 0, 11), (10, [.inl 3, .inr 0], 2, 1), (11, [.inr 0], 0, 0), (0, [.inr 34], 1, 0), (10, [.inl 3, .inl 13], 3, 1), (11, [.inr 0], 0, 0), (10, [.inl 5, .inr 0], 2, 1),
  (11, [.inr 0], 0, 0), (10, [.inl 5, .inr 7], 3, 1), (11, [.inr 0], 0, 0), (3, [.inr 40, .inl 3, .inl 5], 0, 0), (11, [.inr 1], 0, 0), (11, [.inr 0], 0, 0)]
theorem vc_tellInMind_k : x_chk 26 [] vc_tellInMind_T [] 600 = true := by decide +kernel
theorem vc_tellInMind {a0 a1 v : Int} {h h' : fH} (hs : fS 26 [a0, a1] h v h') (Q : Int → fH → Prop) (h0 : ∀ z2 : Int, z2 = wr (a1 + 1) → ∀ (v1 : Int) (h1 : fH), fS 20 [266, z2] h v1 h1 → ∀ z4 : Int, z4 = wr (a1 + 2) → ∀ (v2 : Int) (h2 : fH), fS 20 [266, z4] h1 v2 h2 → ∀ z6 : Int, z6 = wr (a1 + 3) → ∀ (v3 : Int) (h3 : fH), fS 20 [266, z6] h2 v3 h3 → ∀ z8 : Int, z8 = wr (a1 + 4) → ∀ (v4 : Int) (h4 : fH), fS 20 [266, z8] h3 v4 h4 → ∀ z10 : Int, z10 = wr (a1 + 5) → ∀ (v5 : Int) (h5 : fH), fS 20 [266, z10] h4 v5 h5 → ∀ (v6 : Int) (h6 : fH), fS 18 [266, a1] h5 v6 h6 → ((v6 = 97 → ∀ (v7 : Int) (h7 : fH), fS 54 [34, v1, v2, v3, v4, v5] h6 v7 h7 → ((v7 = 0 → ∀ z14 : Int, z14 = h7 34 14 → ∀ z15 : Int, z15 = h7 53 z14 → ∀ h8 : fH, h8 = fu h7 z15 0 v1 → ∀ h9 : fH, h9 = fu h8 z15 1 v2 → ∀ h10 : fH, h10 = fu h9 z15 2 v3 → ∀ h11 : fH, h11 = fu h10 z15 3 v4 → ∀ h12 : fH, h12 = fu h11 z15 4 v5 → ∀ z16 : Int, z16 = h12 34 14 → ∀ z17 : Int, z17 = wr (z16 + 1) → ∀ h13 : fH, h13 = fu h12 34 14 z17 → Q 1 h13) ∧ (v7 ≠ 0 → Q 0 h7))) ∧ (v6 ≠ 97 → ((v6 = 98 → ((v1 < 0 → Q 0 h6) ∧ (0 ≤ v1 → ∀ z13 : Int, z13 = h6 34 1 → ((z13 ≤ v1 → Q 0 h6) ∧ (v1 < z13 → ((v2 < 0 → Q 0 h6) ∧ (0 ≤ v2 → ((5 ≤ v2 → Q 0 h6) ∧ (v2 < 5 → ((0 ≤ v3 → ((v3 ≤ 9 → ∀ z14 : Int, z14 = 43 + 1 + 1 * v1 → ∀ h7 : fH, h7 = fu h6 z14 v2 v3 → Q 1 h7) ∧ (9 < v3 → Q 0 h6))) ∧ (v3 < 0 → Q 0 h6))))))))))) ∧ (v6 ≠ 98 → ((v6 = 100 → ∀ z13 : Int, z13 = wr (10 * v1) → ∀ z14 : Int, z14 = wr (z13 + v2) → ((1 ≤ z14 → ((60 < z14 → Q 0 h6) ∧ (z14 ≤ 60 → ∀ z15 : Int, z15 = h6 34 15 → ∀ z16 : Int, z16 = wr (z15 + z14) → ((z16 ≤ 999 → ∀ z17 : Int, z17 = wr (10 * v1) → ∀ z18 : Int, z18 = wr (z17 + v2) → ∀ (v7 : Int) (h7 : fH), fS 64 [34, z18] h6 v7 h7 → Q 1 h7) ∧ (999 < z16 → Q 0 h6))))) ∧ (z14 < 1 → Q 0 h6))) ∧ (v6 ≠ 100 → ((v6 = 101 → ((v1 < 0 → Q 0 h6) ∧ (0 ≤ v1 → ((5 ≤ v1 → Q 0 h6) ∧ (v1 < 5 → ((v2 < 1 → Q 0 h6) ∧ (1 ≤ v2 → ((0 ≤ v3 → ((9 < v2 → Q 0 h6) ∧ (v2 ≤ 9 → ((v3 ≤ 8 → ∀ h7 : fH, h7 = fu h6 51 v1 v2 → ∀ h8 : fH, h8 = fu h7 52 v1 v3 → Q 1 h8) ∧ (8 < v3 → Q 0 h6))))) ∧ (v3 < 0 → Q 0 h6))))))))) ∧ (v6 ≠ 101 → ((v6 = 112 → ∀ z13 : Int, z13 = f_len 4 → ((v1 < 0 → Q 0 h6) ∧ (0 ≤ v1 → ((z13 ≤ v1 → Q 0 h6) ∧ (v1 < z13 → ((0 ≤ v2 → ((10 ≤ v2 → Q 0 h6) ∧ (v2 < 10 → ∀ z14 : Int, z14 = h6 34 1 → ((z14 < 7 → ∀ (v7 : Int) (h7 : fH), fS 28 [34, v1, v2] h6 v7 h7 → Q 1 h7) ∧ (7 ≤ z14 → Q 0 h6))))) ∧ (v2 < 0 → Q 0 h6))))))) ∧ (v6 ≠ 112 → ((v6 = 119 → ((v1 < 0 → Q 0 h6) ∧ (0 ≤ v1 → ∀ z13 : Int, z13 = h6 34 1 → ((z13 ≤ v1 → Q 0 h6) ∧ (v1 < z13 → ((v2 < 0 → Q 0 h6) ∧ (0 ≤ v2 → ((7 ≤ v2 → Q 0 h6) ∧ (v2 < 7 → ∀ h7 : fH, h7 = fu h6 40 v1 v2 → Q 1 h7))))))))) ∧ (v6 ≠ 119 → Q 0 h6))))))))))))) : Q v h' := by
  exact x_mef vc_tellInMind_k hs (fun _ _ _ => False) Q h0 (fun i Ti hT => by cases hT)
noncomputable def vt_come_T : xT := [(0, [.inl 0], 1, 0), (13, [.inl 0, .inl 3, .inl 1, .inl 2], 29, 0), (4, [.inl 0], 0, 6), (0, [.inl 0], 1, 0), (0, [.inl 0], 1, 0), (3, [.inl 5, .inl 6, .inl 7], 0, 0), (4, [.inl 0], 0, 7), (0, [.inl 0], 1, 0), (3, [.inl 8, .inl 9, .inr 0], 0, 0), (4, [.inl 0], 0, 8), (0, [.inl 0], 1, 0), (3, [.inl 10, .inl 11, .inr (-9)], 0, 0),
  (4, [.inl 0], 0, 9), (0, [.inl 0], 1, 0), (5, [.inl 12, .inl 13], 0, 1), (13, [.inl 14, .inr 5], 47, 0), (0, [.inl 0], 1, 0), (8, [.inl 16, .inr 1], 0, 0), (2, [.inl 0, .inl 17], 1, 0), (11, [.inr 0], 0, 0)]
theorem vt_come_k : x_chk 28 [] vt_come_T [] 600 = true := by decide +kernel
theorem vt_come {a0 a1 a2 v : Int} {h h' : fH} (hs : fS 28 [a0, a1, a2] h v h') (Q : Int → fH → Prop) (h0 : ∀ z3 : Int, z3 = h a0 1 → ∀ (v1 : Int) (h1 : fH), fS 29 [a0, z3, a1, a2] h v1 h1 → ∀ z5 : Int, z5 = a0 + 6 → ∀ z6 : Int, z6 = h1 a0 1 → ∀ z7 : Int, z7 = h1 a0 1 → ∀ h2 : fH, h2 = fu h1 z5 z6 z7 → ∀ z8 : Int, z8 = a0 + 7 → ∀ z9 : Int, z9 = h2 a0 1 → ∀ h3 : fH, h3 = fu h2 z8 z9 0 → ∀ z10 : Int, z10 = a0 + 8 → ∀ z11 : Int, z11 = h3 a0 1 → ∀ h4 : fH, h4 = fu h3 z10 z11 (-9) → ∀ z12 : Int, z12 = a0 + 9 → ∀ z13 : Int, z13 = h4 a0 1 → ∀ z14 : Int, z14 = z12 + 1 + 1 * z13 → ∀ (v5 : Int) (h5 : fH), fS 47 [z14, 5] h4 v5 h5 → ∀ z16 : Int, z16 = h5 a0 1 → ∀ z17 : Int, z17 = wr (z16 + 1) → ∀ h6 : fH, h6 = fu h5 a0 1 z17 → Q 0 h6) : Q v h' := by
  exact x_mef vt_come_k hs (fun _ _ _ => False) Q h0 (fun i Ti hT => by cases hT)
noncomputable def vt_become_T : xT := [(4, [.inl 0], 0, 1), (3, [.inl 4, .inl 1, .inl 2], 0, 0), (4, [.inl 0], 0, 2), (3, [.inl 5, .inl 1, .inl 3], 0, 0), (4, [.inl 0], 0, 3), (5, [.inr 4, .inl 2], 0, 1), (10, [.inl 7, .inr 5], 0, 3), (13, [.inl 7, .inl 3], 35, 0), (3, [.inl 6, .inl 1, .inl 8], 0, 0), (12, [.inl 0, .inl 1, .inl 2, .inl 3], 0, 0), (10, [.inl 7, .inr 6], 0, 3), (13, [.inl 7, .inl 3], 30, 0),
  (3, [.inl 6, .inl 1, .inl 8], 0, 0), (12, [.inl 0, .inl 1, .inl 2, .inl 3], 0, 0), (10, [.inl 7, .inr 8], 0, 3), (13, [.inl 7, .inl 3], 31, 0), (3, [.inl 6, .inl 1, .inl 8], 0, 0), (12, [.inl 0, .inl 1, .inl 2, .inl 3], 0, 0), (10, [.inl 7, .inr 7], 0, 3), (13, [.inl 7, .inl 3], 32, 0), (3, [.inl 6, .inl 1, .inl 8], 0, 0), (12, [.inl 0, .inl 1, .inl 2, .inl 3], 0, 0), (10, [.inl 7, .inr 10], 0, 3), (13, [.inl 7, .inl 3], 33, 0),
  (3, [.inl 6, .inl 1, .inl 8], 0, 0), (12, [.inl 0, .inl 1, .inl 2, .inl 3], 0, 0), (10, [.inl 7, .inr 9], 0, 3), (13, [.inl 7, .inl 3], 34, 0), (3, [.inl 6, .inl 1, .inl 8], 0, 0), (12, [.inl 0, .inl 1, .inl 2, .inl 3], 0, 0), (14, [], 0, 0)]
noncomputable def vt_become_T0 : xT := [(4, [.inl 0], 0, 4), (5, [.inr 4, .inl 2], 0, 1), (10, [.inl 5, .inr 5], 0, 3), (13, [.inl 5, .inl 3], 41, 0), (3, [.inl 4, .inl 1, .inl 6], 0, 0), (12, [.inl 0, .inl 1, .inl 2], 1, 0), (10, [.inl 5, .inr 6], 0, 3), (13, [.inl 5, .inl 3], 36, 0), (3, [.inl 4, .inl 1, .inl 6], 0, 0), (12, [.inl 0, .inl 1, .inl 2], 1, 0), (10, [.inl 5, .inr 8], 0, 3), (13, [.inl 5, .inl 3], 37, 0),
  (3, [.inl 4, .inl 1, .inl 6], 0, 0), (12, [.inl 0, .inl 1, .inl 2], 1, 0), (10, [.inl 5, .inr 7], 0, 3), (13, [.inl 5, .inl 3], 38, 0), (3, [.inl 4, .inl 1, .inl 6], 0, 0), (12, [.inl 0, .inl 1, .inl 2], 1, 0), (10, [.inl 5, .inr 10], 0, 3), (13, [.inl 5, .inl 3], 39, 0), (3, [.inl 4, .inl 1, .inl 6], 0, 0), (12, [.inl 0, .inl 1, .inl 2], 1, 0), (10, [.inl 5, .inr 9], 0, 3), (13, [.inl 5, .inl 3], 40, 0),
  (3, [.inl 4, .inl 1, .inl 6], 0, 0), (12, [.inl 0, .inl 1, .inl 2], 1, 0), (14, [], 0, 0)]
noncomputable def vt_become_T1 : xT := [(4, [.inl 0], 0, 5), (5, [.inr 4, .inl 2], 0, 1), (10, [.inl 4, .inr 5], 0, 3), (13, [.inl 4], 46, 0), (3, [.inl 3, .inl 1, .inl 5], 0, 0), (11, [.inr 0], 0, 0), (10, [.inl 4, .inr 6], 0, 3), (13, [.inl 4], 42, 0), (3, [.inl 3, .inl 1, .inl 5], 0, 0), (11, [.inr 0], 0, 0), (10, [.inl 4, .inr 8], 0, 3), (13, [.inl 4], 46, 0),
  (3, [.inl 3, .inl 1, .inl 5], 0, 0), (11, [.inr 0], 0, 0), (10, [.inl 4, .inr 7], 0, 3), (13, [.inl 4], 43, 0), (3, [.inl 3, .inl 1, .inl 5], 0, 0), (11, [.inr 0], 0, 0), (10, [.inl 4, .inr 10], 0, 3), (13, [.inl 4], 44, 0), (3, [.inl 3, .inl 1, .inl 5], 0, 0), (11, [.inr 0], 0, 0), (10, [.inl 4, .inr 9], 0, 3), (13, [.inl 4], 45, 0),
  (3, [.inl 3, .inl 1, .inl 5], 0, 0), (11, [.inr 0], 0, 0), (14, [], 0, 0)]
theorem vt_become_k : x_chk 29 [(30, [(0, 0), (1, 0), (2, 0), (3, 0)]), (46, [(0, 0), (1, 0), (2, 0)])] vt_become_T [vt_become_T0, vt_become_T1] 600 = true := by decide +kernel
theorem vt_become {a0 a1 a2 a3 v : Int} {h h' : fH} (hs : fS 29 [a0, a1, a2, a3] h v h') (I0 : Int → Int → Int → Int → fH → Prop) (I1 : Int → Int → Int → fH → Prop) (Q : Int → fH → Prop) (h0 : ∀ z4 : Int, z4 = a0 + 1 → ∀ h1 : fH, h1 = fu h z4 a1 a2 → ∀ z5 : Int, z5 = a0 + 2 → ∀ h2 : fH, h2 = fu h1 z5 a1 a3 → ∀ z6 : Int, z6 = a0 + 3 → ∀ z7 : Int, z7 = 4 + 1 + 1 * a2 → ((z7 = 5 → ∀ (v3 : Int) (h3 : fH), fS 35 [z7, a3] h2 v3 h3 → ∀ h4 : fH, h4 = fu h3 z6 a1 v3 → I0 a0 a1 a2 a3 h4) ∧ (z7 ≠ 5 → ((z7 = 6 → ∀ (v3 : Int) (h3 : fH), fS 30 [z7, a3] h2 v3 h3 → ∀ h4 : fH, h4 = fu h3 z6 a1 v3 → I0 a0 a1 a2 a3 h4) ∧ (z7 ≠ 6 → ((z7 = 8 → ∀ (v3 : Int) (h3 : fH), fS 31 [z7, a3] h2 v3 h3 → ∀ h4 : fH, h4 = fu h3 z6 a1 v3 → I0 a0 a1 a2 a3 h4) ∧ (z7 ≠ 8 → ((z7 = 7 → ∀ (v3 : Int) (h3 : fH), fS 32 [z7, a3] h2 v3 h3 → ∀ h4 : fH, h4 = fu h3 z6 a1 v3 → I0 a0 a1 a2 a3 h4) ∧ (z7 ≠ 7 → ((z7 = 10 → ∀ (v3 : Int) (h3 : fH), fS 33 [z7, a3] h2 v3 h3 → ∀ h4 : fH, h4 = fu h3 z6 a1 v3 → I0 a0 a1 a2 a3 h4) ∧ (z7 ≠ 10 → ((z7 = 9 → ∀ (v3 : Int) (h3 : fH), fS 34 [z7, a3] h2 v3 h3 → ∀ h4 : fH, h4 = fu h3 z6 a1 v3 → I0 a0 a1 a2 a3 h4) ∧ (z7 ≠ 9 → True))))))))))))) (k0 : ∀ (x0 x1 x2 x3 : Int) (h : fH), I0 x0 x1 x2 x3 h → ∀ z4 : Int, z4 = x0 + 4 → ∀ z5 : Int, z5 = 4 + 1 + 1 * x2 → ((z5 = 5 → ∀ (v1 : Int) (h1 : fH), fS 41 [z5, x3] h v1 h1 → ∀ h2 : fH, h2 = fu h1 z4 x1 v1 → I1 x0 x1 x2 h2) ∧ (z5 ≠ 5 → ((z5 = 6 → ∀ (v1 : Int) (h1 : fH), fS 36 [z5, x3] h v1 h1 → ∀ h2 : fH, h2 = fu h1 z4 x1 v1 → I1 x0 x1 x2 h2) ∧ (z5 ≠ 6 → ((z5 = 8 → ∀ (v1 : Int) (h1 : fH), fS 37 [z5, x3] h v1 h1 → ∀ h2 : fH, h2 = fu h1 z4 x1 v1 → I1 x0 x1 x2 h2) ∧ (z5 ≠ 8 → ((z5 = 7 → ∀ (v1 : Int) (h1 : fH), fS 38 [z5, x3] h v1 h1 → ∀ h2 : fH, h2 = fu h1 z4 x1 v1 → I1 x0 x1 x2 h2) ∧ (z5 ≠ 7 → ((z5 = 10 → ∀ (v1 : Int) (h1 : fH), fS 39 [z5, x3] h v1 h1 → ∀ h2 : fH, h2 = fu h1 z4 x1 v1 → I1 x0 x1 x2 h2) ∧ (z5 ≠ 10 → ((z5 = 9 → ∀ (v1 : Int) (h1 : fH), fS 40 [z5, x3] h v1 h1 → ∀ h2 : fH, h2 = fu h1 z4 x1 v1 → I1 x0 x1 x2 h2) ∧ (z5 ≠ 9 → True))))))))))))) (k1 : ∀ (x0 x1 x2 : Int) (h : fH), I1 x0 x1 x2 h → ∀ z3 : Int, z3 = x0 + 5 → ∀ z4 : Int, z4 = 4 + 1 + 1 * x2 → ((z4 = 5 → ∀ (v1 : Int) (h1 : fH), fS 46 [z4] h v1 h1 → ∀ h2 : fH, h2 = fu h1 z3 x1 v1 → Q 0 h2) ∧ (z4 ≠ 5 → ((z4 = 6 → ∀ (v1 : Int) (h1 : fH), fS 42 [z4] h v1 h1 → ∀ h2 : fH, h2 = fu h1 z3 x1 v1 → Q 0 h2) ∧ (z4 ≠ 6 → ((z4 = 8 → ∀ (v1 : Int) (h1 : fH), fS 46 [z4] h v1 h1 → ∀ h2 : fH, h2 = fu h1 z3 x1 v1 → Q 0 h2) ∧ (z4 ≠ 8 → ((z4 = 7 → ∀ (v1 : Int) (h1 : fH), fS 43 [z4] h v1 h1 → ∀ h2 : fH, h2 = fu h1 z3 x1 v1 → Q 0 h2) ∧ (z4 ≠ 7 → ((z4 = 10 → ∀ (v1 : Int) (h1 : fH), fS 44 [z4] h v1 h1 → ∀ h2 : fH, h2 = fu h1 z3 x1 v1 → Q 0 h2) ∧ (z4 ≠ 10 → ((z4 = 9 → ∀ (v1 : Int) (h1 : fH), fS 45 [z4] h v1 h1 → ∀ h2 : fH, h2 = fu h1 z3 x1 v1 → Q 0 h2) ∧ (z4 ≠ 9 → True))))))))))))) : Q v h' := by
  refine x_mef vt_become_k hs (fun k l h => match k with
    | 0 => (match l with | [x0, x1, x2, x3] => I0 x0 x1 x2 x3 h | _ => False)
    | 1 => (match l with | [x0, x1, x2] => I1 x0 x1 x2 h | _ => False)
    | _ => False) Q h0 ?_
  intro i Ti hT vals h hi
  match i, hT, hi with
  | 0, hT, hi =>
    cases hT
    match vals, hi with
    | [x0, x1, x2, x3], hi => exact k0 _ _ _ _ _ hi
    | [], hi => exact False.elim hi
    | [_], hi => exact False.elim hi
    | [_, _], hi => exact False.elim hi
    | [_, _, _], hi => exact False.elim hi
    | _ :: _ :: _ :: _ :: _ :: _, hi => exact False.elim hi
  | 1, hT, hi =>
    cases hT
    match vals, hi with
    | [x0, x1, x2], hi => exact k1 _ _ _ _ hi
    | [], hi => exact False.elim hi
    | [_], hi => exact False.elim hi
    | [_, _], hi => exact False.elim hi
    | _ :: _ :: _ :: _ :: _, hi => exact False.elim hi
  | _ + 2, hT, _ => cases hT
end
section
/-! the trees of the methods (made by a program) -/
noncomputable def vk_Aunt_asks_T : xT := [(13, [.inl 0, .inl 1], 35, 0), (8, [.inl 2, .inr 1], 0, 0), (11, [.inl 3], 0, 0)]
theorem vk_Aunt_asks_k : x_chk 30 [] vk_Aunt_asks_T [] 600 = true := by decide +kernel
theorem vk_Aunt_asks {a0 a1 v : Int} {h h' : fH} (hs : fS 30 [a0, a1] h v h') (Q : Int → fH → Prop) (h0 : ∀ (v1 : Int) (h1 : fH), fS 35 [a0, a1] h v1 h1 → ∀ z3 : Int, z3 = wr (v1 + 1) → Q z3 h1) : Q v h' := by
  exact x_mef vk_Aunt_asks_k hs (fun _ _ _ => False) Q h0 (fun i Ti hT => by cases hT)
noncomputable def vk_Gambler_asks_T : xT := [(11, [.inr 0], 0, 0)]
theorem vk_Gambler_asks_k : x_chk 31 [] vk_Gambler_asks_T [] 600 = true := by decide +kernel
theorem vk_Gambler_asks {a0 a1 v : Int} {h h' : fH} (hs : fS 31 [a0, a1] h v h') (Q : Int → fH → Prop) (h0 : Q 0 h) : Q v h' := by
  exact x_mef vk_Gambler_asks_k hs (fun _ _ _ => False) Q h0 (fun i Ti hT => by cases hT)
noncomputable def vk_Girl_asks_T : xT := [(11, [.inl 1], 0, 0)]
theorem vk_Girl_asks_k : x_chk 32 [] vk_Girl_asks_T [] 600 = true := by decide +kernel
theorem vk_Girl_asks {a0 a1 v : Int} {h h' : fH} (hs : fS 32 [a0, a1] h v h') (Q : Int → fH → Prop) (h0 : Q a1 h) : Q v h' := by
  exact x_mef vk_Girl_asks_k hs (fun _ _ _ => False) Q h0 (fun i Ti hT => by cases hT)
noncomputable def vk_Honest_asks_T : xT := [(13, [.inl 0, .inl 1], 31, 0), (8, [.inl 2, .inr 3], 0, 0), (11, [.inl 3], 0, 0)]
theorem vk_Honest_asks_k : x_chk 33 [] vk_Honest_asks_T [] 600 = true := by decide +kernel
theorem vk_Honest_asks {a0 a1 v : Int} {h h' : fH} (hs : fS 33 [a0, a1] h v h') (Q : Int → fH → Prop) (h0 : ∀ (v1 : Int) (h1 : fH), fS 31 [a0, a1] h v1 h1 → ∀ z3 : Int, z3 = wr (v1 + 3) → Q z3 h1) : Q v h' := by
  exact x_mef vk_Honest_asks_k hs (fun _ _ _ => False) Q h0 (fun i Ti hT => by cases hT)
noncomputable def vk_Rich_asks_T : xT := [(13, [.inl 0, .inl 1], 30, 0), (8, [.inl 1, .inr 3], 9, 0), (8, [.inl 2, .inl 3], 0, 0), (11, [.inl 4], 0, 0)]
theorem vk_Rich_asks_k : x_chk 34 [] vk_Rich_asks_T [] 600 = true := by decide +kernel
theorem vk_Rich_asks {a0 a1 v : Int} {h h' : fH} (hs : fS 34 [a0, a1] h v h') (Q : Int → fH → Prop) (h0 : ∀ (v1 : Int) (h1 : fH), fS 30 [a0, a1] h v1 h1 → ∀ z3 : Int, z3 = xdiv a1 3 → ∀ z4 : Int, z4 = wr (v1 + z3) → Q z4 h1) : Q v h' := by
  exact x_mef vk_Rich_asks_k hs (fun _ _ _ => False) Q h0 (fun i Ti hT => by cases hT)
noncomputable def vk_Suitor_asks_T : xT := [(11, [.inr 5], 0, 0)]
theorem vk_Suitor_asks_k : x_chk 35 [] vk_Suitor_asks_T [] 600 = true := by decide +kernel
theorem vk_Suitor_asks {a0 a1 v : Int} {h h' : fH} (hs : fS 35 [a0, a1] h v h') (Q : Int → fH → Prop) (h0 : Q 5 h) : Q v h' := by
  exact x_mef vk_Suitor_asks_k hs (fun _ _ _ => False) Q h0 (fun i Ti hT => by cases hT)
noncomputable def vk_Aunt_weeps_T : xT := [(13, [.inl 0, .inl 1], 41, 0), (8, [.inl 2, .inr 3], 1, 0), (11, [.inl 3], 0, 0)]
theorem vk_Aunt_weeps_k : x_chk 36 [] vk_Aunt_weeps_T [] 600 = true := by decide +kernel
theorem vk_Aunt_weeps {a0 a1 v : Int} {h h' : fH} (hs : fS 36 [a0, a1] h v h') (Q : Int → fH → Prop) (h0 : ∀ (v1 : Int) (h1 : fH), fS 41 [a0, a1] h v1 h1 → ∀ z3 : Int, z3 = wr (v1 - 3) → Q z3 h1) : Q v h' := by
  exact x_mef vk_Aunt_weeps_k hs (fun _ _ _ => False) Q h0 (fun i Ti hT => by cases hT)
noncomputable def vk_Gambler_weeps_T : xT := [(11, [.inr 0], 0, 0)]
theorem vk_Gambler_weeps_k : x_chk 37 [] vk_Gambler_weeps_T [] 600 = true := by decide +kernel
theorem vk_Gambler_weeps {a0 a1 v : Int} {h h' : fH} (hs : fS 37 [a0, a1] h v h') (Q : Int → fH → Prop) (h0 : Q 0 h) : Q v h' := by
  exact x_mef vk_Gambler_weeps_k hs (fun _ _ _ => False) Q h0 (fun i Ti hT => by cases hT)
noncomputable def vk_Girl_weeps_T : xT := [(13, [.inl 0, .inl 1], 41, 0), (8, [.inr 2, .inl 2], 2, 0), (11, [.inl 3], 0, 0)]
theorem vk_Girl_weeps_k : x_chk 38 [] vk_Girl_weeps_T [] 600 = true := by decide +kernel
theorem vk_Girl_weeps {a0 a1 v : Int} {h h' : fH} (hs : fS 38 [a0, a1] h v h') (Q : Int → fH → Prop) (h0 : ∀ (v1 : Int) (h1 : fH), fS 41 [a0, a1] h v1 h1 → ∀ z3 : Int, z3 = wr (2 * v1) → Q z3 h1) : Q v h' := by
  exact x_mef vk_Girl_weeps_k hs (fun _ _ _ => False) Q h0 (fun i Ti hT => by cases hT)
noncomputable def vk_Honest_weeps_T : xT := [(13, [.inl 0, .inl 1], 37, 0), (8, [.inl 2, .inl 1], 0, 0), (11, [.inl 3], 0, 0)]
theorem vk_Honest_weeps_k : x_chk 39 [] vk_Honest_weeps_T [] 600 = true := by decide +kernel
theorem vk_Honest_weeps {a0 a1 v : Int} {h h' : fH} (hs : fS 39 [a0, a1] h v h') (Q : Int → fH → Prop) (h0 : ∀ (v1 : Int) (h1 : fH), fS 37 [a0, a1] h v1 h1 → ∀ z3 : Int, z3 = wr (v1 + a1) → Q z3 h1) : Q v h' := by
  exact x_mef vk_Honest_weeps_k hs (fun _ _ _ => False) Q h0 (fun i Ti hT => by cases hT)
noncomputable def vk_Rich_weeps_T : xT := [(13, [.inl 0, .inl 1], 36, 0), (8, [.inl 2, .inr 1], 0, 0), (11, [.inl 3], 0, 0)]
theorem vk_Rich_weeps_k : x_chk 40 [] vk_Rich_weeps_T [] 600 = true := by decide +kernel
theorem vk_Rich_weeps {a0 a1 v : Int} {h h' : fH} (hs : fS 40 [a0, a1] h v h') (Q : Int → fH → Prop) (h0 : ∀ (v1 : Int) (h1 : fH), fS 36 [a0, a1] h v1 h1 → ∀ z3 : Int, z3 = wr (v1 + 1) → Q z3 h1) : Q v h' := by
  exact x_mef vk_Rich_weeps_k hs (fun _ _ _ => False) Q h0 (fun i Ti hT => by cases hT)
noncomputable def vk_Suitor_weeps_T : xT := [(11, [.inr 5], 0, 0)]
theorem vk_Suitor_weeps_k : x_chk 41 [] vk_Suitor_weeps_T [] 600 = true := by decide +kernel
theorem vk_Suitor_weeps {a0 a1 v : Int} {h h' : fH} (hs : fS 41 [a0, a1] h v h') (Q : Int → fH → Prop) (h0 : Q 5 h) : Q v h' := by
  exact x_mef vk_Suitor_weeps_k hs (fun _ _ _ => False) Q h0 (fun i Ti hT => by cases hT)
noncomputable def vk_Aunt_learns_T : xT := [(11, [.inr 0], 0, 0)]
theorem vk_Aunt_learns_k : x_chk 42 [] vk_Aunt_learns_T [] 600 = true := by decide +kernel
theorem vk_Aunt_learns {a0 v : Int} {h h' : fH} (hs : fS 42 [a0] h v h') (Q : Int → fH → Prop) (h0 : Q 0 h) : Q v h' := by
  exact x_mef vk_Aunt_learns_k hs (fun _ _ _ => False) Q h0 (fun i Ti hT => by cases hT)
noncomputable def vk_Girl_learns_T : xT := [(13, [.inl 0], 46, 0), (8, [.inl 1, .inr 1], 0, 0), (11, [.inl 2], 0, 0)]
theorem vk_Girl_learns_k : x_chk 43 [] vk_Girl_learns_T [] 600 = true := by decide +kernel
theorem vk_Girl_learns {a0 v : Int} {h h' : fH} (hs : fS 43 [a0] h v h') (Q : Int → fH → Prop) (h0 : ∀ (v1 : Int) (h1 : fH), fS 46 [a0] h v1 h1 → ∀ z2 : Int, z2 = wr (v1 + 1) → Q z2 h1) : Q v h' := by
  exact x_mef vk_Girl_learns_k hs (fun _ _ _ => False) Q h0 (fun i Ti hT => by cases hT)
noncomputable def vk_Honest_learns_T : xT := [(13, [.inl 0], 46, 0), (8, [.inl 1, .inr 2], 0, 0), (11, [.inl 2], 0, 0)]
theorem vk_Honest_learns_k : x_chk 44 [] vk_Honest_learns_T [] 600 = true := by decide +kernel
theorem vk_Honest_learns {a0 v : Int} {h h' : fH} (hs : fS 44 [a0] h v h') (Q : Int → fH → Prop) (h0 : ∀ (v1 : Int) (h1 : fH), fS 46 [a0] h v1 h1 → ∀ z2 : Int, z2 = wr (v1 + 2) → Q z2 h1) : Q v h' := by
  exact x_mef vk_Honest_learns_k hs (fun _ _ _ => False) Q h0 (fun i Ti hT => by cases hT)
noncomputable def vk_Rich_learns_T : xT := [(13, [.inl 0], 42, 0), (8, [.inl 1, .inr 1], 0, 0), (11, [.inl 2], 0, 0)]
theorem vk_Rich_learns_k : x_chk 45 [] vk_Rich_learns_T [] 600 = true := by decide +kernel
theorem vk_Rich_learns {a0 v : Int} {h h' : fH} (hs : fS 45 [a0] h v h') (Q : Int → fH → Prop) (h0 : ∀ (v1 : Int) (h1 : fH), fS 42 [a0] h v1 h1 → ∀ z2 : Int, z2 = wr (v1 + 1) → Q z2 h1) : Q v h' := by
  exact x_mef vk_Rich_learns_k hs (fun _ _ _ => False) Q h0 (fun i Ti hT => by cases hT)
noncomputable def vk_Suitor_learns_T : xT := [(11, [.inr 1], 0, 0)]
theorem vk_Suitor_learns_k : x_chk 46 [] vk_Suitor_learns_T [] 600 = true := by decide +kernel
theorem vk_Suitor_learns {a0 v : Int} {h h' : fH} (hs : fS 46 [a0] h v h') (Q : Int → fH → Prop) (h0 : Q 1 h) : Q v h' := by
  exact x_mef vk_Suitor_learns_k hs (fun _ _ _ => False) Q h0 (fun i Ti hT => by cases hT)
noncomputable def vj_fill_T : xT := [(6, [.inl 0], 0, 0), (12, [.inl 0, .inl 1, .inr 0, .inl 2], 0, 0)]
noncomputable def vj_fill_T0 : xT := [(10, [.inl 2, .inl 3], 3, 1), (11, [.inr 0], 0, 0), (3, [.inl 0, .inl 2, .inl 1], 0, 0), (8, [.inl 2, .inr 1], 0, 0), (12, [.inl 0, .inl 1, .inl 4, .inl 3], 0, 0)]
theorem vj_fill_k : x_chk 47 [(5, [(0, 0), (1, 0), (2, 0), (3, 0)])] vj_fill_T [vj_fill_T0] 600 = true := by decide +kernel
theorem vj_fill {a0 a1 v : Int} {h h' : fH} (hs : fS 47 [a0, a1] h v h') (I0 : Int → Int → Int → Int → fH → Prop) (Q : Int → fH → Prop) (h0 : ∀ z2 : Int, z2 = f_len a0 → I0 a0 a1 0 z2 h) (k0 : ∀ (x0 x1 x2 x3 : Int) (h : fH), I0 x0 x1 x2 x3 h → ((x3 ≤ x2 → Q 0 h) ∧ (x2 < x3 → ∀ h1 : fH, h1 = fu h x0 x2 x1 → ∀ z4 : Int, z4 = wr (x2 + 1) → I0 x0 x1 z4 x3 h1))) : Q v h' := by
  refine x_mef vj_fill_k hs (fun k l h => match k with
    | 0 => (match l with | [x0, x1, x2, x3] => I0 x0 x1 x2 x3 h | _ => False)
    | _ => False) Q h0 ?_
  intro i Ti hT vals h hi
  match i, hT, hi with
  | 0, hT, hi =>
    cases hT
    match vals, hi with
    | [x0, x1, x2, x3], hi => exact k0 _ _ _ _ _ hi
    | [], hi => exact False.elim hi
    | [_], hi => exact False.elim hi
    | [_, _], hi => exact False.elim hi
    | [_, _, _], hi => exact False.elim hi
    | _ :: _ :: _ :: _ :: _ :: _, hi => exact False.elim hi
  | _ + 1, hT, _ => cases hT
noncomputable def vt_refusalToPropose_T : xT := [(10, [.inl 1, .inr 0], 2, 1), (11, [.inr (-1)], 0, 0), (0, [.inl 0], 1, 0), (10, [.inl 1, .inl 6], 3, 1), (11, [.inr (-1)], 0, 0), (10, [.inl 2, .inr 0], 2, 1), (11, [.inr (-1)], 0, 0), (0, [.inl 0], 1, 0), (10, [.inl 2, .inl 7], 3, 1), (11, [.inr (-1)], 0, 0), (10, [.inl 1, .inl 2], 0, 1), (11, [.inr (-1)], 0, 0),
  (10, [.inl 3, .inr 0], 2, 1), (11, [.inr (-1)], 0, 0), (10, [.inl 3, .inr 5], 3, 1), (11, [.inr (-1)], 0, 0), (10, [.inl 4, .inr 0], 2, 1), (11, [.inr (-2)], 0, 0), (10, [.inl 4, .inr 2], 3, 1), (11, [.inr (-2)], 0, 0), (10, [.inl 5, .inr 1], 3, 9), (10, [.inl 5, .inr 9], 5, 7), (0, [.inl 0], 14, 0), (10, [.inl 8, .inr 3], 3, 1),
  (11, [.inr (-3)], 0, 0), (13, [.inl 0, .inl 1, .inl 2, .inl 3, .inl 4], 56, 0), (10, [.inl 9, .inr 0], 0, 1), (11, [.inr (-3)], 0, 0), (11, [.inr 0], 0, 0), (11, [.inr (-6)], 0, 0), (11, [.inr (-4)], 0, 0)]
theorem vt_refusalToPropose_k : x_chk 54 [] vt_refusalToPropose_T [] 600 = true := by decide +kernel
theorem vt_refusalToPropose {a0 a1 a2 a3 a4 a5 v : Int} {h h' : fH} (hs : fS 54 [a0, a1, a2, a3, a4, a5] h v h') (Q : Int → fH → Prop) (h0 : ((a1 < 0 → Q (-1) h) ∧ (0 ≤ a1 → ∀ z6 : Int, z6 = h a0 1 → ((z6 ≤ a1 → Q (-1) h) ∧ (a1 < z6 → ((a2 < 0 → Q (-1) h) ∧ (0 ≤ a2 → ∀ z7 : Int, z7 = h a0 1 → ((z7 ≤ a2 → Q (-1) h) ∧ (a2 < z7 → ((a1 = a2 → Q (-1) h) ∧ (a1 ≠ a2 → ((a3 < 0 → Q (-1) h) ∧ (0 ≤ a3 → ((5 ≤ a3 → Q (-1) h) ∧ (a3 < 5 → ((a4 < 0 → Q (-2) h) ∧ (0 ≤ a4 → ((2 ≤ a4 → Q (-2) h) ∧ (a4 < 2 → ((1 ≤ a5 → ((a5 ≤ 9 → ∀ z8 : Int, z8 = h a0 14 → ((3 ≤ z8 → Q (-3) h) ∧ (z8 < 3 → ∀ (v1 : Int) (h1 : fH), fS 56 [a0, a1, a2, a3, a4] h v1 h1 → ((v1 = 0 → Q (-3) h1) ∧ (v1 ≠ 0 → Q 0 h1))))) ∧ (9 < a5 → Q (-6) h))) ∧ (a5 < 1 → Q (-4) h))))))))))))))))))))) : Q v h' := by
  exact x_mef vt_refusalToPropose_k hs (fun _ _ _ => False) Q h0 (fun i Ti hT => by cases hT)
noncomputable def vt_canBe_T : xT := [(13, [.inl 0, .inl 1], 57, 0), (10, [.inl 5, .inr 0], 0, 1), (11, [.inr 0], 0, 0), (13, [.inl 0, .inl 2], 57, 0), (10, [.inl 6, .inr 0], 0, 1), (11, [.inr 0], 0, 0), (13, [.inl 0, .inl 1, .inl 3, .inl 4], 60, 0), (10, [.inl 7, .inr 4], 4, 1), (11, [.inr 0], 0, 0), (13, [.inl 0, .inl 2, .inl 1, .inl 3, .inl 4], 61, 0), (10, [.inl 8, .inr 0], 0, 1), (11, [.inr 0], 0, 0),
  (11, [.inr 1], 0, 0)]
theorem vt_canBe_k : x_chk 56 [] vt_canBe_T [] 600 = true := by decide +kernel
theorem vt_canBe {a0 a1 a2 a3 a4 v : Int} {h h' : fH} (hs : fS 56 [a0, a1, a2, a3, a4] h v h') (Q : Int → fH → Prop) (h0 : ∀ (v1 : Int) (h1 : fH), fS 57 [a0, a1] h v1 h1 → ((v1 = 0 → Q 0 h1) ∧ (v1 ≠ 0 → ∀ (v2 : Int) (h2 : fH), fS 57 [a0, a2] h1 v2 h2 → ((v2 = 0 → Q 0 h2) ∧ (v2 ≠ 0 → ∀ (v3 : Int) (h3 : fH), fS 60 [a0, a1, a3, a4] h2 v3 h3 → ((4 < v3 → Q 0 h3) ∧ (v3 ≤ 4 → ∀ (v4 : Int) (h4 : fH), fS 61 [a0, a2, a1, a3, a4] h3 v4 h4 → ((v4 = 0 → Q 0 h4) ∧ (v4 ≠ 0 → Q 1 h4))))))))) : Q v h' := by
  exact x_mef vt_canBe_k hs (fun _ _ _ => False) Q h0 (fun i Ti hT => by cases hT)
noncomputable def vt_isFree_T : xT := [(4, [.inl 0], 0, 8), (1, [.inl 2, .inl 1], 0, 0), (10, [.inl 3, .inr (-9)], 0, 4), (13, [.inl 0, .inl 1], 59, 0), (10, [.inl 4, .inr 0], 3, 1), (11, [.inr 0], 0, 0), (11, [.inr 1], 0, 0), (11, [.inr 0], 0, 0)]
theorem vt_isFree_k : x_chk 57 [] vt_isFree_T [] 600 = true := by decide +kernel
theorem vt_isFree {a0 a1 v : Int} {h h' : fH} (hs : fS 57 [a0, a1] h v h') (Q : Int → fH → Prop) (h0 : ∀ z2 : Int, z2 = a0 + 8 → ∀ z3 : Int, z3 = h z2 a1 → ((z3 = (-9) → ∀ (v1 : Int) (h1 : fH), fS 59 [a0, a1] h v1 h1 → ((0 ≤ v1 → Q 0 h1) ∧ (v1 < 0 → Q 1 h1))) ∧ (z3 ≠ (-9) → Q 0 h))) : Q v h' := by
  exact x_mef vt_isFree_k hs (fun _ _ _ => False) Q h0 (fun i Ti hT => by cases hT)
noncomputable def vt_wagerWith_T : xT := [(12, [.inl 0, .inl 1, .inr 0], 0, 0)]
noncomputable def vt_wagerWith_T0 : xT := [(0, [.inl 0], 14, 0), (10, [.inl 2, .inl 3], 3, 1), (11, [.inr (-9)], 0, 0), (4, [.inl 0], 0, 19), (1, [.inl 4, .inl 2], 0, 0), (0, [.inl 5], 0, 0), (10, [.inl 6, .inl 1], 0, 1), (11, [.inl 2], 0, 0), (4, [.inl 0], 0, 19), (1, [.inl 7, .inl 2], 0, 0), (0, [.inl 8], 1, 0), (10, [.inl 9, .inl 1], 1, 2),
  (8, [.inl 2, .inr 1], 0, 0), (12, [.inl 0, .inl 1, .inl 10], 0, 0), (11, [.inl 2], 0, 0)]
theorem vt_wagerWith_k : x_chk 59 [(2, [(0, 0), (1, 0), (2, 0)])] vt_wagerWith_T [vt_wagerWith_T0] 600 = true := by decide +kernel
theorem vt_wagerWith {a0 a1 v : Int} {h h' : fH} (hs : fS 59 [a0, a1] h v h') (I0 : Int → Int → Int → fH → Prop) (Q : Int → fH → Prop) (h0 : I0 a0 a1 0 h) (k0 : ∀ (x0 x1 x2 : Int) (h : fH), I0 x0 x1 x2 h → ∀ z3 : Int, z3 = h x0 14 → ((z3 ≤ x2 → Q (-9) h) ∧ (x2 < z3 → ∀ z4 : Int, z4 = x0 + 19 → ∀ z5 : Int, z5 = h z4 x2 → ∀ z6 : Int, z6 = h z5 0 → ((z6 = x1 → Q x2 h) ∧ (z6 ≠ x1 → ∀ z7 : Int, z7 = x0 + 19 → ∀ z8 : Int, z8 = h z7 x2 → ∀ z9 : Int, z9 = h z8 1 → ((z9 ≠ x1 → ∀ z10 : Int, z10 = wr (x2 + 1) → I0 x0 x1 z10 h) ∧ (z9 = x1 → Q x2 h))))))) : Q v h' := by
  refine x_mef vt_wagerWith_k hs (fun k l h => match k with
    | 0 => (match l with | [x0, x1, x2] => I0 x0 x1 x2 h | _ => False)
    | _ => False) Q h0 ?_
  intro i Ti hT vals h hi
  match i, hT, hi with
  | 0, hT, hi =>
    cases hT
    match vals, hi with
    | [x0, x1, x2], hi => exact k0 _ _ _ _ hi
    | [], hi => exact False.elim hi
    | [_], hi => exact False.elim hi
    | [_, _], hi => exact False.elim hi
    | _ :: _ :: _ :: _ :: _, hi => exact False.elim hi
  | _ + 1, hT, _ => cases hT
noncomputable def vt_trust_T : xT := [(10, [.inl 3, .inr 1], 1, 5), (4, [.inl 0], 0, 9), (5, [.inl 4, .inl 1], 0, 1), (1, [.inl 5, .inl 2], 0, 0), (8, [.inr 9, .inl 6], 1, 0), (11, [.inl 7], 0, 0), (4, [.inl 0], 0, 9), (5, [.inl 4, .inl 1], 0, 1), (1, [.inl 5, .inl 2], 0, 0), (11, [.inl 6], 0, 0)]
theorem vt_trust_k : x_chk 60 [] vt_trust_T [] 600 = true := by decide +kernel
theorem vt_trust {a0 a1 a2 a3 v : Int} {h h' : fH} (hs : fS 60 [a0, a1, a2, a3] h v h') (Q : Int → fH → Prop) (h0 : ((a3 ≠ 1 → ∀ z4 : Int, z4 = a0 + 9 → ∀ z5 : Int, z5 = z4 + 1 + 1 * a1 → ∀ z6 : Int, z6 = h z5 a2 → ∀ z7 : Int, z7 = wr (9 - z6) → Q z7 h) ∧ (a3 = 1 → ∀ z4 : Int, z4 = a0 + 9 → ∀ z5 : Int, z5 = z4 + 1 + 1 * a1 → ∀ z6 : Int, z6 = h z5 a2 → Q z6 h))) : Q v h' := by
  exact x_mef vt_trust_k hs (fun _ _ _ => False) Q h0 (fun i Ti hT => by cases hT)
noncomputable def vt_wouldTake_T : xT := [(4, [.inl 0], 0, 6), (1, [.inl 5, .inl 1], 0, 0), (10, [.inl 6, .inl 2], 0, 1), (11, [.inr 1], 0, 0), (13, [.inl 0, .inl 1, .inl 3, .inl 4], 60, 0), (4, [.inl 0], 0, 3), (1, [.inl 8, .inl 1], 0, 0), (10, [.inl 7, .inl 9], 2, 1), (11, [.inr 0], 0, 0), (11, [.inr 1], 0, 0)]
theorem vt_wouldTake_k : x_chk 61 [] vt_wouldTake_T [] 600 = true := by decide +kernel
theorem vt_wouldTake {a0 a1 a2 a3 a4 v : Int} {h h' : fH} (hs : fS 61 [a0, a1, a2, a3, a4] h v h') (Q : Int → fH → Prop) (h0 : ∀ z5 : Int, z5 = a0 + 6 → ∀ z6 : Int, z6 = h z5 a1 → ((z6 = a2 → Q 1 h) ∧ (z6 ≠ a2 → ∀ (v1 : Int) (h1 : fH), fS 60 [a0, a1, a3, a4] h v1 h1 → ∀ z8 : Int, z8 = a0 + 3 → ∀ z9 : Int, z9 = h1 z8 a1 → ((v1 < z9 → Q 0 h1) ∧ (z9 ≤ v1 → Q 1 h1))))) : Q v h' := by
  exact x_mef vt_wouldTake_k hs (fun _ _ _ => False) Q h0 (fun i Ti hT => by cases hT)
noncomputable def vt_goOn_T : xT := [(12, [.inl 0, .inl 1, .inr 0], 0, 0)]
noncomputable def vt_goOn_T0 : xT := [(10, [.inl 2, .inl 1], 3, 1), (11, [.inr 0], 0, 0), (0, [.inl 0], 15, 0), (8, [.inl 3, .inr 1], 0, 0), (2, [.inl 0, .inl 4], 15, 0), (13, [.inl 0], 65, 0), (13, [.inl 0], 71, 0), (8, [.inl 2, .inr 1], 0, 0), (12, [.inl 0, .inl 1, .inl 7], 0, 0)]
theorem vt_goOn_k : x_chk 64 [(2, [(0, 0), (1, 0), (2, 0)])] vt_goOn_T [vt_goOn_T0] 600 = true := by decide +kernel
theorem vt_goOn {a0 a1 v : Int} {h h' : fH} (hs : fS 64 [a0, a1] h v h') (I0 : Int → Int → Int → fH → Prop) (Q : Int → fH → Prop) (h0 : I0 a0 a1 0 h) (k0 : ∀ (x0 x1 x2 : Int) (h : fH), I0 x0 x1 x2 h → ((x1 ≤ x2 → Q 0 h) ∧ (x2 < x1 → ∀ z3 : Int, z3 = h x0 15 → ∀ z4 : Int, z4 = wr (z3 + 1) → ∀ h1 : fH, h1 = fu h x0 15 z4 → ∀ (v2 : Int) (h2 : fH), fS 65 [x0] h1 v2 h2 → ∀ (v3 : Int) (h3 : fH), fS 71 [x0] h2 v3 h3 → ∀ z7 : Int, z7 = wr (x2 + 1) → I0 x0 x1 z7 h3))) : Q v h' := by
  refine x_mef vt_goOn_k hs (fun k l h => match k with
    | 0 => (match l with | [x0, x1, x2] => I0 x0 x1 x2 h | _ => False)
    | _ => False) Q h0 ?_
  intro i Ti hT vals h hi
  match i, hT, hi with
  | 0, hT, hi =>
    cases hT
    match vals, hi with
    | [x0, x1, x2], hi => exact k0 _ _ _ _ hi
    | [], hi => exact False.elim hi
    | [_], hi => exact False.elim hi
    | [_, _], hi => exact False.elim hi
    | _ :: _ :: _ :: _ :: _, hi => exact False.elim hi
  | _ + 1, hT, _ => cases hT
noncomputable def vt_comeOut_T : xT := [(0, [.inl 0], 14, 0), (12, [.inl 0, .inr 0, .inl 1], 0, 0)]
noncomputable def vt_comeOut_T0 : xT := [(10, [.inl 2, .inr 0], 5, 1), (11, [.inr 0], 0, 0), (4, [.inl 0], 0, 19), (1, [.inl 3, .inl 1], 0, 0), (0, [.inl 4], 4, 0), (8, [.inl 5, .inr 1], 1, 0), (2, [.inl 4, .inl 6], 4, 0), (0, [.inl 4], 4, 0), (10, [.inl 7, .inr 0], 5, 11), (13, [.inl 0, .inl 1], 66, 0), (10, [.inl 8, .inr 0], 0, 3), (13, [.inl 0, .inl 1], 70, 0),
  (8, [.inl 2, .inr (-1)], 0, 0), (12, [.inl 0, .inl 1, .inl 10], 0, 0), (0, [.inl 4], 0, 0), (0, [.inl 4], 1, 0), (13, [.inl 0, .inl 9, .inl 10], 68, 0), (13, [.inl 0, .inl 1], 70, 0), (8, [.inl 2, .inr (-1)], 0, 0), (12, [.inl 0, .inl 1, .inl 13], 0, 0), (8, [.inl 1, .inr 1], 0, 0), (8, [.inl 2, .inr (-1)], 0, 0), (12, [.inl 0, .inl 8, .inl 9], 0, 0)]
theorem vt_comeOut_k : x_chk 65 [(7, [(0, 0), (1, 0), (2, 0)])] vt_comeOut_T [vt_comeOut_T0] 600 = true := by decide +kernel
theorem vt_comeOut {a0 v : Int} {h h' : fH} (hs : fS 65 [a0] h v h') (I0 : Int → Int → Int → fH → Prop) (Q : Int → fH → Prop) (h0 : ∀ z1 : Int, z1 = h a0 14 → I0 a0 0 z1 h) (k0 : ∀ (x0 x1 x2 : Int) (h : fH), I0 x0 x1 x2 h → ((x2 ≤ 0 → Q 0 h) ∧ (0 < x2 → ∀ z3 : Int, z3 = x0 + 19 → ∀ z4 : Int, z4 = h z3 x1 → ∀ z5 : Int, z5 = h z4 4 → ∀ z6 : Int, z6 = wr (z5 - 1) → ∀ h1 : fH, h1 = fu h z4 4 z6 → ∀ z7 : Int, z7 = h1 z4 4 → ((z7 ≤ 0 → ∀ (v2 : Int) (h2 : fH), fS 66 [x0, x1] h1 v2 h2 → ((v2 = 0 → ∀ (v3 : Int) (h3 : fH), fS 70 [x0, x1] h2 v3 h3 → ∀ z10 : Int, z10 = wr (x2 + (-1)) → I0 x0 x1 z10 h3) ∧ (v2 ≠ 0 → ∀ z9 : Int, z9 = h2 z4 0 → ∀ z10 : Int, z10 = h2 z4 1 → ∀ (v3 : Int) (h3 : fH), fS 68 [x0, z9, z10] h2 v3 h3 → ∀ (v4 : Int) (h4 : fH), fS 70 [x0, x1] h3 v4 h4 → ∀ z13 : Int, z13 = wr (x2 + (-1)) → I0 x0 x1 z13 h4))) ∧ (0 < z7 → ∀ z8 : Int, z8 = wr (x1 + 1) → ∀ z9 : Int, z9 = wr (x2 + (-1)) → I0 x0 z8 z9 h1))))) : Q v h' := by
  refine x_mef vt_comeOut_k hs (fun k l h => match k with
    | 0 => (match l with | [x0, x1, x2] => I0 x0 x1 x2 h | _ => False)
    | _ => False) Q h0 ?_
  intro i Ti hT vals h hi
  match i, hT, hi with
  | 0, hT, hi =>
    cases hT
    match vals, hi with
    | [x0, x1, x2], hi => exact k0 _ _ _ _ hi
    | [], hi => exact False.elim hi
    | [_], hi => exact False.elim hi
    | [_, _], hi => exact False.elim hi
    | _ :: _ :: _ :: _ :: _, hi => exact False.elim hi
  | _ + 1, hT, _ => cases hT
noncomputable def vt_isLost_T : xT := [(4, [.inl 0], 0, 19), (1, [.inl 2, .inl 1], 0, 0), (0, [.inl 3], 2, 0), (0, [.inl 0], 15, 0), (0, [.inl 3], 4, 0), (8, [.inl 5, .inl 6], 0, 0), (4, [.inl 0], 0, 18), (1, [.inl 8, .inl 4], 0, 0), (8, [.inl 7, .inl 9], 0, 0), (4, [.inl 0], 0, 17), (1, [.inl 11, .inl 4], 0, 0), (8, [.inl 10, .inl 12], 10, 0),
  (10, [.inl 13, .inr 0], 1, 4), (0, [.inl 3], 3, 0), (10, [.inl 14, .inr 1], 1, 1), (11, [.inr 0], 0, 0), (11, [.inr 1], 0, 0), (0, [.inl 3], 3, 0), (10, [.inl 14, .inr 1], 1, 1), (11, [.inr 1], 0, 0), (11, [.inr 0], 0, 0)]
theorem vt_isLost_k : x_chk 66 [] vt_isLost_T [] 600 = true := by decide +kernel
theorem vt_isLost {a0 a1 v : Int} {h h' : fH} (hs : fS 66 [a0, a1] h v h') (Q : Int → fH → Prop) (h0 : ∀ z2 : Int, z2 = a0 + 19 → ∀ z3 : Int, z3 = h z2 a1 → ∀ z4 : Int, z4 = h z3 2 → ∀ z5 : Int, z5 = h a0 15 → ∀ z6 : Int, z6 = h z3 4 → ∀ z7 : Int, z7 = wr (z5 + z6) → ∀ z8 : Int, z8 = a0 + 18 → ∀ z9 : Int, z9 = h z8 z4 → ∀ z10 : Int, z10 = wr (z7 + z9) → ∀ z11 : Int, z11 = a0 + 17 → ∀ z12 : Int, z12 = h z11 z4 → ∀ z13 : Int, z13 = xrem z10 z12 → ((z13 ≠ 0 → ∀ z14 : Int, z14 = h z3 3 → ((z14 ≠ 1 → Q 0 h) ∧ (z14 = 1 → Q 1 h))) ∧ (z13 = 0 → ∀ z14 : Int, z14 = h z3 3 → ((z14 ≠ 1 → Q 1 h) ∧ (z14 = 1 → Q 0 h))))) : Q v h' := by
  exact x_mef vt_isLost_k hs (fun _ _ _ => False) Q h0 (fun i Ti hT => by cases hT)
noncomputable def vt_marry_T : xT := [(4, [.inl 0], 0, 8), (3, [.inl 3, .inl 1, .inl 2], 0, 0), (4, [.inl 0], 0, 8), (3, [.inl 4, .inl 2, .inl 1], 0, 0), (4, [.inl 0], 0, 7), (13, [.inl 0, .inl 1], 69, 0), (3, [.inl 5, .inl 1, .inl 6], 0, 0), (4, [.inl 0], 0, 7), (13, [.inl 0, .inl 2], 69, 0), (3, [.inl 7, .inl 2, .inl 8], 0, 0), (11, [.inr 0], 0, 0)]
theorem vt_marry_k : x_chk 68 [] vt_marry_T [] 600 = true := by decide +kernel
theorem vt_marry {a0 a1 a2 v : Int} {h h' : fH} (hs : fS 68 [a0, a1, a2] h v h') (Q : Int → fH → Prop) (h0 : ∀ z3 : Int, z3 = a0 + 8 → ∀ h1 : fH, h1 = fu h z3 a1 a2 → ∀ z4 : Int, z4 = a0 + 8 → ∀ h2 : fH, h2 = fu h1 z4 a2 a1 → ∀ z5 : Int, z5 = a0 + 7 → ∀ (v3 : Int) (h3 : fH), fS 69 [a0, a1] h2 v3 h3 → ∀ h4 : fH, h4 = fu h3 z5 a1 v3 → ∀ z7 : Int, z7 = a0 + 7 → ∀ (v5 : Int) (h5 : fH), fS 69 [a0, a2] h4 v5 h5 → ∀ h6 : fH, h6 = fu h5 z7 a2 v5 → Q 0 h6) : Q v h' := by
  exact x_mef vt_marry_k hs (fun _ _ _ => False) Q h0 (fun i Ti hT => by cases hT)
noncomputable def vt_withMore_T : xT := [(4, [.inl 0], 0, 7), (1, [.inl 2, .inl 1], 0, 0), (4, [.inl 0], 0, 4), (1, [.inl 4, .inl 1], 0, 0), (8, [.inl 3, .inl 5], 0, 0), (8, [.inr 99, .inl 6], 12, 0), (11, [.inl 7], 0, 0)]
theorem vt_withMore_k : x_chk 69 [] vt_withMore_T [] 600 = true := by decide +kernel
theorem vt_withMore {a0 a1 v : Int} {h h' : fH} (hs : fS 69 [a0, a1] h v h') (Q : Int → fH → Prop) (h0 : ∀ z2 : Int, z2 = a0 + 7 → ∀ z3 : Int, z3 = h z2 a1 → ∀ z4 : Int, z4 = a0 + 4 → ∀ z5 : Int, z5 = h z4 a1 → ∀ z6 : Int, z6 = wr (z3 + z5) → ∀ z7 : Int, z7 = xmin 99 z6 → Q z7 h) : Q v h' := by
  exact x_mef vt_withMore_k hs (fun _ _ _ => False) Q h0 (fun i Ti hT => by cases hT)
noncomputable def vt_close_T : xT := [(4, [.inl 0], 0, 19), (1, [.inl 2, .inl 1], 0, 0), (8, [.inl 1, .inr 1], 0, 0), (12, [.inl 0, .inl 3, .inl 4], 0, 0)]
noncomputable def vt_close_T0 : xT := [(0, [.inl 0], 14, 0), (10, [.inl 2, .inl 3], 3, 7), (0, [.inl 0], 14, 0), (8, [.inl 4, .inr 1], 1, 0), (2, [.inl 0, .inl 5], 14, 0), (4, [.inl 0], 0, 19), (0, [.inl 0], 14, 0), (3, [.inl 6, .inl 7, .inl 1], 0, 0), (11, [.inr 0], 0, 0), (4, [.inl 0], 0, 19), (8, [.inl 2, .inr 1], 1, 0), (4, [.inl 0], 0, 19),
  (1, [.inl 6, .inl 2], 0, 0), (3, [.inl 4, .inl 5, .inl 7], 0, 0), (8, [.inl 2, .inr 1], 0, 0), (12, [.inl 0, .inl 1, .inl 8], 0, 0)]
theorem vt_close_k : x_chk 70 [(11, [(0, 0), (2, 0), (3, 0)])] vt_close_T [vt_close_T0] 600 = true := by decide +kernel
theorem vt_close {a0 a1 v : Int} {h h' : fH} (hs : fS 70 [a0, a1] h v h') (I0 : Int → Int → Int → fH → Prop) (Q : Int → fH → Prop) (h0 : ∀ z2 : Int, z2 = a0 + 19 → ∀ z3 : Int, z3 = h z2 a1 → ∀ z4 : Int, z4 = wr (a1 + 1) → I0 a0 z3 z4 h) (k0 : ∀ (x0 x2 x3 : Int) (h : fH), I0 x0 x2 x3 h → ∀ z3 : Int, z3 = h x0 14 → ((z3 ≤ x3 → ∀ z4 : Int, z4 = h x0 14 → ∀ z5 : Int, z5 = wr (z4 - 1) → ∀ h1 : fH, h1 = fu h x0 14 z5 → ∀ z6 : Int, z6 = x0 + 19 → ∀ z7 : Int, z7 = h1 x0 14 → ∀ h2 : fH, h2 = fu h1 z6 z7 x2 → Q 0 h2) ∧ (x3 < z3 → ∀ z4 : Int, z4 = x0 + 19 → ∀ z5 : Int, z5 = wr (x3 - 1) → ∀ z6 : Int, z6 = x0 + 19 → ∀ z7 : Int, z7 = h z6 x3 → ∀ h1 : fH, h1 = fu h z4 z5 z7 → ∀ z8 : Int, z8 = wr (x3 + 1) → I0 x0 x2 z8 h1))) : Q v h' := by
  refine x_mef vt_close_k hs (fun k l h => match k with
    | 0 => (match l with | [x0, x2, x3] => I0 x0 x2 x3 h | _ => False)
    | _ => False) Q h0 ?_
  intro i Ti hT vals h hi
  match i, hT, hi with
  | 0, hT, hi =>
    cases hT
    match vals, hi with
    | [x0, x2, x3], hi => exact k0 _ _ _ _ hi
    | [], hi => exact False.elim hi
    | [_], hi => exact False.elim hi
    | [_, _], hi => exact False.elim hi
    | _ :: _ :: _ :: _ :: _, hi => exact False.elim hi
  | _ + 1, hT, _ => cases hT
noncomputable def vt_learn_T : xT := [(12, [.inl 0, .inr 0], 0, 0)]
noncomputable def vt_learn_T0 : xT := [(10, [.inl 1, .inr 5], 3, 1), (11, [.inr 0], 0, 0), (0, [.inl 0], 15, 0), (4, [.inl 0], 0, 18), (1, [.inl 3, .inl 1], 0, 0), (8, [.inl 2, .inl 4], 0, 0), (4, [.inl 0], 0, 17), (1, [.inl 6, .inl 1], 0, 0), (8, [.inl 5, .inl 7], 10, 0), (10, [.inl 8, .inr 0], 1, 1), (12, [.inl 0, .inl 1, .inr 0, .inr 0], 1, 0), (12, [.inl 0, .inl 1, .inr 1, .inr 0], 1, 0)]
noncomputable def vt_learn_T1 : xT := [(0, [.inl 0], 1, 0), (10, [.inl 3, .inl 4], 3, 2), (8, [.inl 1, .inr 1], 0, 0), (12, [.inl 0, .inl 5], 0, 0), (4, [.inl 0], 0, 9), (5, [.inl 5, .inl 3], 0, 1), (4, [.inl 0], 0, 9), (5, [.inl 7, .inl 3], 0, 1), (1, [.inl 8, .inl 1], 0, 0), (4, [.inl 0], 0, 5), (1, [.inl 10, .inl 3], 0, 0), (13, [.inl 9, .inl 11, .inl 2], 72, 0),
  (3, [.inl 6, .inl 1, .inl 12], 0, 0), (8, [.inl 3, .inr 1], 0, 0), (12, [.inl 0, .inl 1, .inl 2, .inl 13], 1, 0)]
theorem vt_learn_k : x_chk 71 [(2, [(0, 0), (1, 0)]), (19, [(0, 0), (1, 0), (2, 0), (3, 0)])] vt_learn_T [vt_learn_T0, vt_learn_T1] 600 = true := by decide +kernel
theorem vt_learn {a0 v : Int} {h h' : fH} (hs : fS 71 [a0] h v h') (I0 : Int → Int → fH → Prop) (I1 : Int → Int → Int → Int → fH → Prop) (Q : Int → fH → Prop) (h0 : I0 a0 0 h) (k0 : ∀ (x0 x1 : Int) (h : fH), I0 x0 x1 h → ((5 ≤ x1 → Q 0 h) ∧ (x1 < 5 → ∀ z2 : Int, z2 = h x0 15 → ∀ z3 : Int, z3 = x0 + 18 → ∀ z4 : Int, z4 = h z3 x1 → ∀ z5 : Int, z5 = wr (z2 + z4) → ∀ z6 : Int, z6 = x0 + 17 → ∀ z7 : Int, z7 = h z6 x1 → ∀ z8 : Int, z8 = xrem z5 z7 → ((z8 ≠ 0 → I1 x0 x1 0 0 h) ∧ (z8 = 0 → I1 x0 x1 1 0 h))))) (k1 : ∀ (x0 x1 x2 x3 : Int) (h : fH), I1 x0 x1 x2 x3 h → ∀ z4 : Int, z4 = h x0 1 → ((z4 ≤ x3 → ∀ z5 : Int, z5 = wr (x1 + 1) → I0 x0 z5 h) ∧ (x3 < z4 → ∀ z5 : Int, z5 = x0 + 9 → ∀ z6 : Int, z6 = z5 + 1 + 1 * x3 → ∀ z7 : Int, z7 = x0 + 9 → ∀ z8 : Int, z8 = z7 + 1 + 1 * x3 → ∀ z9 : Int, z9 = h z8 x1 → ∀ z10 : Int, z10 = x0 + 5 → ∀ z11 : Int, z11 = h z10 x3 → ∀ (v1 : Int) (h1 : fH), fS 72 [z9, z11, x2] h v1 h1 → ∀ h2 : fH, h2 = fu h1 z6 x1 v1 → ∀ z13 : Int, z13 = wr (x3 + 1) → I1 x0 x1 x2 z13 h2))) : Q v h' := by
  refine x_mef vt_learn_k hs (fun k l h => match k with
    | 0 => (match l with | [x0, x1] => I0 x0 x1 h | _ => False)
    | 1 => (match l with | [x0, x1, x2, x3] => I1 x0 x1 x2 x3 h | _ => False)
    | _ => False) Q h0 ?_
  intro i Ti hT vals h hi
  match i, hT, hi with
  | 0, hT, hi =>
    cases hT
    match vals, hi with
    | [x0, x1], hi => exact k0 _ _ _ hi
    | [], hi => exact False.elim hi
    | [_], hi => exact False.elim hi
    | _ :: _ :: _ :: _, hi => exact False.elim hi
  | 1, hT, hi =>
    cases hT
    match vals, hi with
    | [x0, x1, x2, x3], hi => exact k1 _ _ _ _ _ hi
    | [], hi => exact False.elim hi
    | [_], hi => exact False.elim hi
    | [_, _], hi => exact False.elim hi
    | [_, _, _], hi => exact False.elim hi
    | _ :: _ :: _ :: _ :: _ :: _, hi => exact False.elim hi
  | _ + 2, hT, _ => cases hT
end
section
/-! the trees of the methods (made by a program) -/
noncomputable def vt_learned_T : xT := [(10, [.inl 2, .inr 0], 0, 3), (8, [.inl 0, .inl 1], 1, 0), (8, [.inr 0, .inl 3], 11, 0), (11, [.inl 4], 0, 0), (8, [.inl 0, .inl 1], 0, 0), (8, [.inr 9, .inl 3], 12, 0), (11, [.inl 4], 0, 0)]
theorem vt_learned_k : x_chk 72 [] vt_learned_T [] 600 = true := by decide +kernel
theorem vt_learned {a0 a1 a2 v : Int} {h h' : fH} (hs : fS 72 [a0, a1, a2] h v h') (Q : Int → fH → Prop) (h0 : ((a2 = 0 → ∀ z3 : Int, z3 = wr (a0 - a1) → ∀ z4 : Int, z4 = xmax 0 z3 → Q z4 h) ∧ (a2 ≠ 0 → ∀ z3 : Int, z3 = wr (a0 + a1) → ∀ z4 : Int, z4 = xmin 9 z3 → Q z4 h))) : Q v h' := by
  exact x_mef vt_learned_k hs (fun _ _ _ => False) Q h0 (fun i Ti hT => by cases hT)
noncomputable def vc_personOf_T : xT := [(10, [.inl 1, .inr 0], 2, 5), (9, [.inr (-1)], 0, 0), (1, [.inr 3, .inl 3], 0, 0), (8, [.inl 4, .inr 1], 0, 0), (3, [.inr 3, .inl 3, .inl 5], 0, 0), (11, [.inr (-1)], 0, 0), (0, [.inr 11], 1, 0), (10, [.inl 1, .inl 3], 3, 5), (9, [.inr (-1)], 0, 0), (1, [.inr 3, .inl 4], 0, 0), (8, [.inl 5, .inr 1], 0, 0), (3, [.inr 3, .inl 4, .inl 6], 0, 0),
  (11, [.inr (-1)], 0, 0), (10, [.inl 2, .inr 0], 0, 2), (1, [.inr 12, .inl 1], 0, 0), (11, [.inl 4], 0, 0), (10, [.inl 2, .inr 1], 0, 2), (1, [.inr 13, .inl 1], 0, 0), (11, [.inl 4], 0, 0), (10, [.inl 2, .inr 2], 0, 2), (1, [.inr 17, .inl 1], 0, 0), (11, [.inl 4], 0, 0), (10, [.inl 2, .inr 3], 0, 2), (1, [.inr 18, .inl 1], 0, 0),
  (11, [.inl 4], 0, 0), (10, [.inl 2, .inr 4], 0, 2), (1, [.inr 19, .inl 1], 0, 0), (11, [.inl 4], 0, 0), (10, [.inl 2, .inr 5], 0, 2), (1, [.inr 14, .inl 1], 0, 0), (11, [.inl 4], 0, 0), (10, [.inl 2, .inr 6], 0, 2), (1, [.inr 15, .inl 1], 0, 0), (11, [.inl 4], 0, 0), (10, [.inl 2, .inr 7], 0, 2), (1, [.inr 16, .inl 1], 0, 0),
  (11, [.inl 4], 0, 0), (9, [.inr (-2)], 0, 0), (1, [.inr 3, .inl 4], 0, 0), (8, [.inl 5, .inr 1], 0, 0), (3, [.inr 3, .inl 4, .inl 6], 0, 0), (11, [.inr (-2)], 0, 0)]
theorem vc_personOf_k : x_chk 74 [] vc_personOf_T [] 600 = true := by decide +kernel
noncomputable def vc_belief_T : xT := [(10, [.inl 1, .inr 0], 2, 5), (9, [.inr (-1)], 0, 0), (1, [.inr 3, .inl 3], 0, 0), (8, [.inl 4, .inr 1], 0, 0), (3, [.inr 3, .inl 3, .inl 5], 0, 0), (11, [.inr (-1)], 0, 0), (0, [.inr 11], 1, 0), (10, [.inl 1, .inl 3], 3, 5), (9, [.inr (-1)], 0, 0), (1, [.inr 3, .inl 4], 0, 0), (8, [.inl 5, .inr 1], 0, 0), (3, [.inr 3, .inl 4, .inl 6], 0, 0),
  (11, [.inr (-1)], 0, 0), (10, [.inl 2, .inr 0], 2, 5), (9, [.inr (-1)], 0, 0), (1, [.inr 3, .inl 4], 0, 0), (8, [.inl 5, .inr 1], 0, 0), (3, [.inr 3, .inl 4, .inl 6], 0, 0), (11, [.inr (-1)], 0, 0), (10, [.inl 2, .inr 5], 3, 5), (9, [.inr (-1)], 0, 0), (1, [.inr 3, .inl 4], 0, 0), (8, [.inl 5, .inr 1], 0, 0), (3, [.inr 3, .inl 4, .inl 6], 0, 0),
  (11, [.inr (-1)], 0, 0), (5, [.inr 20, .inl 1], 0, 1), (1, [.inl 4, .inl 2], 0, 0), (11, [.inl 5], 0, 0)]
theorem vc_belief_k : x_chk 75 [] vc_belief_T [] 600 = true := by decide +kernel
noncomputable def vc_eventOf_T : xT := [(10, [.inl 1, .inr 0], 2, 5), (9, [.inr (-1)], 0, 0), (1, [.inr 3, .inl 3], 0, 0), (8, [.inl 4, .inr 1], 0, 0), (3, [.inr 3, .inl 3, .inl 5], 0, 0), (11, [.inr (-1)], 0, 0), (10, [.inl 1, .inr 5], 3, 5), (9, [.inr (-1)], 0, 0), (1, [.inr 3, .inl 3], 0, 0), (8, [.inl 4, .inr 1], 0, 0), (3, [.inr 3, .inl 3, .inl 5], 0, 0), (11, [.inr (-1)], 0, 0),
  (10, [.inl 2, .inr 0], 0, 2), (1, [.inr 28, .inl 1], 0, 0), (11, [.inl 3], 0, 0), (10, [.inl 2, .inr 1], 0, 2), (1, [.inr 29, .inl 1], 0, 0), (11, [.inl 3], 0, 0), (10, [.inl 2, .inr 2], 0, 8), (0, [.inr 11], 15, 0), (1, [.inr 29, .inl 1], 0, 0), (8, [.inl 3, .inl 4], 0, 0), (1, [.inr 28, .inl 1], 0, 0), (8, [.inl 5, .inl 6], 10, 0),
  (10, [.inl 7, .inr 0], 1, 1), (11, [.inr 0], 0, 0), (11, [.inr 1], 0, 0), (9, [.inr (-2)], 0, 0), (1, [.inr 3, .inl 3], 0, 0), (8, [.inl 4, .inr 1], 0, 0), (3, [.inr 3, .inl 3, .inl 5], 0, 0), (11, [.inr (-2)], 0, 0)]
theorem vc_eventOf_k : x_chk 76 [] vc_eventOf_T [] 600 = true := by decide +kernel
noncomputable def vc_wagerOf_T : xT := [(10, [.inl 1, .inr 0], 2, 5), (9, [.inr (-1)], 0, 0), (1, [.inr 3, .inl 3], 0, 0), (8, [.inl 4, .inr 1], 0, 0), (3, [.inr 3, .inl 3, .inl 5], 0, 0), (11, [.inr (-1)], 0, 0), (0, [.inr 11], 14, 0), (10, [.inl 1, .inl 3], 2, 21), (1, [.inr 30, .inl 1], 0, 0), (10, [.inl 2, .inr 0], 0, 2), (0, [.inl 4], 0, 0), (11, [.inl 5], 0, 0),
  (10, [.inl 2, .inr 1], 0, 2), (0, [.inl 4], 1, 0), (11, [.inl 5], 0, 0), (10, [.inl 2, .inr 2], 0, 2), (0, [.inl 4], 2, 0), (11, [.inl 5], 0, 0), (10, [.inl 2, .inr 3], 0, 2), (0, [.inl 4], 3, 0), (11, [.inl 5], 0, 0), (10, [.inl 2, .inr 4], 0, 2), (0, [.inl 4], 4, 0), (11, [.inl 5], 0, 0),
  (9, [.inr (-2)], 0, 0), (1, [.inr 3, .inl 5], 0, 0), (8, [.inl 6, .inr 1], 0, 0), (3, [.inr 3, .inl 5, .inl 7], 0, 0), (11, [.inr (-2)], 0, 0), (9, [.inr (-1)], 0, 0), (1, [.inr 3, .inl 4], 0, 0), (8, [.inl 5, .inr 1], 0, 0), (3, [.inr 3, .inl 4, .inl 6], 0, 0), (11, [.inr (-1)], 0, 0)]
theorem vc_wagerOf_k : x_chk 77 [] vc_wagerOf_T [] 600 = true := by decide +kernel
noncomputable def vc_count_T : xT := [(10, [.inl 1, .inr 0], 0, 2), (0, [.inr 11], 1, 0), (11, [.inl 2], 0, 0), (10, [.inl 1, .inr 1], 0, 2), (0, [.inr 11], 15, 0), (11, [.inl 2], 0, 0), (10, [.inl 1, .inr 2], 0, 2), (0, [.inr 11], 14, 0), (11, [.inl 2], 0, 0), (10, [.inl 1, .inr 3], 0, 2), (13, [.inr 11], 79, 0), (11, [.inl 2], 0, 0),
  (10, [.inl 1, .inr 4], 0, 2), (13, [.inr 11, .inr 0], 80, 0), (11, [.inl 2], 0, 0), (10, [.inl 1, .inr 5], 0, 2), (0, [.inr 266], 1, 0), (11, [.inl 2], 0, 0), (10, [.inl 1, .inr 6], 0, 2), (0, [.inl 0], 8, 0), (11, [.inl 2], 0, 0), (10, [.inl 1, .inr 7], 0, 2), (0, [.inr 80], 2, 0), (11, [.inl 2], 0, 0),
  (10, [.inl 1, .inr 10], 5, 1), (11, [.inr (-9)], 0, 0), (10, [.inl 1, .inr 16], 4, 1), (11, [.inr (-9)], 0, 0), (8, [.inl 1, .inr 10], 1, 0), (1, [.inr 3, .inl 2], 0, 0), (11, [.inl 3], 0, 0)]
theorem vc_count_k : x_chk 78 [] vc_count_T [] 600 = true := by decide +kernel
noncomputable def vt_wedBits_T : xT := [(12, [.inl 0, .inr 0, .inr 0], 0, 0)]
noncomputable def vt_wedBits_T0 : xT := [(0, [.inl 0], 1, 0), (10, [.inl 2, .inl 3], 3, 1), (11, [.inl 1], 0, 0), (4, [.inl 0], 0, 8), (1, [.inl 4, .inl 2], 0, 0), (10, [.inl 5, .inr (-9)], 0, 2), (8, [.inl 2, .inr 1], 0, 0), (12, [.inl 0, .inl 1, .inl 6], 0, 0), (8, [.inr 1, .inl 2], 6, 0), (8, [.inl 1, .inl 6], 4, 0), (8, [.inl 2, .inr 1], 0, 0), (12, [.inl 0, .inl 7, .inl 8], 0, 0)]
theorem vt_wedBits_k : x_chk 79 [(4, [(0, 0), (1, 0), (2, 0)])] vt_wedBits_T [vt_wedBits_T0] 600 = true := by decide +kernel
noncomputable def vt_allTears_T : xT := [(12, [.inl 0, .inl 1, .inr 0, .inr 0], 0, 0)]
noncomputable def vt_allTears_T0 : xT := [(0, [.inl 0], 1, 0), (10, [.inl 3, .inl 4], 3, 1), (11, [.inl 2], 0, 0), (13, [.inl 0, .inl 3, .inl 1], 81, 0), (8, [.inl 2, .inl 5], 0, 0), (8, [.inl 3, .inr 1], 0, 0), (12, [.inl 0, .inl 1, .inl 6, .inl 7], 0, 0)]
theorem vt_allTears_k : x_chk 80 [(4, [(0, 0), (1, 0), (2, 0), (3, 0)])] vt_allTears_T [vt_allTears_T0] 600 = true := by decide +kernel
theorem vt_allTears {a0 a1 v : Int} {h h' : fH} (hs : fS 80 [a0, a1] h v h') (I0 : Int → Int → Int → Int → fH → Prop) (Q : Int → fH → Prop) (h0 : I0 a0 a1 0 0 h) (k0 : ∀ (x0 x1 x2 x3 : Int) (h : fH), I0 x0 x1 x2 x3 h → ∀ z4 : Int, z4 = h x0 1 → ((z4 ≤ x3 → Q x2 h) ∧ (x3 < z4 → ∀ (v1 : Int) (h1 : fH), fS 81 [x0, x3, x1] h v1 h1 → ∀ z6 : Int, z6 = wr (x2 + v1) → ∀ z7 : Int, z7 = wr (x3 + 1) → I0 x0 x1 z6 z7 h1))) : Q v h' := by
  refine x_mef vt_allTears_k hs (fun k l h => match k with
    | 0 => (match l with | [x0, x1, x2, x3] => I0 x0 x1 x2 x3 h | _ => False)
    | _ => False) Q h0 ?_
  intro i Ti hT vals h hi
  match i, hT, hi with
  | 0, hT, hi =>
    cases hT
    match vals, hi with
    | [x0, x1, x2, x3], hi => exact k0 _ _ _ _ _ hi
    | [], hi => exact False.elim hi
    | [_], hi => exact False.elim hi
    | [_, _], hi => exact False.elim hi
    | [_, _, _], hi => exact False.elim hi
    | _ :: _ :: _ :: _ :: _ :: _, hi => exact False.elim hi
  | _ + 1, hT, _ => cases hT
noncomputable def vt_tearsOf_T : xT := [(4, [.inl 0], 0, 8), (1, [.inl 3, .inl 1], 0, 0), (10, [.inl 4, .inr (-9)], 0, 7), (13, [.inl 0, .inl 1, .inl 2], 82, 0), (10, [.inl 5, .inr 0], 0, 3), (4, [.inl 0], 0, 7), (1, [.inl 6, .inl 1], 0, 0), (11, [.inl 7], 0, 0), (13, [.inl 0, .inl 1], 69, 0), (11, [.inl 6], 0, 0), (4, [.inl 0], 0, 7), (1, [.inl 5, .inl 1], 0, 0),
  (11, [.inl 6], 0, 0)]
theorem vt_tearsOf_k : x_chk 81 [] vt_tearsOf_T [] 600 = true := by decide +kernel
theorem vt_tearsOf {a0 a1 a2 v : Int} {h h' : fH} (hs : fS 81 [a0, a1, a2] h v h') (Q : Int → fH → Prop) (h0 : ∀ z3 : Int, z3 = a0 + 8 → ∀ z4 : Int, z4 = h z3 a1 → ((z4 = (-9) → ∀ (v1 : Int) (h1 : fH), fS 82 [a0, a1, a2] h v1 h1 → ((v1 = 0 → ∀ z6 : Int, z6 = a0 + 7 → ∀ z7 : Int, z7 = h1 z6 a1 → Q z7 h1) ∧ (v1 ≠ 0 → ∀ (v2 : Int) (h2 : fH), fS 69 [a0, a1] h1 v2 h2 → Q v2 h2))) ∧ (z4 ≠ (-9) → ∀ z5 : Int, z5 = a0 + 7 → ∀ z6 : Int, z6 = h z5 a1 → Q z6 h))) : Q v h' := by
  exact x_mef vt_tearsOf_k hs (fun _ _ _ => False) Q h0 (fun i Ti hT => by cases hT)
noncomputable def vt_isWedIn_T : xT := [(13, [.inl 0, .inl 1], 83, 0), (10, [.inl 3, .inr 0], 2, 1), (11, [.inr 0], 0, 0), (10, [.inl 3, .inl 2], 4, 1), (11, [.inr 0], 0, 0), (11, [.inr 1], 0, 0)]
theorem vt_isWedIn_k : x_chk 82 [] vt_isWedIn_T [] 600 = true := by decide +kernel
theorem vt_isWedIn {a0 a1 a2 v : Int} {h h' : fH} (hs : fS 82 [a0, a1, a2] h v h') (Q : Int → fH → Prop) (h0 : ∀ (v1 : Int) (h1 : fH), fS 83 [a0, a1] h v1 h1 → ((v1 < 0 → Q 0 h1) ∧ (0 ≤ v1 → ((a2 < v1 → Q 0 h1) ∧ (v1 ≤ a2 → Q 1 h1))))) : Q v h' := by
  exact x_mef vt_isWedIn_k hs (fun _ _ _ => False) Q h0 (fun i Ti hT => by cases hT)
noncomputable def vt_daysToWedding_T : xT := [(4, [.inl 0], 0, 8), (1, [.inl 2, .inl 1], 0, 0), (10, [.inl 3, .inr (-9)], 0, 10), (13, [.inl 0, .inl 1], 59, 0), (10, [.inl 4, .inr 0], 2, 1), (11, [.inr (-9)], 0, 0), (13, [.inl 0, .inl 4], 66, 0), (10, [.inl 5, .inr 0], 0, 1), (11, [.inr (-9)], 0, 0), (4, [.inl 0], 0, 19), (1, [.inl 6, .inl 4], 0, 0), (0, [.inl 7], 4, 0),
  (11, [.inl 8], 0, 0), (11, [.inr 0], 0, 0)]
theorem vt_daysToWedding_k : x_chk 83 [] vt_daysToWedding_T [] 600 = true := by decide +kernel
theorem vt_daysToWedding {a0 a1 v : Int} {h h' : fH} (hs : fS 83 [a0, a1] h v h') (Q : Int → fH → Prop) (h0 : ∀ z2 : Int, z2 = a0 + 8 → ∀ z3 : Int, z3 = h z2 a1 → ((z3 = (-9) → ∀ (v1 : Int) (h1 : fH), fS 59 [a0, a1] h v1 h1 → ((v1 < 0 → Q (-9) h1) ∧ (0 ≤ v1 → ∀ (v2 : Int) (h2 : fH), fS 66 [a0, v1] h1 v2 h2 → ((v2 = 0 → Q (-9) h2) ∧ (v2 ≠ 0 → ∀ z6 : Int, z6 = a0 + 19 → ∀ z7 : Int, z7 = h2 z6 v1 → ∀ z8 : Int, z8 = h2 z7 4 → Q z8 h2))))) ∧ (z3 ≠ (-9) → Q 0 h))) : Q v h' := by
  exact x_mef vt_daysToWedding_k hs (fun _ _ _ => False) Q h0 (fun i Ti hT => by cases hT)
noncomputable def vc_person_T : xT := [(6, [.inr 4], 0, 0), (10, [.inl 1, .inr 0], 2, 5), (9, [.inr (-2)], 0, 0), (1, [.inr 3, .inl 4], 0, 0), (8, [.inl 5, .inr 1], 0, 0), (3, [.inr 3, .inl 4, .inl 6], 0, 0), (11, [.inr (-2)], 0, 0), (10, [.inl 1, .inl 3], 3, 5), (9, [.inr (-2)], 0, 0), (1, [.inr 3, .inl 4], 0, 0), (8, [.inl 5, .inr 1], 0, 0), (3, [.inr 3, .inl 4, .inl 6], 0, 0),
  (11, [.inr (-2)], 0, 0), (10, [.inl 2, .inr 0], 3, 18), (10, [.inl 2, .inr 10], 3, 5), (9, [.inr (-6)], 0, 0), (1, [.inr 3, .inl 4], 0, 0), (8, [.inl 5, .inr 1], 0, 0), (3, [.inr 3, .inl 4, .inl 6], 0, 0), (11, [.inr (-6)], 0, 0), (0, [.inr 11], 1, 0), (10, [.inl 4, .inr 7], 2, 5), (13, [.inr 11, .inl 1, .inl 2], 28, 0), (2, [.inr 80, .inr 0], 2, 0),
  (0, [.inr 11], 1, 0), (8, [.inl 6, .inr 1], 1, 0), (11, [.inl 7], 0, 0), (9, [.inr (-6)], 0, 0), (1, [.inr 3, .inl 5], 0, 0), (8, [.inl 6, .inr 1], 0, 0), (3, [.inr 3, .inl 5, .inl 7], 0, 0), (11, [.inr (-6)], 0, 0), (9, [.inr (-4)], 0, 0), (1, [.inr 3, .inl 4], 0, 0), (8, [.inl 5, .inr 1], 0, 0), (3, [.inr 3, .inl 4, .inl 6], 0, 0),
  (11, [.inr (-4)], 0, 0)]
theorem vc_person_k : x_chk 84 [] vc_person_T [] 600 = true := by decide +kernel
theorem vc_person {a0 a1 a2 v : Int} {h h' : fH} (hs : fS 84 [a0, a1, a2] h v h') (Q : Int → fH → Prop) (h0 : ∀ z3 : Int, z3 = f_len 4 → ((a1 < 0 → ∀ z4 : Int, z4 = wr (-(-2)) → ∀ z5 : Int, z5 = h 3 z4 → ∀ z6 : Int, z6 = wr (z5 + 1) → ∀ h1 : fH, h1 = fu h 3 z4 z6 → Q (-2) h1) ∧ (0 ≤ a1 → ((z3 ≤ a1 → ∀ z4 : Int, z4 = wr (-(-2)) → ∀ z5 : Int, z5 = h 3 z4 → ∀ z6 : Int, z6 = wr (z5 + 1) → ∀ h1 : fH, h1 = fu h 3 z4 z6 → Q (-2) h1) ∧ (a1 < z3 → ((0 ≤ a2 → ((10 ≤ a2 → ∀ z4 : Int, z4 = wr (-(-6)) → ∀ z5 : Int, z5 = h 3 z4 → ∀ z6 : Int, z6 = wr (z5 + 1) → ∀ h1 : fH, h1 = fu h 3 z4 z6 → Q (-6) h1) ∧ (a2 < 10 → ∀ z4 : Int, z4 = h 11 1 → ((z4 < 7 → ∀ (v1 : Int) (h1 : fH), fS 28 [11, a1, a2] h v1 h1 → ∀ h2 : fH, h2 = fu h1 80 2 0 → ∀ z6 : Int, z6 = h2 11 1 → ∀ z7 : Int, z7 = wr (z6 - 1) → Q z7 h2) ∧ (7 ≤ z4 → ∀ z5 : Int, z5 = wr (-(-6)) → ∀ z6 : Int, z6 = h 3 z5 → ∀ z7 : Int, z7 = wr (z6 + 1) → ∀ h1 : fH, h1 = fu h 3 z5 z7 → Q (-6) h1))))) ∧ (a2 < 0 → ∀ z4 : Int, z4 = wr (-(-4)) → ∀ z5 : Int, z5 = h 3 z4 → ∀ z6 : Int, z6 = wr (z5 + 1) → ∀ h1 : fH, h1 = fu h 3 z4 z6 → Q (-4) h1))))))) : Q v h' := by
  exact x_mef vc_person_k hs (fun _ _ _ => False) Q h0 (fun i Ti hT => by cases hT)
noncomputable def vc_wishes_T : xT := [(10, [.inl 1, .inr 0], 2, 5), (9, [.inr (-1)], 0, 0), (1, [.inr 3, .inl 3], 0, 0), (8, [.inl 4, .inr 1], 0, 0), (3, [.inr 3, .inl 3, .inl 5], 0, 0), (11, [.inr (-1)], 0, 0), (0, [.inr 11], 1, 0), (10, [.inl 1, .inl 3], 3, 5), (9, [.inr (-1)], 0, 0), (1, [.inr 3, .inl 4], 0, 0), (8, [.inl 5, .inr 1], 0, 0), (3, [.inr 3, .inl 4, .inl 6], 0, 0),
  (11, [.inr (-1)], 0, 0), (10, [.inl 2, .inr 0], 2, 5), (9, [.inr (-1)], 0, 0), (1, [.inr 3, .inl 4], 0, 0), (8, [.inl 5, .inr 1], 0, 0), (3, [.inr 3, .inl 4, .inl 6], 0, 0), (11, [.inr (-1)], 0, 0), (10, [.inl 2, .inr 7], 3, 5), (9, [.inr (-1)], 0, 0), (1, [.inr 3, .inl 4], 0, 0), (8, [.inl 5, .inr 1], 0, 0), (3, [.inr 3, .inl 4, .inl 6], 0, 0),
  (11, [.inr (-1)], 0, 0), (1, [.inr 17, .inl 1], 0, 0), (3, [.inr 17, .inl 1, .inl 2], 0, 0), (2, [.inr 80, .inr 0], 2, 0), (11, [.inl 4], 0, 0)]
theorem vc_wishes_k : x_chk 85 [] vc_wishes_T [] 600 = true := by decide +kernel
theorem vc_wishes {a0 a1 a2 v : Int} {h h' : fH} (hs : fS 85 [a0, a1, a2] h v h') (Q : Int → fH → Prop) (h0 : ((a1 < 0 → ∀ z3 : Int, z3 = wr (-(-1)) → ∀ z4 : Int, z4 = h 3 z3 → ∀ z5 : Int, z5 = wr (z4 + 1) → ∀ h1 : fH, h1 = fu h 3 z3 z5 → Q (-1) h1) ∧ (0 ≤ a1 → ∀ z3 : Int, z3 = h 11 1 → ((z3 ≤ a1 → ∀ z4 : Int, z4 = wr (-(-1)) → ∀ z5 : Int, z5 = h 3 z4 → ∀ z6 : Int, z6 = wr (z5 + 1) → ∀ h1 : fH, h1 = fu h 3 z4 z6 → Q (-1) h1) ∧ (a1 < z3 → ((a2 < 0 → ∀ z4 : Int, z4 = wr (-(-1)) → ∀ z5 : Int, z5 = h 3 z4 → ∀ z6 : Int, z6 = wr (z5 + 1) → ∀ h1 : fH, h1 = fu h 3 z4 z6 → Q (-1) h1) ∧ (0 ≤ a2 → ((7 ≤ a2 → ∀ z4 : Int, z4 = wr (-(-1)) → ∀ z5 : Int, z5 = h 3 z4 → ∀ z6 : Int, z6 = wr (z5 + 1) → ∀ h1 : fH, h1 = fu h 3 z4 z6 → Q (-1) h1) ∧ (a2 < 7 → ∀ z4 : Int, z4 = h 17 a1 → ∀ h1 : fH, h1 = fu h 17 a1 a2 → ∀ h2 : fH, h2 = fu h1 80 2 0 → Q z4 h2))))))))) : Q v h' := by
  exact x_mef vc_wishes_k hs (fun _ _ _ => False) Q h0 (fun i Ti hT => by cases hT)
noncomputable def vc_believes_T : xT := [(10, [.inl 1, .inr 0], 2, 5), (9, [.inr (-1)], 0, 0), (1, [.inr 3, .inl 4], 0, 0), (8, [.inl 5, .inr 1], 0, 0), (3, [.inr 3, .inl 4, .inl 6], 0, 0), (11, [.inr (-1)], 0, 0), (0, [.inr 11], 1, 0), (10, [.inl 1, .inl 4], 3, 5), (9, [.inr (-1)], 0, 0), (1, [.inr 3, .inl 5], 0, 0), (8, [.inl 6, .inr 1], 0, 0), (3, [.inr 3, .inl 5, .inl 7], 0, 0),
  (11, [.inr (-1)], 0, 0), (10, [.inl 2, .inr 0], 2, 5), (9, [.inr (-1)], 0, 0), (1, [.inr 3, .inl 5], 0, 0), (8, [.inl 6, .inr 1], 0, 0), (3, [.inr 3, .inl 5, .inl 7], 0, 0), (11, [.inr (-1)], 0, 0), (10, [.inl 2, .inr 5], 3, 5), (9, [.inr (-1)], 0, 0), (1, [.inr 3, .inl 5], 0, 0), (8, [.inl 6, .inr 1], 0, 0), (3, [.inr 3, .inl 5, .inl 7], 0, 0),
  (11, [.inr (-1)], 0, 0), (10, [.inl 3, .inr 0], 3, 12), (10, [.inl 3, .inr 9], 5, 6), (13, [.inr 80, .inr 11], 87, 0), (5, [.inr 20, .inl 1], 0, 1), (1, [.inl 6, .inl 2], 0, 0), (5, [.inr 20, .inl 1], 0, 1), (3, [.inl 8, .inl 2, .inl 3], 0, 0), (11, [.inl 7], 0, 0), (9, [.inr (-6)], 0, 0), (1, [.inr 3, .inl 5], 0, 0), (8, [.inl 6, .inr 1], 0, 0),
  (3, [.inr 3, .inl 5, .inl 7], 0, 0), (11, [.inr (-6)], 0, 0), (9, [.inr (-4)], 0, 0), (1, [.inr 3, .inl 5], 0, 0), (8, [.inl 6, .inr 1], 0, 0), (3, [.inr 3, .inl 5, .inl 7], 0, 0), (11, [.inr (-4)], 0, 0)]
theorem vc_believes_k : x_chk 86 [] vc_believes_T [] 600 = true := by decide +kernel
theorem vc_believes {a0 a1 a2 a3 v : Int} {h h' : fH} (hs : fS 86 [a0, a1, a2, a3] h v h') (Q : Int → fH → Prop) (h0 : ((a1 < 0 → ∀ z4 : Int, z4 = wr (-(-1)) → ∀ z5 : Int, z5 = h 3 z4 → ∀ z6 : Int, z6 = wr (z5 + 1) → ∀ h1 : fH, h1 = fu h 3 z4 z6 → Q (-1) h1) ∧ (0 ≤ a1 → ∀ z4 : Int, z4 = h 11 1 → ((z4 ≤ a1 → ∀ z5 : Int, z5 = wr (-(-1)) → ∀ z6 : Int, z6 = h 3 z5 → ∀ z7 : Int, z7 = wr (z6 + 1) → ∀ h1 : fH, h1 = fu h 3 z5 z7 → Q (-1) h1) ∧ (a1 < z4 → ((a2 < 0 → ∀ z5 : Int, z5 = wr (-(-1)) → ∀ z6 : Int, z6 = h 3 z5 → ∀ z7 : Int, z7 = wr (z6 + 1) → ∀ h1 : fH, h1 = fu h 3 z5 z7 → Q (-1) h1) ∧ (0 ≤ a2 → ((5 ≤ a2 → ∀ z5 : Int, z5 = wr (-(-1)) → ∀ z6 : Int, z6 = h 3 z5 → ∀ z7 : Int, z7 = wr (z6 + 1) → ∀ h1 : fH, h1 = fu h 3 z5 z7 → Q (-1) h1) ∧ (a2 < 5 → ((0 ≤ a3 → ((a3 ≤ 9 → ∀ (v1 : Int) (h1 : fH), fS 87 [80, 11] h v1 h1 → ∀ z6 : Int, z6 = 20 + 1 + 1 * a1 → ∀ z7 : Int, z7 = h1 z6 a2 → ∀ z8 : Int, z8 = 20 + 1 + 1 * a1 → ∀ h2 : fH, h2 = fu h1 z8 a2 a3 → Q z7 h2) ∧ (9 < a3 → ∀ z5 : Int, z5 = wr (-(-6)) → ∀ z6 : Int, z6 = h 3 z5 → ∀ z7 : Int, z7 = wr (z6 + 1) → ∀ h1 : fH, h1 = fu h 3 z5 z7 → Q (-6) h1))) ∧ (a3 < 0 → ∀ z5 : Int, z5 = wr (-(-4)) → ∀ z6 : Int, z6 = h 3 z5 → ∀ z7 : Int, z7 = wr (z6 + 1) → ∀ h1 : fH, h1 = fu h 3 z5 z7 → Q (-4) h1))))))))))) : Q v h' := by
  exact x_mef vc_believes_k hs (fun _ _ _ => False) Q h0 (fun i Ti hT => by cases hT)
noncomputable def vp_keep_T : xT := [(0, [.inl 0], 1, 0), (8, [.inl 2, .inr 1], 0, 0), (8, [.inl 3, .inr 8], 10, 0), (2, [.inl 0, .inl 4], 1, 0), (0, [.inl 0], 1, 0), (5, [.inr 81, .inl 5], 0, 23), (13, [.inl 6, .inl 1], 23, 0), (0, [.inl 0], 2, 0), (8, [.inl 8, .inr 1], 0, 0), (8, [.inr 8, .inl 9], 12, 0), (2, [.inl 0, .inl 10], 2, 0), (11, [.inr 0], 0, 0)]
theorem vp_keep_k : x_chk 87 [] vp_keep_T [] 600 = true := by decide +kernel
theorem vp_keep {a0 a1 v : Int} {h h' : fH} (hs : fS 87 [a0, a1] h v h') (Q : Int → fH → Prop) (h0 : ∀ z2 : Int, z2 = h a0 1 → ∀ z3 : Int, z3 = wr (z2 + 1) → ∀ z4 : Int, z4 = xrem z3 8 → ∀ h1 : fH, h1 = fu h a0 1 z4 → ∀ z5 : Int, z5 = h1 a0 1 → ∀ z6 : Int, z6 = 81 + 1 + 23 * z5 → ∀ (v2 : Int) (h2 : fH), fS 23 [z6, a1] h1 v2 h2 → ∀ z8 : Int, z8 = h2 a0 2 → ∀ z9 : Int, z9 = wr (z8 + 1) → ∀ z10 : Int, z10 = xmin 8 z9 → ∀ h3 : fH, h3 = fu h2 a0 2 z10 → Q 0 h3) : Q v h' := by
  exact x_mef vp_keep_k hs (fun _ _ _ => False) Q h0 (fun i Ti hT => by cases hT)
noncomputable def vc_fixes_T : xT := [(10, [.inl 1, .inr 0], 2, 5), (9, [.inr (-1)], 0, 0), (1, [.inr 3, .inl 4], 0, 0), (8, [.inl 5, .inr 1], 0, 0), (3, [.inr 3, .inl 4, .inl 6], 0, 0), (11, [.inr (-1)], 0, 0), (10, [.inl 1, .inr 5], 3, 5), (9, [.inr (-1)], 0, 0), (1, [.inr 3, .inl 4], 0, 0), (8, [.inl 5, .inr 1], 0, 0), (3, [.inr 3, .inl 4, .inl 6], 0, 0), (11, [.inr (-1)], 0, 0),
  (10, [.inl 2, .inr 1], 2, 5), (9, [.inr (-4)], 0, 0), (1, [.inr 3, .inl 4], 0, 0), (8, [.inl 5, .inr 1], 0, 0), (3, [.inr 3, .inl 4, .inl 6], 0, 0), (11, [.inr (-4)], 0, 0), (10, [.inl 3, .inr 0], 3, 20), (10, [.inl 2, .inr 9], 4, 5), (9, [.inr (-6)], 0, 0), (1, [.inr 3, .inl 4], 0, 0), (8, [.inl 5, .inr 1], 0, 0), (3, [.inr 3, .inl 4, .inl 6], 0, 0),
  (11, [.inr (-6)], 0, 0), (10, [.inl 3, .inr 8], 5, 8), (13, [.inr 80, .inr 11], 87, 0), (1, [.inr 28, .inl 1], 0, 0), (8, [.inr 10, .inl 5], 2, 0), (1, [.inr 29, .inl 1], 0, 0), (8, [.inl 6, .inl 7], 0, 0), (3, [.inr 28, .inl 1, .inl 2], 0, 0), (3, [.inr 29, .inl 1, .inl 3], 0, 0), (11, [.inl 8], 0, 0), (9, [.inr (-6)], 0, 0), (1, [.inr 3, .inl 4], 0, 0),
  (8, [.inl 5, .inr 1], 0, 0), (3, [.inr 3, .inl 4, .inl 6], 0, 0), (11, [.inr (-6)], 0, 0), (9, [.inr (-4)], 0, 0), (1, [.inr 3, .inl 4], 0, 0), (8, [.inl 5, .inr 1], 0, 0), (3, [.inr 3, .inl 4, .inl 6], 0, 0), (11, [.inr (-4)], 0, 0)]
theorem vc_fixes_k : x_chk 88 [] vc_fixes_T [] 600 = true := by decide +kernel
theorem vc_fixes {a0 a1 a2 a3 v : Int} {h h' : fH} (hs : fS 88 [a0, a1, a2, a3] h v h') (Q : Int → fH → Prop) (h0 : ((a1 < 0 → ∀ z4 : Int, z4 = wr (-(-1)) → ∀ z5 : Int, z5 = h 3 z4 → ∀ z6 : Int, z6 = wr (z5 + 1) → ∀ h1 : fH, h1 = fu h 3 z4 z6 → Q (-1) h1) ∧ (0 ≤ a1 → ((5 ≤ a1 → ∀ z4 : Int, z4 = wr (-(-1)) → ∀ z5 : Int, z5 = h 3 z4 → ∀ z6 : Int, z6 = wr (z5 + 1) → ∀ h1 : fH, h1 = fu h 3 z4 z6 → Q (-1) h1) ∧ (a1 < 5 → ((a2 < 1 → ∀ z4 : Int, z4 = wr (-(-4)) → ∀ z5 : Int, z5 = h 3 z4 → ∀ z6 : Int, z6 = wr (z5 + 1) → ∀ h1 : fH, h1 = fu h 3 z4 z6 → Q (-4) h1) ∧ (1 ≤ a2 → ((0 ≤ a3 → ((9 < a2 → ∀ z4 : Int, z4 = wr (-(-6)) → ∀ z5 : Int, z5 = h 3 z4 → ∀ z6 : Int, z6 = wr (z5 + 1) → ∀ h1 : fH, h1 = fu h 3 z4 z6 → Q (-6) h1) ∧ (a2 ≤ 9 → ((a3 ≤ 8 → ∀ (v1 : Int) (h1 : fH), fS 87 [80, 11] h v1 h1 → ∀ z5 : Int, z5 = h1 28 a1 → ∀ z6 : Int, z6 = wr (10 * z5) → ∀ z7 : Int, z7 = h1 29 a1 → ∀ z8 : Int, z8 = wr (z6 + z7) → ∀ h2 : fH, h2 = fu h1 28 a1 a2 → ∀ h3 : fH, h3 = fu h2 29 a1 a3 → Q z8 h3) ∧ (8 < a3 → ∀ z4 : Int, z4 = wr (-(-6)) → ∀ z5 : Int, z5 = h 3 z4 → ∀ z6 : Int, z6 = wr (z5 + 1) → ∀ h1 : fH, h1 = fu h 3 z4 z6 → Q (-6) h1))))) ∧ (a3 < 0 → ∀ z4 : Int, z4 = wr (-(-4)) → ∀ z5 : Int, z5 = h 3 z4 → ∀ z6 : Int, z6 = wr (z5 + 1) → ∀ h1 : fH, h1 = fu h 3 z4 z6 → Q (-4) h1))))))))) : Q v h' := by
  exact x_mef vc_fixes_k hs (fun _ _ _ => False) Q h0 (fun i Ti hT => by cases hT)
end
section
/-! the trees of the methods (made by a program) -/
noncomputable def vc_proposes_T : xT := [(13, [.inr 11, .inl 1, .inl 2, .inl 3, .inl 4, .inl 5], 54, 0), (10, [.inl 6, .inr 0], 0, 13), (13, [.inr 80, .inr 11], 87, 0), (0, [.inr 11], 14, 0), (1, [.inr 30, .inl 8], 0, 0), (2, [.inl 9, .inl 1], 0, 0), (2, [.inl 9, .inl 2], 1, 0), (2, [.inl 9, .inl 3], 2, 0), (2, [.inl 9, .inl 4], 3, 0), (2, [.inl 9, .inl 5], 4, 0), (0, [.inr 11], 14, 0), (8, [.inl 10, .inr 1], 0, 0),
  (2, [.inr 11, .inl 11], 14, 0), (0, [.inr 11], 14, 0), (11, [.inl 12], 0, 0), (9, [.inl 6], 0, 0), (1, [.inr 3, .inl 7], 0, 0), (8, [.inl 8, .inr 1], 0, 0), (3, [.inr 3, .inl 7, .inl 9], 0, 0), (11, [.inl 6], 0, 0)]
theorem vc_proposes_k : x_chk 89 [] vc_proposes_T [] 600 = true := by decide +kernel
theorem vc_proposes {a0 a1 a2 a3 a4 a5 v : Int} {h h' : fH} (hs : fS 89 [a0, a1, a2, a3, a4, a5] h v h') (Q : Int → fH → Prop) (h0 : ∀ (v1 : Int) (h1 : fH), fS 54 [11, a1, a2, a3, a4, a5] h v1 h1 → ((v1 = 0 → ∀ (v2 : Int) (h2 : fH), fS 87 [80, 11] h1 v2 h2 → ∀ z8 : Int, z8 = h2 11 14 → ∀ z9 : Int, z9 = h2 30 z8 → ∀ h3 : fH, h3 = fu h2 z9 0 a1 → ∀ h4 : fH, h4 = fu h3 z9 1 a2 → ∀ h5 : fH, h5 = fu h4 z9 2 a3 → ∀ h6 : fH, h6 = fu h5 z9 3 a4 → ∀ h7 : fH, h7 = fu h6 z9 4 a5 → ∀ z10 : Int, z10 = h7 11 14 → ∀ z11 : Int, z11 = wr (z10 + 1) → ∀ h8 : fH, h8 = fu h7 11 14 z11 → ∀ z12 : Int, z12 = h8 11 14 → Q z12 h8) ∧ (v1 ≠ 0 → ∀ z7 : Int, z7 = wr (-v1) → ∀ z8 : Int, z8 = h1 3 z7 → ∀ z9 : Int, z9 = wr (z8 + 1) → ∀ h2 : fH, h2 = fu h1 3 z7 z9 → Q v1 h2))) : Q v h' := by
  exact x_mef vc_proposes_k hs (fun _ _ _ => False) Q h0 (fun i Ti hT => by cases hT)
noncomputable def vc_days_T : xT := [(10, [.inl 1, .inr 1], 3, 18), (10, [.inl 1, .inr 60], 4, 5), (9, [.inr (-6)], 0, 0), (1, [.inr 3, .inl 2], 0, 0), (8, [.inl 3, .inr 1], 0, 0), (3, [.inr 3, .inl 2, .inl 4], 0, 0), (11, [.inr (-6)], 0, 0), (0, [.inr 11], 15, 0), (8, [.inl 2, .inl 1], 0, 0), (10, [.inl 3, .inr 999], 5, 4), (13, [.inr 80, .inr 11], 87, 0), (13, [.inr 11, .inl 1], 64, 0),
  (13, [.inr 11, .inr 0], 91, 0), (11, [.inl 6], 0, 0), (9, [.inr (-6)], 0, 0), (1, [.inr 3, .inl 4], 0, 0), (8, [.inl 5, .inr 1], 0, 0), (3, [.inr 3, .inl 4, .inl 6], 0, 0), (11, [.inr (-6)], 0, 0), (9, [.inr (-4)], 0, 0), (1, [.inr 3, .inl 2], 0, 0), (8, [.inl 3, .inr 1], 0, 0), (3, [.inr 3, .inl 2, .inl 4], 0, 0), (11, [.inr (-4)], 0, 0)]
theorem vc_days_k : x_chk 90 [] vc_days_T [] 600 = true := by decide +kernel
theorem vc_days {a0 a1 v : Int} {h h' : fH} (hs : fS 90 [a0, a1] h v h') (Q : Int → fH → Prop) (h0 : ((1 ≤ a1 → ((60 < a1 → ∀ z2 : Int, z2 = wr (-(-6)) → ∀ z3 : Int, z3 = h 3 z2 → ∀ z4 : Int, z4 = wr (z3 + 1) → ∀ h1 : fH, h1 = fu h 3 z2 z4 → Q (-6) h1) ∧ (a1 ≤ 60 → ∀ z2 : Int, z2 = h 11 15 → ∀ z3 : Int, z3 = wr (z2 + a1) → ((z3 ≤ 999 → ∀ (v1 : Int) (h1 : fH), fS 87 [80, 11] h v1 h1 → ∀ (v2 : Int) (h2 : fH), fS 64 [11, a1] h1 v2 h2 → ∀ (v3 : Int) (h3 : fH), fS 91 [11, 0] h2 v3 h3 → Q v3 h3) ∧ (999 < z3 → ∀ z4 : Int, z4 = wr (-(-6)) → ∀ z5 : Int, z5 = h 3 z4 → ∀ z6 : Int, z6 = wr (z5 + 1) → ∀ h1 : fH, h1 = fu h 3 z4 z6 → Q (-6) h1))))) ∧ (a1 < 1 → ∀ z2 : Int, z2 = wr (-(-4)) → ∀ z3 : Int, z3 = h 3 z2 → ∀ z4 : Int, z4 = wr (z3 + 1) → ∀ h1 : fH, h1 = fu h 3 z2 z4 → Q (-4) h1))) : Q v h' := by
  exact x_mef vc_days_k hs (fun _ _ _ => False) Q h0 (fun i Ti hT => by cases hT)
noncomputable def vt_howManyWed_T : xT := [(12, [.inl 0, .inl 1, .inr 0, .inr 0], 0, 0)]
noncomputable def vt_howManyWed_T0 : xT := [(0, [.inl 0], 1, 0), (10, [.inl 3, .inl 4], 3, 1), (11, [.inl 2], 0, 0), (13, [.inl 0, .inl 3, .inl 1], 82, 0), (10, [.inl 5, .inr 0], 0, 2), (8, [.inl 3, .inr 1], 0, 0), (12, [.inl 0, .inl 1, .inl 2, .inl 6], 0, 0), (8, [.inl 2, .inr 1], 0, 0), (8, [.inl 3, .inr 1], 0, 0), (12, [.inl 0, .inl 1, .inl 6, .inl 7], 0, 0)]
theorem vt_howManyWed_k : x_chk 91 [(4, [(0, 0), (1, 0), (2, 0), (3, 0)])] vt_howManyWed_T [vt_howManyWed_T0] 600 = true := by decide +kernel
theorem vt_howManyWed {a0 a1 v : Int} {h h' : fH} (hs : fS 91 [a0, a1] h v h') (I0 : Int → Int → Int → Int → fH → Prop) (Q : Int → fH → Prop) (h0 : I0 a0 a1 0 0 h) (k0 : ∀ (x0 x1 x2 x3 : Int) (h : fH), I0 x0 x1 x2 x3 h → ∀ z4 : Int, z4 = h x0 1 → ((z4 ≤ x3 → Q x2 h) ∧ (x3 < z4 → ∀ (v1 : Int) (h1 : fH), fS 82 [x0, x3, x1] h v1 h1 → ((v1 = 0 → ∀ z6 : Int, z6 = wr (x3 + 1) → I0 x0 x1 x2 z6 h1) ∧ (v1 ≠ 0 → ∀ z6 : Int, z6 = wr (x2 + 1) → ∀ z7 : Int, z7 = wr (x3 + 1) → I0 x0 x1 z6 z7 h1))))) : Q v h' := by
  refine x_mef vt_howManyWed_k hs (fun k l h => match k with
    | 0 => (match l with | [x0, x1, x2, x3] => I0 x0 x1 x2 x3 h | _ => False)
    | _ => False) Q h0 ?_
  intro i Ti hT vals h hi
  match i, hT, hi with
  | 0, hT, hi =>
    cases hT
    match vals, hi with
    | [x0, x1, x2, x3], hi => exact k0 _ _ _ _ _ hi
    | [], hi => exact False.elim hi
    | [_], hi => exact False.elim hi
    | [_, _], hi => exact False.elim hi
    | [_, _, _], hi => exact False.elim hi
    | _ :: _ :: _ :: _ :: _ :: _, hi => exact False.elim hi
  | _ + 1, hT, _ => cases hT
noncomputable def vc_back_T : xT := [(0, [.inr 80], 2, 0), (10, [.inl 1, .inr 0], 1, 3), (13, [.inr 80, .inr 11], 93, 0), (0, [.inr 80], 2, 0), (11, [.inl 3], 0, 0), (9, [.inr (-3)], 0, 0), (1, [.inr 3, .inl 2], 0, 0), (8, [.inl 3, .inr 1], 0, 0), (3, [.inr 3, .inl 2, .inl 4], 0, 0), (11, [.inr (-3)], 0, 0)]
theorem vc_back_k : x_chk 92 [] vc_back_T [] 600 = true := by decide +kernel
theorem vc_back {a0 v : Int} {h h' : fH} (hs : fS 92 [a0] h v h') (Q : Int → fH → Prop) (h0 : ∀ z1 : Int, z1 = h 80 2 → ((z1 ≠ 0 → ∀ (v1 : Int) (h1 : fH), fS 93 [80, 11] h v1 h1 → ∀ z3 : Int, z3 = h1 80 2 → Q z3 h1) ∧ (z1 = 0 → ∀ z2 : Int, z2 = wr (-(-3)) → ∀ z3 : Int, z3 = h 3 z2 → ∀ z4 : Int, z4 = wr (z3 + 1) → ∀ h1 : fH, h1 = fu h 3 z2 z4 → Q (-3) h1))) : Q v h' := by
  exact x_mef vc_back_k hs (fun _ _ _ => False) Q h0 (fun i Ti hT => by cases hT)
noncomputable def vp_putBack_T : xT := [(0, [.inl 0], 1, 0), (5, [.inr 81, .inl 2], 0, 23), (13, [.inl 1, .inl 3], 23, 0), (0, [.inl 0], 1, 0), (8, [.inl 5, .inr 8], 0, 0), (8, [.inl 6, .inr 1], 1, 0), (8, [.inl 7, .inr 8], 10, 0), (2, [.inl 0, .inl 8], 1, 0), (0, [.inl 0], 2, 0), (8, [.inl 9, .inr 1], 1, 0), (2, [.inl 0, .inl 10], 2, 0), (11, [.inr 0], 0, 0)]
theorem vp_putBack_k : x_chk 93 [] vp_putBack_T [] 600 = true := by decide +kernel
theorem vp_putBack {a0 a1 v : Int} {h h' : fH} (hs : fS 93 [a0, a1] h v h') (Q : Int → fH → Prop) (h0 : ∀ z2 : Int, z2 = h a0 1 → ∀ z3 : Int, z3 = 81 + 1 + 23 * z2 → ∀ (v1 : Int) (h1 : fH), fS 23 [a1, z3] h v1 h1 → ∀ z5 : Int, z5 = h1 a0 1 → ∀ z6 : Int, z6 = wr (z5 + 8) → ∀ z7 : Int, z7 = wr (z6 - 1) → ∀ z8 : Int, z8 = xrem z7 8 → ∀ h2 : fH, h2 = fu h1 a0 1 z8 → ∀ z9 : Int, z9 = h2 a0 2 → ∀ z10 : Int, z10 = wr (z9 - 1) → ∀ h3 : fH, h3 = fu h2 a0 2 z10 → Q 0 h3) : Q v h' := by
  exact x_mef vp_putBack_k hs (fun _ _ _ => False) Q h0 (fun i Ti hT => by cases hT)
noncomputable def vc_image_T : xT := [(13, [.inr 57, .inr 11], 23, 0), (2, [.inl 0, .inr 1], 3, 0), (0, [.inr 11], 15, 0), (11, [.inl 2], 0, 0)]
theorem vc_image_k : x_chk 94 [] vc_image_T [] 600 = true := by decide +kernel
theorem vc_image {a0 v : Int} {h h' : fH} (hs : fS 94 [a0] h v h') (Q : Int → fH → Prop) (h0 : ∀ (v1 : Int) (h1 : fH), fS 23 [57, 11] h v1 h1 → ∀ h2 : fH, h2 = fu h1 a0 3 1 → ∀ z2 : Int, z2 = h2 11 15 → Q z2 h2) : Q v h' := by
  exact x_mef vc_image_k hs (fun _ _ _ => False) Q h0 (fun i Ti hT => by cases hT)
noncomputable def vc_restore_T : xT := [(0, [.inl 0], 3, 0), (10, [.inl 1, .inr 0], 1, 4), (13, [.inr 11, .inr 57], 23, 0), (2, [.inr 80, .inr 0], 2, 0), (0, [.inr 11], 15, 0), (11, [.inl 3], 0, 0), (9, [.inr (-3)], 0, 0), (1, [.inr 3, .inl 2], 0, 0), (8, [.inl 3, .inr 1], 0, 0), (3, [.inr 3, .inl 2, .inl 4], 0, 0), (11, [.inr (-3)], 0, 0)]
theorem vc_restore_k : x_chk 95 [] vc_restore_T [] 600 = true := by decide +kernel
theorem vc_restore {a0 v : Int} {h h' : fH} (hs : fS 95 [a0] h v h') (Q : Int → fH → Prop) (h0 : ∀ z1 : Int, z1 = h a0 3 → ((z1 ≠ 0 → ∀ (v1 : Int) (h1 : fH), fS 23 [11, 57] h v1 h1 → ∀ h2 : fH, h2 = fu h1 80 2 0 → ∀ z3 : Int, z3 = h2 11 15 → Q z3 h2) ∧ (z1 = 0 → ∀ z2 : Int, z2 = wr (-(-3)) → ∀ z3 : Int, z3 = h 3 z2 → ∀ z4 : Int, z4 = wr (z3 + 1) → ∀ h1 : fH, h1 = fu h 3 z2 z4 → Q (-3) h1))) : Q v h' := by
  exact x_mef vc_restore_k hs (fun _ _ _ => False) Q h0 (fun i Ti hT => by cases hT)
noncomputable def vc_personIn_T : xT := [(10, [.inl 1, .inr 0], 2, 5), (9, [.inr (-1)], 0, 0), (1, [.inr 3, .inl 4], 0, 0), (8, [.inl 5, .inr 1], 0, 0), (3, [.inr 3, .inl 4, .inl 6], 0, 0), (11, [.inr (-1)], 0, 0), (0, [.inr 11], 1, 0), (10, [.inl 1, .inl 4], 3, 5), (9, [.inr (-1)], 0, 0), (1, [.inr 3, .inl 5], 0, 0), (8, [.inl 6, .inr 1], 0, 0), (3, [.inr 3, .inl 5, .inl 7], 0, 0),
  (11, [.inr (-1)], 0, 0), (10, [.inl 2, .inr 0], 3, 23), (10, [.inl 2, .inr 60], 5, 17), (10, [.inl 3, .inr 0], 2, 5), (9, [.inr (-2)], 0, 0), (1, [.inr 3, .inl 5], 0, 0), (8, [.inl 6, .inr 1], 0, 0), (3, [.inr 3, .inl 5, .inl 7], 0, 0), (11, [.inr (-2)], 0, 0), (10, [.inl 3, .inr 2], 3, 5), (9, [.inr (-2)], 0, 0), (1, [.inr 3, .inl 5], 0, 0),
  (8, [.inl 6, .inr 1], 0, 0), (3, [.inr 3, .inl 5, .inl 7], 0, 0), (11, [.inr (-2)], 0, 0), (10, [.inl 3, .inr 0], 1, 2), (13, [.inr 11, .inl 1, .inl 2], 81, 0), (11, [.inl 5], 0, 0), (13, [.inr 11, .inl 1, .inl 2], 97, 0), (11, [.inl 5], 0, 0), (9, [.inr (-6)], 0, 0), (1, [.inr 3, .inl 5], 0, 0), (8, [.inl 6, .inr 1], 0, 0), (3, [.inr 3, .inl 5, .inl 7], 0, 0),
  (11, [.inr (-6)], 0, 0), (9, [.inr (-4)], 0, 0), (1, [.inr 3, .inl 5], 0, 0), (8, [.inl 6, .inr 1], 0, 0), (3, [.inr 3, .inl 5, .inl 7], 0, 0), (11, [.inr (-4)], 0, 0)]
theorem vc_personIn_k : x_chk 96 [] vc_personIn_T [] 600 = true := by decide +kernel
noncomputable def vt_wedTo_T : xT := [(13, [.inl 0, .inl 1], 59, 0), (10, [.inl 3, .inr 0], 2, 3), (4, [.inl 0], 0, 8), (1, [.inl 4, .inl 1], 0, 0), (11, [.inl 5], 0, 0), (13, [.inl 0, .inl 1, .inl 2], 82, 0), (10, [.inl 4, .inr 0], 1, 12), (4, [.inl 0], 0, 19), (1, [.inl 5, .inl 3], 0, 0), (0, [.inl 6], 0, 0), (10, [.inl 7, .inl 1], 1, 4), (4, [.inl 0], 0, 19),
  (1, [.inl 8, .inl 3], 0, 0), (0, [.inl 9], 0, 0), (11, [.inl 10], 0, 0), (4, [.inl 0], 0, 19), (1, [.inl 8, .inl 3], 0, 0), (0, [.inl 9], 1, 0), (11, [.inl 10], 0, 0), (4, [.inl 0], 0, 8), (1, [.inl 5, .inl 1], 0, 0), (11, [.inl 6], 0, 0)]
theorem vt_wedTo_k : x_chk 97 [] vt_wedTo_T [] 600 = true := by decide +kernel
theorem vt_wedTo {a0 a1 a2 v : Int} {h h' : fH} (hs : fS 97 [a0, a1, a2] h v h') (Q : Int → fH → Prop) (h0 : ∀ (v1 : Int) (h1 : fH), fS 59 [a0, a1] h v1 h1 → ((v1 < 0 → ∀ z4 : Int, z4 = a0 + 8 → ∀ z5 : Int, z5 = h1 z4 a1 → Q z5 h1) ∧ (0 ≤ v1 → ∀ (v2 : Int) (h2 : fH), fS 82 [a0, a1, a2] h1 v2 h2 → ((v2 ≠ 0 → ∀ z5 : Int, z5 = a0 + 19 → ∀ z6 : Int, z6 = h2 z5 v1 → ∀ z7 : Int, z7 = h2 z6 0 → ((z7 ≠ a1 → ∀ z8 : Int, z8 = a0 + 19 → ∀ z9 : Int, z9 = h2 z8 v1 → ∀ z10 : Int, z10 = h2 z9 0 → Q z10 h2) ∧ (z7 = a1 → ∀ z8 : Int, z8 = a0 + 19 → ∀ z9 : Int, z9 = h2 z8 v1 → ∀ z10 : Int, z10 = h2 z9 1 → Q z10 h2))) ∧ (v2 = 0 → ∀ z5 : Int, z5 = a0 + 8 → ∀ z6 : Int, z6 = h2 z5 a1 → Q z6 h2))))) : Q v h' := by
  exact x_mef vt_wedTo_k hs (fun _ _ _ => False) Q h0 (fun i Ti hT => by cases hT)
noncomputable def vc_beliefIn_T : xT := [(10, [.inl 1, .inr 0], 2, 5), (9, [.inr (-1)], 0, 0), (1, [.inr 3, .inl 4], 0, 0), (8, [.inl 5, .inr 1], 0, 0), (3, [.inr 3, .inl 4, .inl 6], 0, 0), (11, [.inr (-1)], 0, 0), (0, [.inr 11], 1, 0), (10, [.inl 1, .inl 4], 3, 5), (9, [.inr (-1)], 0, 0), (1, [.inr 3, .inl 5], 0, 0), (8, [.inl 6, .inr 1], 0, 0), (3, [.inr 3, .inl 5, .inl 7], 0, 0),
  (11, [.inr (-1)], 0, 0), (10, [.inl 2, .inr 0], 2, 5), (9, [.inr (-1)], 0, 0), (1, [.inr 3, .inl 5], 0, 0), (8, [.inl 6, .inr 1], 0, 0), (3, [.inr 3, .inl 5, .inl 7], 0, 0), (11, [.inr (-1)], 0, 0), (10, [.inl 2, .inr 5], 3, 5), (9, [.inr (-1)], 0, 0), (1, [.inr 3, .inl 5], 0, 0), (8, [.inl 6, .inr 1], 0, 0), (3, [.inr 3, .inl 5, .inl 7], 0, 0),
  (11, [.inr (-1)], 0, 0), (10, [.inl 3, .inr 0], 3, 8), (10, [.inl 3, .inr 60], 5, 2), (13, [.inr 11, .inl 1, .inl 2, .inl 3], 100, 0), (11, [.inl 5], 0, 0), (9, [.inr (-6)], 0, 0), (1, [.inr 3, .inl 5], 0, 0), (8, [.inl 6, .inr 1], 0, 0), (3, [.inr 3, .inl 5, .inl 7], 0, 0), (11, [.inr (-6)], 0, 0), (9, [.inr (-4)], 0, 0), (1, [.inr 3, .inl 5], 0, 0),
  (8, [.inl 6, .inr 1], 0, 0), (3, [.inr 3, .inl 5, .inl 7], 0, 0), (11, [.inr (-4)], 0, 0)]
theorem vc_beliefIn_k : x_chk 98 [] vc_beliefIn_T [] 600 = true := by decide +kernel
noncomputable def vt_beliefOf_T : xT := [(4, [.inl 0], 0, 9), (5, [.inl 4, .inl 1], 0, 1), (1, [.inl 5, .inl 2], 0, 0), (12, [.inl 0, .inl 1, .inl 2, .inl 3, .inl 6, .inr 1], 0, 0)]
noncomputable def vt_beliefOf_T0 : xT := [(10, [.inl 5, .inl 3], 4, 1), (11, [.inl 4], 0, 0), (4, [.inl 0], 0, 5), (1, [.inl 6, .inl 1], 0, 0), (0, [.inl 0], 15, 0), (8, [.inl 8, .inl 5], 0, 0), (4, [.inl 0], 0, 18), (1, [.inl 10, .inl 2], 0, 0), (8, [.inl 9, .inl 11], 0, 0), (4, [.inl 0], 0, 17), (1, [.inl 13, .inl 2], 0, 0), (8, [.inl 12, .inl 14], 10, 0),
  (10, [.inl 15, .inr 0], 1, 3), (13, [.inl 4, .inl 7, .inr 0], 72, 0), (8, [.inl 5, .inr 1], 0, 0), (12, [.inl 0, .inl 1, .inl 2, .inl 3, .inl 16, .inl 17], 0, 0), (13, [.inl 4, .inl 7, .inr 1], 72, 0), (8, [.inl 5, .inr 1], 0, 0), (12, [.inl 0, .inl 1, .inl 2, .inl 3, .inl 16, .inl 17], 0, 0)]
theorem vt_beliefOf_k : x_chk 100 [(13, [(0, 0), (1, 0), (2, 0), (3, 0), (4, 0), (5, 0)])] vt_beliefOf_T [vt_beliefOf_T0] 600 = true := by decide +kernel
theorem vt_beliefOf {a0 a1 a2 a3 v : Int} {h h' : fH} (hs : fS 100 [a0, a1, a2, a3] h v h') (I0 : Int → Int → Int → Int → Int → Int → fH → Prop) (Q : Int → fH → Prop) (h0 : ∀ z4 : Int, z4 = a0 + 9 → ∀ z5 : Int, z5 = z4 + 1 + 1 * a1 → ∀ z6 : Int, z6 = h z5 a2 → I0 a0 a1 a2 a3 z6 1 h) (k0 : ∀ (x0 x1 x2 x3 x4 x5 : Int) (h : fH), I0 x0 x1 x2 x3 x4 x5 h → ((x3 < x5 → Q x4 h) ∧ (x5 ≤ x3 → ∀ z6 : Int, z6 = x0 + 5 → ∀ z7 : Int, z7 = h z6 x1 → ∀ z8 : Int, z8 = h x0 15 → ∀ z9 : Int, z9 = wr (z8 + x5) → ∀ z10 : Int, z10 = x0 + 18 → ∀ z11 : Int, z11 = h z10 x2 → ∀ z12 : Int, z12 = wr (z9 + z11) → ∀ z13 : Int, z13 = x0 + 17 → ∀ z14 : Int, z14 = h z13 x2 → ∀ z15 : Int, z15 = xrem z12 z14 → ((z15 ≠ 0 → ∀ (v1 : Int) (h1 : fH), fS 72 [x4, z7, 0] h v1 h1 → ∀ z17 : Int, z17 = wr (x5 + 1) → I0 x0 x1 x2 x3 v1 z17 h1) ∧ (z15 = 0 → ∀ (v1 : Int) (h1 : fH), fS 72 [x4, z7, 1] h v1 h1 → ∀ z17 : Int, z17 = wr (x5 + 1) → I0 x0 x1 x2 x3 v1 z17 h1))))) : Q v h' := by
  refine x_mef vt_beliefOf_k hs (fun k l h => match k with
    | 0 => (match l with | [x0, x1, x2, x3, x4, x5] => I0 x0 x1 x2 x3 x4 x5 h | _ => False)
    | _ => False) Q h0 ?_
  intro i Ti hT vals h hi
  match i, hT, hi with
  | 0, hT, hi =>
    cases hT
    match vals, hi with
    | [x0, x1, x2, x3, x4, x5], hi => exact k0 _ _ _ _ _ _ _ hi
    | [], hi => exact False.elim hi
    | [_], hi => exact False.elim hi
    | [_, _], hi => exact False.elim hi
    | [_, _, _], hi => exact False.elim hi
    | [_, _, _, _], hi => exact False.elim hi
    | [_, _, _, _, _], hi => exact False.elim hi
    | _ :: _ :: _ :: _ :: _ :: _ :: _ :: _, hi => exact False.elim hi
  | _ + 1, hT, _ => cases hT
noncomputable def vc_hope_T : xT := [(10, [.inl 1, .inr 0], 2, 6), (9, [.inr (-1)], 0, 0), (1, [.inr 3, .inl 4], 0, 0), (8, [.inl 5, .inr 1], 0, 0), (3, [.inr 3, .inl 4, .inl 6], 0, 0), (8, [.inr 1000000000, .inr (-1)], 1, 0), (11, [.inl 7], 0, 0), (0, [.inr 11], 1, 0), (10, [.inl 1, .inl 4], 3, 6), (9, [.inr (-1)], 0, 0), (1, [.inr 3, .inl 5], 0, 0), (8, [.inl 6, .inr 1], 0, 0),
  (3, [.inr 3, .inl 5, .inl 7], 0, 0), (8, [.inr 1000000000, .inr (-1)], 1, 0), (11, [.inl 8], 0, 0), (10, [.inl 2, .inr 0], 2, 6), (9, [.inr (-1)], 0, 0), (1, [.inr 3, .inl 5], 0, 0), (8, [.inl 6, .inr 1], 0, 0), (3, [.inr 3, .inl 5, .inl 7], 0, 0), (8, [.inr 1000000000, .inr (-1)], 1, 0), (11, [.inl 8], 0, 0), (10, [.inl 2, .inr 5], 3, 6), (9, [.inr (-1)], 0, 0),
  (1, [.inr 3, .inl 5], 0, 0), (8, [.inl 6, .inr 1], 0, 0), (3, [.inr 3, .inl 5, .inl 7], 0, 0), (8, [.inr 1000000000, .inr (-1)], 1, 0), (11, [.inl 8], 0, 0), (10, [.inl 3, .inr 0], 3, 12), (10, [.inl 3, .inr 60], 5, 5), (13, [.inr 11, .inl 1, .inl 2, .inl 3], 100, 0), (5, [.inr 20, .inl 1], 0, 1), (1, [.inl 6, .inl 2], 0, 0), (8, [.inl 5, .inl 7], 1, 0), (11, [.inl 8], 0, 0),
  (9, [.inr (-6)], 0, 0), (1, [.inr 3, .inl 5], 0, 0), (8, [.inl 6, .inr 1], 0, 0), (3, [.inr 3, .inl 5, .inl 7], 0, 0), (8, [.inr 1000000000, .inr (-6)], 1, 0), (11, [.inl 8], 0, 0), (9, [.inr (-4)], 0, 0), (1, [.inr 3, .inl 5], 0, 0), (8, [.inl 6, .inr 1], 0, 0), (3, [.inr 3, .inl 5, .inl 7], 0, 0), (8, [.inr 1000000000, .inr (-4)], 1, 0), (11, [.inl 8], 0, 0)]
theorem vc_hope_k : x_chk 101 [] vc_hope_T [] 600 = true := by decide +kernel
noncomputable def vc_wedIn_T : xT := [(10, [.inl 1, .inr 0], 3, 8), (10, [.inl 1, .inr 60], 5, 2), (13, [.inr 11, .inl 1], 91, 0), (11, [.inl 2], 0, 0), (9, [.inr (-6)], 0, 0), (1, [.inr 3, .inl 2], 0, 0), (8, [.inl 3, .inr 1], 0, 0), (3, [.inr 3, .inl 2, .inl 4], 0, 0), (11, [.inr (-6)], 0, 0), (9, [.inr (-4)], 0, 0), (1, [.inr 3, .inl 2], 0, 0), (8, [.inl 3, .inr 1], 0, 0),
  (3, [.inr 3, .inl 2, .inl 4], 0, 0), (11, [.inr (-4)], 0, 0)]
theorem vc_wedIn_k : x_chk 102 [] vc_wedIn_T [] 600 = true := by decide +kernel
noncomputable def vc_wedWhen_T : xT := [(10, [.inl 1, .inr (-1)], 1, 15), (10, [.inl 1, .inr 0], 2, 5), (9, [.inr (-1)], 0, 0), (1, [.inr 3, .inl 2], 0, 0), (8, [.inl 3, .inr 1], 0, 0), (3, [.inr 3, .inl 2, .inl 4], 0, 0), (11, [.inr (-1)], 0, 0), (0, [.inr 11], 1, 0), (10, [.inl 1, .inl 2], 3, 5), (9, [.inr (-1)], 0, 0), (1, [.inr 3, .inl 3], 0, 0), (8, [.inl 4, .inr 1], 0, 0),
  (3, [.inr 3, .inl 3, .inl 5], 0, 0), (11, [.inr (-1)], 0, 0), (13, [.inr 11, .inl 1], 83, 0), (11, [.inl 3], 0, 0), (13, [.inl 0], 104, 0), (11, [.inl 2], 0, 0)]
theorem vc_wedWhen_k : x_chk 103 [] vc_wedWhen_T [] 600 = true := by decide +kernel
noncomputable def vc_firstToWed_T : xT := [(12, [.inl 0, .inr (-9), .inr 61, .inr 0], 0, 0)]
noncomputable def vc_firstToWed_T0 : xT := [(0, [.inr 11], 1, 0), (10, [.inl 3, .inl 4], 3, 1), (11, [.inl 1], 0, 0), (13, [.inr 11, .inl 3], 83, 0), (10, [.inl 5, .inr 0], 5, 2), (8, [.inl 3, .inr 1], 0, 0), (12, [.inl 0, .inl 1, .inl 2, .inl 6], 0, 0), (10, [.inl 5, .inl 2], 3, 2), (8, [.inl 3, .inr 1], 0, 0), (12, [.inl 0, .inl 1, .inl 2, .inl 6], 0, 0), (8, [.inl 3, .inr 1], 0, 0), (12, [.inl 0, .inl 3, .inl 5, .inl 6], 0, 0)]
theorem vc_firstToWed_k : x_chk 104 [(8, [(0, 0), (1, 0), (2, 0), (3, 0)])] vc_firstToWed_T [vc_firstToWed_T0] 600 = true := by decide +kernel
noncomputable def vc_happens_T : xT := [(10, [.inl 1, .inr 0], 2, 5), (9, [.inr (-1)], 0, 0), (1, [.inr 3, .inl 3], 0, 0), (8, [.inl 4, .inr 1], 0, 0), (3, [.inr 3, .inl 3, .inl 5], 0, 0), (11, [.inr (-1)], 0, 0), (10, [.inl 1, .inr 5], 3, 5), (9, [.inr (-1)], 0, 0), (1, [.inr 3, .inl 3], 0, 0), (8, [.inl 4, .inr 1], 0, 0), (3, [.inr 3, .inl 3, .inl 5], 0, 0), (11, [.inr (-1)], 0, 0),
  (10, [.inl 2, .inr 0], 3, 7), (10, [.inl 2, .inr 60], 5, 1), (12, [.inl 0, .inl 1, .inl 2, .inr 0, .inr 1], 0, 0), (9, [.inr (-6)], 0, 0), (1, [.inr 3, .inl 3], 0, 0), (8, [.inl 4, .inr 1], 0, 0), (3, [.inr 3, .inl 3, .inl 5], 0, 0), (11, [.inr (-6)], 0, 0), (9, [.inr (-4)], 0, 0), (1, [.inr 3, .inl 3], 0, 0), (8, [.inl 4, .inr 1], 0, 0), (3, [.inr 3, .inl 3, .inl 5], 0, 0),
  (11, [.inr (-4)], 0, 0)]
noncomputable def vc_happens_T0 : xT := [(10, [.inl 4, .inl 2], 4, 1), (11, [.inl 3], 0, 0), (0, [.inr 11], 15, 0), (8, [.inl 5, .inl 4], 0, 0), (1, [.inr 29, .inl 1], 0, 0), (8, [.inl 6, .inl 7], 0, 0), (1, [.inr 28, .inl 1], 0, 0), (8, [.inl 8, .inl 9], 10, 0), (10, [.inl 10, .inr 0], 1, 2), (8, [.inl 4, .inr 1], 0, 0), (12, [.inl 0, .inl 1, .inl 2, .inl 3, .inl 11], 0, 0), (8, [.inl 3, .inr 1], 0, 0),
  (8, [.inl 4, .inr 1], 0, 0), (12, [.inl 0, .inl 1, .inl 2, .inl 11, .inl 12], 0, 0)]
theorem vc_happens_k : x_chk 105 [(42, [(0, 0), (1, 0), (2, 0), (3, 0), (4, 0)])] vc_happens_T [vc_happens_T0] 600 = true := by decide +kernel
end
section
/-! the trees of the methods (made by a program) -/
noncomputable def vc_bet_T : xT := [(10, [.inl 1, .inr 0], 2, 5), (9, [.inr (-1)], 0, 0), (1, [.inr 3, .inl 3], 0, 0), (8, [.inl 4, .inr 1], 0, 0), (3, [.inr 3, .inl 3, .inl 5], 0, 0), (11, [.inr (-1)], 0, 0), (0, [.inr 11], 1, 0), (10, [.inl 1, .inl 3], 3, 5), (9, [.inr (-1)], 0, 0), (1, [.inr 3, .inl 4], 0, 0), (8, [.inl 5, .inr 1], 0, 0), (3, [.inr 3, .inl 4, .inl 6], 0, 0),
  (11, [.inr (-1)], 0, 0), (10, [.inl 2, .inr 0], 2, 5), (9, [.inr (-1)], 0, 0), (1, [.inr 3, .inl 4], 0, 0), (8, [.inl 5, .inr 1], 0, 0), (3, [.inr 3, .inl 4, .inl 6], 0, 0), (11, [.inr (-1)], 0, 0), (0, [.inr 11], 1, 0), (10, [.inl 2, .inl 4], 3, 5), (9, [.inr (-1)], 0, 0), (1, [.inr 3, .inl 5], 0, 0), (8, [.inl 6, .inr 1], 0, 0),
  (3, [.inr 3, .inl 5, .inl 7], 0, 0), (11, [.inr (-1)], 0, 0), (10, [.inl 1, .inl 2], 0, 5), (9, [.inr (-1)], 0, 0), (1, [.inr 3, .inl 5], 0, 0), (8, [.inl 6, .inr 1], 0, 0), (3, [.inr 3, .inl 5, .inl 7], 0, 0), (11, [.inr (-1)], 0, 0), (13, [.inr 11, .inl 1, .inl 2], 107, 0), (11, [.inl 5], 0, 0)]
theorem vc_bet_k : x_chk 106 [] vc_bet_T [] 600 = true := by decide +kernel
noncomputable def vt_bestBet_T : xT := [(12, [.inl 0, .inl 1, .inl 2, .inr 1], 0, 0)]
noncomputable def vt_bestBet_T0 : xT := [(10, [.inl 3, .inr 9], 4, 1), (11, [.inr (-9)], 0, 0), (12, [.inl 0, .inl 1, .inl 2, .inl 3, .inr 0], 1, 0)]
noncomputable def vt_bestBet_T1 : xT := [(10, [.inl 4, .inr 5], 3, 2), (8, [.inl 3, .inr 1], 0, 0), (12, [.inl 0, .inl 1, .inl 2, .inl 5], 0, 0), (0, [.inl 0], 15, 0), (8, [.inl 5, .inl 3], 0, 0), (4, [.inl 0], 0, 18), (1, [.inl 7, .inl 4], 0, 0), (8, [.inl 6, .inl 8], 0, 0), (4, [.inl 0], 0, 17), (1, [.inl 10, .inl 4], 0, 0), (8, [.inl 9, .inl 11], 10, 0), (10, [.inl 12, .inr 0], 1, 9),
  (13, [.inl 0, .inl 1, .inl 2, .inl 4, .inr 1], 56, 0), (10, [.inl 13, .inr 0], 0, 2), (8, [.inl 4, .inr 1], 0, 0), (12, [.inl 0, .inl 1, .inl 2, .inl 3, .inl 14], 1, 0), (8, [.inr 100, .inl 4], 2, 0), (8, [.inr 10, .inr 1], 2, 0), (8, [.inl 14, .inl 15], 0, 0), (8, [.inl 16, .inl 3], 0, 0), (11, [.inl 17], 0, 0), (13, [.inl 0, .inl 1, .inl 2, .inl 4, .inr 0], 56, 0), (10, [.inl 13, .inr 0], 0, 2), (8, [.inl 4, .inr 1], 0, 0),
  (12, [.inl 0, .inl 1, .inl 2, .inl 3, .inl 14], 1, 0), (8, [.inr 100, .inl 4], 2, 0), (8, [.inr 10, .inr 0], 2, 0), (8, [.inl 14, .inl 15], 0, 0), (8, [.inl 16, .inl 3], 0, 0), (11, [.inl 17], 0, 0)]
theorem vt_bestBet_k : x_chk 107 [(2, [(0, 0), (1, 0), (2, 0), (3, 0)]), (11, [(0, 0), (1, 0), (2, 0), (3, 0), (4, 0)])] vt_bestBet_T [vt_bestBet_T0, vt_bestBet_T1] 600 = true := by decide +kernel
noncomputable def vc_takers_T : xT := [(10, [.inl 1, .inr 0], 2, 5), (9, [.inr (-1)], 0, 0), (1, [.inr 3, .inl 4], 0, 0), (8, [.inl 5, .inr 1], 0, 0), (3, [.inr 3, .inl 4, .inl 6], 0, 0), (11, [.inr (-1)], 0, 0), (0, [.inr 11], 1, 0), (10, [.inl 1, .inl 4], 3, 5), (9, [.inr (-1)], 0, 0), (1, [.inr 3, .inl 5], 0, 0), (8, [.inl 6, .inr 1], 0, 0), (3, [.inr 3, .inl 5, .inl 7], 0, 0),
  (11, [.inr (-1)], 0, 0), (10, [.inl 2, .inr 0], 2, 5), (9, [.inr (-1)], 0, 0), (1, [.inr 3, .inl 5], 0, 0), (8, [.inl 6, .inr 1], 0, 0), (3, [.inr 3, .inl 5, .inl 7], 0, 0), (11, [.inr (-1)], 0, 0), (10, [.inl 2, .inr 5], 3, 5), (9, [.inr (-1)], 0, 0), (1, [.inr 3, .inl 5], 0, 0), (8, [.inl 6, .inr 1], 0, 0), (3, [.inr 3, .inl 5, .inl 7], 0, 0),
  (11, [.inr (-1)], 0, 0), (10, [.inl 3, .inr 0], 2, 5), (9, [.inr (-2)], 0, 0), (1, [.inr 3, .inl 5], 0, 0), (8, [.inl 6, .inr 1], 0, 0), (3, [.inr 3, .inl 5, .inl 7], 0, 0), (11, [.inr (-2)], 0, 0), (10, [.inl 3, .inr 2], 3, 5), (9, [.inr (-2)], 0, 0), (1, [.inr 3, .inl 5], 0, 0), (8, [.inl 6, .inr 1], 0, 0), (3, [.inr 3, .inl 5, .inl 7], 0, 0),
  (11, [.inr (-2)], 0, 0), (12, [.inl 0, .inl 1, .inl 2, .inl 3, .inr 0, .inr 0], 0, 0)]
noncomputable def vc_takers_T0 : xT := [(0, [.inr 11], 1, 0), (10, [.inl 5, .inl 6], 3, 1), (11, [.inl 4], 0, 0), (10, [.inl 5, .inl 1], 0, 2), (8, [.inl 5, .inr 1], 0, 0), (12, [.inl 0, .inl 1, .inl 2, .inl 3, .inl 4, .inl 7], 0, 0), (13, [.inr 11, .inl 5, .inl 1, .inl 2, .inl 3], 61, 0), (10, [.inl 7, .inr 0], 0, 2), (8, [.inl 5, .inr 1], 0, 0), (12, [.inl 0, .inl 1, .inl 2, .inl 3, .inl 4, .inl 8], 0, 0), (8, [.inr 1, .inl 5], 6, 0), (8, [.inl 4, .inl 8], 4, 0),
  (8, [.inl 5, .inr 1], 0, 0), (12, [.inl 0, .inl 1, .inl 2, .inl 3, .inl 9, .inl 10], 0, 0)]
theorem vc_takers_k : x_chk 108 [(45, [(0, 0), (1, 0), (2, 0), (3, 0), (4, 0), (5, 0)])] vc_takers_T [vc_takers_T0] 600 = true := by decide +kernel
noncomputable def vc_wooers_T : xT := [(10, [.inl 1, .inr 0], 2, 5), (9, [.inr (-1)], 0, 0), (1, [.inr 3, .inl 2], 0, 0), (8, [.inl 3, .inr 1], 0, 0), (3, [.inr 3, .inl 2, .inl 4], 0, 0), (11, [.inr (-1)], 0, 0), (0, [.inr 11], 1, 0), (10, [.inl 1, .inl 2], 3, 5), (9, [.inr (-1)], 0, 0), (1, [.inr 3, .inl 3], 0, 0), (8, [.inl 4, .inr 1], 0, 0), (3, [.inr 3, .inl 3, .inl 5], 0, 0),
  (11, [.inr (-1)], 0, 0), (13, [.inr 11, .inl 1], 110, 0), (11, [.inl 3], 0, 0)]
theorem vc_wooers_k : x_chk 109 [] vc_wooers_T [] 600 = true := by decide +kernel
noncomputable def vt_wooerBits_T : xT := [(12, [.inl 0, .inl 1, .inr 0, .inr 0], 0, 0)]
noncomputable def vt_wooerBits_T0 : xT := [(0, [.inl 0], 1, 0), (10, [.inl 3, .inl 4], 3, 1), (11, [.inl 2], 0, 0), (10, [.inl 3, .inl 1], 0, 2), (8, [.inl 3, .inr 1], 0, 0), (12, [.inl 0, .inl 1, .inl 2, .inl 5], 0, 0), (13, [.inl 0, .inl 3, .inl 1], 107, 0), (10, [.inl 5, .inr (-9)], 0, 2), (8, [.inl 3, .inr 1], 0, 0), (12, [.inl 0, .inl 1, .inl 2, .inl 6], 0, 0), (8, [.inr 1, .inl 3], 6, 0), (8, [.inl 2, .inl 6], 4, 0),
  (8, [.inl 3, .inr 1], 0, 0), (12, [.inl 0, .inl 1, .inl 7, .inl 8], 0, 0)]
theorem vt_wooerBits_k : x_chk 110 [(4, [(0, 0), (1, 0), (2, 0), (3, 0)])] vt_wooerBits_T [vt_wooerBits_T0] 600 = true := by decide +kernel
noncomputable def vc_match_T : xT := [(10, [.inl 1, .inr (-1)], 0, 6), (13, [.inr 268, .inr 11], 112, 0), (10, [.inl 1, .inr (-1)], 1, 2), (13, [.inr 268, .inl 1], 116, 0), (11, [.inl 3], 0, 0), (13, [.inr 268], 115, 0), (11, [.inl 3], 0, 0), (10, [.inl 1, .inr 0], 2, 5), (9, [.inr (-1)], 0, 0), (1, [.inr 3, .inl 2], 0, 0), (8, [.inl 3, .inr 1], 0, 0), (3, [.inr 3, .inl 2, .inl 4], 0, 0),
  (11, [.inr (-1)], 0, 0), (0, [.inr 11], 1, 0), (10, [.inl 1, .inl 2], 3, 5), (9, [.inr (-1)], 0, 0), (1, [.inr 3, .inl 3], 0, 0), (8, [.inl 4, .inr 1], 0, 0), (3, [.inr 3, .inl 3, .inl 5], 0, 0), (11, [.inr (-1)], 0, 0), (13, [.inr 268, .inr 11], 112, 0), (10, [.inl 1, .inr (-1)], 1, 2), (13, [.inr 268, .inl 1], 116, 0), (11, [.inl 4], 0, 0),
  (13, [.inr 268], 115, 0), (11, [.inl 4], 0, 0)]
theorem vc_match_k : x_chk 111 [] vc_match_T [] 600 = true := by decide +kernel
noncomputable def vw_reckon_T : xT := [(0, [.inl 1], 1, 0), (8, [.inr 1, .inl 2], 6, 0), (8, [.inl 3, .inr 1], 1, 0), (2, [.inl 0, .inl 4], 2, 0), (13, [.inr 269, .inr 0], 47, 0), (12, [.inl 0, .inl 1, .inr 0], 0, 0)]
noncomputable def vw_reckon_T0 : xT := [(0, [.inl 1], 1, 0), (10, [.inl 2, .inl 3], 3, 1), (12, [.inl 0, .inr 1], 2, 0), (13, [.inl 1, .inl 2], 110, 0), (1, [.inr 269, .inl 2], 0, 0), (8, [.inl 5, .inl 4], 4, 0), (3, [.inr 269, .inl 2, .inl 6], 0, 0), (12, [.inl 0, .inl 1, .inl 2, .inl 4, .inr 0], 1, 0)]
noncomputable def vw_reckon_T1 : xT := [(0, [.inl 1], 1, 0), (10, [.inl 4, .inl 5], 3, 2), (8, [.inl 2, .inr 1], 0, 0), (12, [.inl 0, .inl 1, .inl 6], 0, 0), (8, [.inl 3, .inl 4], 7, 0), (8, [.inl 6, .inr 1], 3, 0), (10, [.inl 7, .inr 1], 1, 2), (8, [.inl 4, .inr 1], 0, 0), (12, [.inl 0, .inl 1, .inl 2, .inl 3, .inl 8], 1, 0), (1, [.inr 269, .inl 4], 0, 0), (8, [.inr 1, .inl 2], 6, 0), (8, [.inl 8, .inl 9], 4, 0),
  (3, [.inr 269, .inl 4, .inl 10], 0, 0), (8, [.inl 4, .inr 1], 0, 0), (12, [.inl 0, .inl 1, .inl 2, .inl 3, .inl 11], 1, 0)]
noncomputable def vw_reckon_T2 : xT := [(0, [.inl 0], 2, 0), (10, [.inl 1, .inl 2], 4, 1), (11, [.inr 0], 0, 0), (13, [.inl 0, .inl 1], 114, 0), (3, [.inr 270, .inl 1, .inl 3], 0, 0), (8, [.inl 1, .inr 1], 0, 0), (12, [.inl 0, .inl 4], 2, 0)]
theorem vw_reckon_k : x_chk 112 [(22, [(0, 0), (1, 0), (2, 0)]), (49, [(0, 0), (1, 0), (2, 0), (3, 0), (4, 0)]), (94, [(0, 0), (2, 0)])] vw_reckon_T [vw_reckon_T0, vw_reckon_T1, vw_reckon_T2] 600 = true := by decide +kernel
noncomputable def vw_mostIn_T : xT := [(12, [.inl 0, .inl 1, .inr 0], 0, 0)]
noncomputable def vw_mostIn_T0 : xT := [(10, [.inl 2, .inr 6], 3, 5), (8, [.inr 1, .inl 2], 6, 0), (8, [.inl 3, .inr (-1)], 5, 0), (8, [.inl 1, .inl 4], 3, 0), (1, [.inr 270, .inl 5], 0, 0), (12, [.inl 0, .inl 2, .inl 5, .inl 6, .inr 0], 1, 0), (8, [.inl 1, .inl 2], 7, 0), (8, [.inl 3, .inr 1], 3, 0), (10, [.inl 4, .inr 1], 1, 2), (8, [.inl 2, .inr 1], 0, 0), (12, [.inl 0, .inl 1, .inl 5], 0, 0), (8, [.inr 1, .inl 2], 6, 0),
  (8, [.inl 5, .inr (-1)], 5, 0), (8, [.inl 1, .inl 6], 3, 0), (1, [.inr 270, .inl 7], 0, 0), (12, [.inl 0, .inl 2, .inl 7, .inl 8, .inr 0], 1, 0)]
noncomputable def vw_mostIn_T1 : xT := [(10, [.inl 4, .inr 7], 3, 1), (11, [.inl 3], 0, 0), (1, [.inr 269, .inl 1], 0, 0), (8, [.inl 2, .inl 5], 3, 0), (8, [.inl 6, .inl 4], 7, 0), (8, [.inl 7, .inr 1], 3, 0), (10, [.inl 8, .inr 1], 1, 2), (8, [.inl 4, .inr 1], 0, 0), (12, [.inl 0, .inl 1, .inl 2, .inl 3, .inl 9], 1, 0), (8, [.inr 1, .inl 4], 6, 0), (8, [.inl 9, .inr (-1)], 5, 0), (8, [.inl 2, .inl 10], 3, 0),
  (1, [.inr 270, .inl 11], 0, 0), (8, [.inr 1, .inl 12], 0, 0), (8, [.inl 3, .inl 13], 11, 0), (8, [.inl 4, .inr 1], 0, 0), (12, [.inl 0, .inl 1, .inl 2, .inl 14, .inl 15], 1, 0)]
theorem vw_mostIn_k : x_chk 114 [(2, [(0, 0), (1, 0), (2, 0)]), (41, [(0, 0), (2, 0), (3, 0), (4, 0), (5, 0)])] vw_mostIn_T [vw_mostIn_T0, vw_mostIn_T1] 600 = true := by decide +kernel
noncomputable def vw_most_T : xT := [(0, [.inl 0], 2, 0), (1, [.inr 270, .inl 1], 0, 0), (11, [.inl 2], 0, 0)]
theorem vw_most_k : x_chk 115 [] vw_most_T [] 600 = true := by decide +kernel
noncomputable def vw_partnerOf_T : xT := [(0, [.inl 0], 2, 0), (12, [.inl 0, .inl 1, .inl 2, .inr 0], 0, 0)]
noncomputable def vw_partnerOf_T0 : xT := [(10, [.inl 3, .inr 7], 3, 1), (11, [.inr (-9)], 0, 0), (8, [.inl 2, .inl 3], 7, 0), (8, [.inl 4, .inr 1], 3, 0), (10, [.inl 5, .inr 1], 1, 2), (8, [.inl 3, .inr 1], 0, 0), (12, [.inl 0, .inl 1, .inl 2, .inl 6], 0, 0), (13, [.inl 0, .inl 2, .inl 3], 117, 0), (10, [.inl 3, .inl 1], 1, 13), (10, [.inl 6, .inl 1], 1, 11), (8, [.inr 1, .inl 3], 6, 0), (8, [.inl 7, .inr (-1)], 5, 0),
  (8, [.inl 2, .inl 8], 3, 0), (10, [.inl 6, .inr (-9)], 0, 2), (8, [.inl 3, .inr 1], 0, 0), (12, [.inl 0, .inl 1, .inl 9, .inl 10], 0, 0), (8, [.inr 1, .inl 6], 6, 0), (8, [.inl 10, .inr (-1)], 5, 0), (8, [.inl 9, .inl 11], 3, 0), (8, [.inl 3, .inr 1], 0, 0), (12, [.inl 0, .inl 1, .inl 12, .inl 13], 0, 0), (11, [.inl 3], 0, 0), (11, [.inl 6], 0, 0)]
theorem vw_partnerOf_k : x_chk 116 [(7, [(0, 0), (1, 0), (2, 0), (3, 0)])] vw_partnerOf_T [vw_partnerOf_T0] 600 = true := by decide +kernel
end
section
/-! the trees of the methods (made by a program) -/
noncomputable def vw_firstPartner_T : xT := [(8, [.inr 1, .inl 2], 6, 0), (8, [.inl 3, .inr (-1)], 5, 0), (8, [.inl 1, .inl 4], 3, 0), (12, [.inl 0, .inl 1, .inl 2, .inl 5, .inr 0], 0, 0)]
noncomputable def vw_firstPartner_T0 : xT := [(10, [.inl 4, .inr 7], 3, 1), (11, [.inr (-9)], 0, 0), (1, [.inr 269, .inl 2], 0, 0), (8, [.inl 3, .inl 5], 3, 0), (8, [.inl 6, .inl 4], 7, 0), (8, [.inl 7, .inr 1], 3, 0), (10, [.inl 8, .inr 1], 1, 2), (8, [.inl 4, .inr 1], 0, 0), (12, [.inl 0, .inl 1, .inl 2, .inl 3, .inl 9], 0, 0), (8, [.inr 1, .inl 4], 6, 0), (8, [.inl 9, .inr (-1)], 5, 0), (8, [.inl 3, .inl 10], 3, 0),
  (1, [.inr 270, .inl 11], 0, 0), (8, [.inr 1, .inl 12], 0, 0), (1, [.inr 270, .inl 1], 0, 0), (10, [.inl 13, .inl 14], 1, 2), (8, [.inl 4, .inr 1], 0, 0), (12, [.inl 0, .inl 1, .inl 2, .inl 3, .inl 15], 0, 0), (11, [.inl 4], 0, 0)]
theorem vw_firstPartner_k : x_chk 117 [(11, [(0, 0), (1, 0), (2, 0), (3, 0), (4, 0)])] vw_firstPartner_T [vw_firstPartner_T0] 600 = true := by decide +kernel
noncomputable def vc_fix_T : xT := [(10, [.inl 1, .inr 0], 3, 9), (10, [.inl 1, .inr 30], 5, 3), (13, [.inr 34, .inr 11], 23, 0), (13, [.inr 11, .inl 1], 91, 0), (12, [.inl 0, .inl 1, .inr (-9), .inl 3, .inr 0], 0, 0), (9, [.inr (-6)], 0, 0), (1, [.inr 3, .inl 2], 0, 0), (8, [.inl 3, .inr 1], 0, 0), (3, [.inr 3, .inl 2, .inl 4], 0, 0), (11, [.inr (-6)], 0, 0), (9, [.inr (-4)], 0, 0), (1, [.inr 3, .inl 2], 0, 0),
  (8, [.inl 3, .inr 1], 0, 0), (3, [.inr 3, .inl 2, .inl 4], 0, 0), (11, [.inr (-4)], 0, 0)]
noncomputable def vc_fix_T0 : xT := [(10, [.inl 4, .inr 5], 3, 1), (11, [.inl 2], 0, 0), (12, [.inl 0, .inl 1, .inl 2, .inl 3, .inl 4, .inr 0], 1, 0)]
noncomputable def vc_fix_T1 : xT := [(10, [.inl 5, .inr 8], 4, 4), (1, [.inr 29, .inl 4], 0, 0), (3, [.inr 52, .inl 4, .inl 6], 0, 0), (8, [.inl 4, .inr 1], 0, 0), (12, [.inl 0, .inl 1, .inl 2, .inl 3, .inl 7], 0, 0), (3, [.inr 52, .inl 4, .inl 5], 0, 0), (13, [.inr 34, .inl 1], 91, 0), (10, [.inl 6, .inl 3], 5, 2), (8, [.inl 5, .inr 1], 0, 0), (12, [.inl 0, .inl 1, .inl 2, .inl 3, .inl 4, .inl 7], 1, 0), (8, [.inr 10, .inl 4], 2, 0), (8, [.inl 7, .inl 5], 0, 0),
  (8, [.inl 5, .inr 1], 0, 0), (12, [.inl 0, .inl 1, .inl 8, .inl 6, .inl 4, .inl 9], 1, 0)]
theorem vc_fix_k : x_chk 118 [(50, [(0, 0), (1, 0), (2, 0), (3, 0), (4, 0)]), (59, [(0, 0), (1, 0), (2, 0), (3, 0), (4, 0), (5, 0)])] vc_fix_T [vc_fix_T0, vc_fix_T1] 600 = true := by decide +kernel
noncomputable def vc_preach_T : xT := [(10, [.inl 1, .inr 0], 2, 5), (9, [.inr (-1)], 0, 0), (1, [.inr 3, .inl 2], 0, 0), (8, [.inl 3, .inr 1], 0, 0), (3, [.inr 3, .inl 2, .inl 4], 0, 0), (11, [.inr (-1)], 0, 0), (10, [.inl 1, .inr 5], 3, 5), (9, [.inr (-1)], 0, 0), (1, [.inr 3, .inl 2], 0, 0), (8, [.inl 3, .inr 1], 0, 0), (3, [.inr 3, .inl 2, .inl 4], 0, 0), (11, [.inr (-1)], 0, 0),
  (13, [.inr 34, .inr 11], 23, 0), (12, [.inl 0, .inl 1, .inr (-9), .inr 0, .inr 0], 0, 0)]
noncomputable def vc_preach_T0 : xT := [(0, [.inr 11], 1, 0), (10, [.inl 4, .inl 5], 3, 1), (11, [.inl 2], 0, 0), (5, [.inr 43, .inl 4], 0, 1), (5, [.inr 20, .inl 4], 0, 1), (1, [.inl 7, .inl 1], 0, 0), (8, [.inr 9, .inl 8], 1, 0), (3, [.inl 6, .inl 1, .inl 9], 0, 0), (13, [.inr 34, .inl 4], 110, 0), (13, [.inl 10], 120, 0), (10, [.inl 11, .inl 3], 5, 6), (5, [.inr 43, .inl 4], 0, 1),
  (5, [.inr 20, .inl 4], 0, 1), (1, [.inl 13, .inl 1], 0, 0), (3, [.inl 12, .inl 1, .inl 14], 0, 0), (8, [.inl 4, .inr 1], 0, 0), (12, [.inl 0, .inl 1, .inl 2, .inl 3, .inl 15], 0, 0), (13, [.inr 11, .inl 4], 110, 0), (13, [.inl 12], 120, 0), (10, [.inl 11, .inl 13], 5, 6), (5, [.inr 43, .inl 4], 0, 1), (5, [.inr 20, .inl 4], 0, 1), (1, [.inl 15, .inl 1], 0, 0), (3, [.inl 14, .inl 1, .inl 16], 0, 0),
  (8, [.inl 4, .inr 1], 0, 0), (12, [.inl 0, .inl 1, .inl 2, .inl 3, .inl 17], 0, 0), (5, [.inr 43, .inl 4], 0, 1), (5, [.inr 20, .inl 4], 0, 1), (1, [.inl 15, .inl 1], 0, 0), (3, [.inl 14, .inl 1, .inl 16], 0, 0), (8, [.inl 4, .inr 1], 0, 0), (12, [.inl 0, .inl 1, .inl 4, .inl 11, .inl 17], 0, 0)]
theorem vc_preach_k : x_chk 119 [(32, [(0, 0), (1, 0), (2, 0), (3, 0), (4, 0)])] vc_preach_T [vc_preach_T0] 600 = true := by decide +kernel
theorem vc_preach {a0 a1 v : Int} {h h' : fH} (hs : fS 119 [a0, a1] h v h') (I0 : Int → Int → Int → Int → Int → fH → Prop) (Q : Int → fH → Prop) (h0 : ((a1 < 0 → ∀ z2 : Int, z2 = wr (-(-1)) → ∀ z3 : Int, z3 = h 3 z2 → ∀ z4 : Int, z4 = wr (z3 + 1) → ∀ h1 : fH, h1 = fu h 3 z2 z4 → Q (-1) h1) ∧ (0 ≤ a1 → ((5 ≤ a1 → ∀ z2 : Int, z2 = wr (-(-1)) → ∀ z3 : Int, z3 = h 3 z2 → ∀ z4 : Int, z4 = wr (z3 + 1) → ∀ h1 : fH, h1 = fu h 3 z2 z4 → Q (-1) h1) ∧ (a1 < 5 → ∀ (v1 : Int) (h1 : fH), fS 23 [34, 11] h v1 h1 → I0 a0 a1 (-9) 0 0 h1))))) (k0 : ∀ (x0 x1 x2 x3 x4 : Int) (h : fH), I0 x0 x1 x2 x3 x4 h → ∀ z5 : Int, z5 = h 11 1 → ((z5 ≤ x4 → Q x2 h) ∧ (x4 < z5 → ∀ z6 : Int, z6 = 43 + 1 + 1 * x4 → ∀ z7 : Int, z7 = 20 + 1 + 1 * x4 → ∀ z8 : Int, z8 = h z7 x1 → ∀ z9 : Int, z9 = wr (9 - z8) → ∀ h1 : fH, h1 = fu h z6 x1 z9 → ∀ (v2 : Int) (h2 : fH), fS 110 [34, x4] h1 v2 h2 → ∀ (v3 : Int) (h3 : fH), fS 120 [v2] h2 v3 h3 → ((v3 ≤ x3 → ∀ z12 : Int, z12 = 43 + 1 + 1 * x4 → ∀ z13 : Int, z13 = 20 + 1 + 1 * x4 → ∀ z14 : Int, z14 = h3 z13 x1 → ∀ h4 : fH, h4 = fu h3 z12 x1 z14 → ∀ z15 : Int, z15 = wr (x4 + 1) → I0 x0 x1 x2 x3 z15 h4) ∧ (x3 < v3 → ∀ (v4 : Int) (h4 : fH), fS 110 [11, x4] h3 v4 h4 → ∀ (v5 : Int) (h5 : fH), fS 120 [v4] h4 v5 h5 → ((v3 ≤ v5 → ∀ z14 : Int, z14 = 43 + 1 + 1 * x4 → ∀ z15 : Int, z15 = 20 + 1 + 1 * x4 → ∀ z16 : Int, z16 = h5 z15 x1 → ∀ h6 : fH, h6 = fu h5 z14 x1 z16 → ∀ z17 : Int, z17 = wr (x4 + 1) → I0 x0 x1 x2 x3 z17 h6) ∧ (v5 < v3 → ∀ z14 : Int, z14 = 43 + 1 + 1 * x4 → ∀ z15 : Int, z15 = 20 + 1 + 1 * x4 → ∀ z16 : Int, z16 = h5 z15 x1 → ∀ h6 : fH, h6 = fu h5 z14 x1 z16 → ∀ z17 : Int, z17 = wr (x4 + 1) → I0 x0 x1 x4 v3 z17 h6))))))) : Q v h' := by
  refine x_mef vc_preach_k hs (fun k l h => match k with
    | 0 => (match l with | [x0, x1, x2, x3, x4] => I0 x0 x1 x2 x3 x4 h | _ => False)
    | _ => False) Q h0 ?_
  intro i Ti hT vals h hi
  match i, hT, hi with
  | 0, hT, hi =>
    cases hT
    match vals, hi with
    | [x0, x1, x2, x3, x4], hi => exact k0 _ _ _ _ _ _ hi
    | [], hi => exact False.elim hi
    | [_], hi => exact False.elim hi
    | [_, _], hi => exact False.elim hi
    | [_, _, _], hi => exact False.elim hi
    | [_, _, _, _], hi => exact False.elim hi
    | _ :: _ :: _ :: _ :: _ :: _ :: _, hi => exact False.elim hi
  | _ + 1, hT, _ => cases hT
noncomputable def vj_bitCount_T : xT := [(8, [.inl 0, .inr 1], 8, 0), (8, [.inl 1, .inr 1431655765], 3, 0), (8, [.inl 0, .inl 2], 1, 0), (8, [.inl 3, .inr 858993459], 3, 0), (8, [.inl 3, .inr 2], 8, 0), (8, [.inl 5, .inr 858993459], 3, 0), (8, [.inl 4, .inl 6], 0, 0), (8, [.inl 7, .inr 4], 8, 0), (8, [.inl 7, .inl 8], 0, 0), (8, [.inl 9, .inr 252645135], 3, 0), (8, [.inl 10, .inr 8], 8, 0), (8, [.inl 10, .inl 11], 0, 0),
  (8, [.inl 12, .inr 16], 8, 0), (8, [.inl 12, .inl 13], 0, 0), (8, [.inl 14, .inr 63], 3, 0), (11, [.inl 15], 0, 0)]
theorem vj_bitCount_k : x_chk 120 [] vj_bitCount_T [] 600 = true := by decide +kernel
noncomputable def vc_fair_T : xT := [(10, [.inl 1, .inr 0], 2, 5), (9, [.inr (-2)], 0, 0), (1, [.inr 3, .inl 2], 0, 0), (8, [.inl 3, .inr 1], 0, 0), (3, [.inr 3, .inl 2, .inl 4], 0, 0), (11, [.inr (-2)], 0, 0), (10, [.inl 1, .inr 2], 3, 5), (9, [.inr (-2)], 0, 0), (1, [.inr 3, .inl 2], 0, 0), (8, [.inl 3, .inr 1], 0, 0), (3, [.inr 3, .inl 2, .inl 4], 0, 0), (11, [.inr (-2)], 0, 0),
  (12, [.inl 0, .inl 1, .inr 0, .inr 0], 0, 0)]
noncomputable def vc_fair_T0 : xT := [(0, [.inr 11], 14, 0), (10, [.inl 3, .inl 4], 3, 1), (11, [.inl 2], 0, 0), (10, [.inl 1, .inr 0], 1, 8), (13, [.inr 11, .inl 3], 66, 0), (10, [.inl 5, .inr 0], 0, 2), (8, [.inl 3, .inr 1], 0, 0), (12, [.inl 0, .inl 1, .inl 2, .inl 6], 0, 0), (8, [.inr 1, .inl 3], 6, 0), (8, [.inl 2, .inl 6], 4, 0), (8, [.inl 3, .inr 1], 0, 0), (12, [.inl 0, .inl 1, .inl 7, .inl 8], 0, 0),
  (1, [.inr 30, .inl 3], 0, 0), (0, [.inl 5], 0, 0), (0, [.inl 5], 2, 0), (0, [.inl 5], 3, 0), (13, [.inr 11, .inl 6, .inl 7, .inl 8], 60, 0), (0, [.inl 5], 1, 0), (0, [.inl 5], 2, 0), (0, [.inl 5], 3, 0), (13, [.inr 11, .inl 10, .inl 11, .inl 12], 60, 0), (10, [.inl 9, .inl 13], 1, 2), (8, [.inl 3, .inr 1], 0, 0), (12, [.inl 0, .inl 1, .inl 2, .inl 14], 0, 0),
  (8, [.inr 1, .inl 3], 6, 0), (8, [.inl 2, .inl 14], 4, 0), (8, [.inl 3, .inr 1], 0, 0), (12, [.inl 0, .inl 1, .inl 15, .inl 16], 0, 0)]
theorem vc_fair_k : x_chk 121 [(19, [(0, 0), (1, 0), (2, 0), (3, 0)])] vc_fair_T [vc_fair_T0] 600 = true := by decide +kernel
noncomputable def vc_hedge_T : xT := [(10, [.inl 1, .inr 0], 2, 5), (9, [.inr (-4)], 0, 0), (1, [.inr 3, .inl 3], 0, 0), (8, [.inl 4, .inr 1], 0, 0), (3, [.inr 3, .inl 3, .inl 5], 0, 0), (11, [.inr (-4)], 0, 0), (10, [.inl 2, .inr 0], 3, 15), (10, [.inl 1, .inr 99], 4, 5), (9, [.inr (-6)], 0, 0), (1, [.inr 3, .inl 3], 0, 0), (8, [.inl 4, .inr 1], 0, 0), (3, [.inr 3, .inl 3, .inl 5], 0, 0),
  (11, [.inr (-6)], 0, 0), (10, [.inl 2, .inr 30], 5, 3), (0, [.inr 11], 14, 0), (8, [.inl 3, .inr 1], 0, 0), (12, [.inl 0, .inl 1, .inl 2, .inr (-9), .inl 4, .inr 0], 0, 0), (9, [.inr (-6)], 0, 0), (1, [.inr 3, .inl 3], 0, 0), (8, [.inl 4, .inr 1], 0, 0), (3, [.inr 3, .inl 3, .inl 5], 0, 0), (11, [.inr (-6)], 0, 0), (9, [.inr (-4)], 0, 0), (1, [.inr 3, .inl 3], 0, 0),
  (8, [.inl 4, .inr 1], 0, 0), (3, [.inr 3, .inl 3, .inl 5], 0, 0), (11, [.inr (-4)], 0, 0)]
noncomputable def vc_hedge_T0 : xT := [(0, [.inr 11], 14, 0), (8, [.inr 1, .inl 6], 6, 0), (10, [.inl 5, .inl 7], 3, 1), (11, [.inl 3], 0, 0), (13, [.inl 0, .inl 5], 124, 0), (13, [.inl 5], 120, 0), (10, [.inl 9, .inl 4], 3, 2), (8, [.inl 5, .inr 1], 0, 0), (12, [.inl 0, .inl 1, .inl 2, .inl 3, .inl 4, .inl 10], 0, 0), (13, [.inr 34, .inl 2], 80, 0), (10, [.inl 10, .inl 1], 4, 2), (8, [.inl 5, .inr 1], 0, 0),
  (12, [.inl 0, .inl 1, .inl 2, .inl 3, .inl 4, .inl 11], 0, 0), (13, [.inl 5], 120, 0), (8, [.inl 5, .inr 1], 0, 0), (12, [.inl 0, .inl 1, .inl 2, .inl 5, .inl 11, .inl 12], 0, 0)]
theorem vc_hedge_k : x_chk 123 [(51, [(0, 0), (1, 0), (2, 0), (3, 0), (4, 0), (5, 0)])] vc_hedge_T [vc_hedge_T0] 600 = true := by decide +kernel
noncomputable def vc_callOffInMind_T : xT := [(13, [.inr 34, .inr 11], 23, 0), (0, [.inr 11], 14, 0), (8, [.inl 3, .inr 1], 1, 0), (12, [.inl 0, .inl 1, .inl 4], 0, 0)]
noncomputable def vc_callOffInMind_T0 : xT := [(10, [.inl 2, .inr 0], 2, 1), (11, [.inr 0], 0, 0), (8, [.inl 1, .inl 2], 7, 0), (8, [.inl 3, .inr 1], 3, 0), (10, [.inl 4, .inr 1], 1, 2), (8, [.inl 2, .inr (-1)], 0, 0), (12, [.inl 0, .inl 1, .inl 5], 0, 0), (13, [.inr 34, .inl 2], 70, 0), (8, [.inl 2, .inr (-1)], 0, 0), (12, [.inl 0, .inl 1, .inl 6], 0, 0)]
theorem vc_callOffInMind_k : x_chk 124 [(21, [(0, 0), (1, 0), (2, 0)])] vc_callOffInMind_T [vc_callOffInMind_T0] 600 = true := by decide +kernel
theorem vc_callOffInMind {a0 a1 v : Int} {h h' : fH} (hs : fS 124 [a0, a1] h v h') (I0 : Int → Int → Int → fH → Prop) (Q : Int → fH → Prop) (h0 : ∀ (v1 : Int) (h1 : fH), fS 23 [34, 11] h v1 h1 → ∀ z3 : Int, z3 = h1 11 14 → ∀ z4 : Int, z4 = wr (z3 - 1) → I0 a0 a1 z4 h1) (k0 : ∀ (x0 x1 x2 : Int) (h : fH), I0 x0 x1 x2 h → ((x2 < 0 → Q 0 h) ∧ (0 ≤ x2 → ∀ z3 : Int, z3 = xshr x1 x2 → ∀ z4 : Int, z4 = xand z3 1 → ((z4 ≠ 1 → ∀ z5 : Int, z5 = wr (x2 + (-1)) → I0 x0 x1 z5 h) ∧ (z4 = 1 → ∀ (v1 : Int) (h1 : fH), fS 70 [34, x2] h v1 h1 → ∀ z6 : Int, z6 = wr (x2 + (-1)) → I0 x0 x1 z6 h1))))) : Q v h' := by
  refine x_mef vc_callOffInMind_k hs (fun k l h => match k with
    | 0 => (match l with | [x0, x1, x2] => I0 x0 x1 x2 h | _ => False)
    | _ => False) Q h0 ?_
  intro i Ti hT vals h hi
  match i, hT, hi with
  | 0, hT, hi =>
    cases hT
    match vals, hi with
    | [x0, x1, x2], hi => exact k0 _ _ _ _ hi
    | [], hi => exact False.elim hi
    | [_], hi => exact False.elim hi
    | [_, _], hi => exact False.elim hi
    | _ :: _ :: _ :: _ :: _, hi => exact False.elim hi
  | _ + 1, hT, _ => cases hT
noncomputable def vc_two_T : xT := [(10, [.inl 1, .inr 0], 2, 5), (9, [.inr (-1)], 0, 0), (1, [.inr 3, .inl 4], 0, 0), (8, [.inl 5, .inr 1], 0, 0), (3, [.inr 3, .inl 4, .inl 6], 0, 0), (11, [.inr (-1)], 0, 0), (0, [.inr 11], 1, 0), (10, [.inl 1, .inl 4], 3, 5), (9, [.inr (-1)], 0, 0), (1, [.inr 3, .inl 5], 0, 0), (8, [.inl 6, .inr 1], 0, 0), (3, [.inr 3, .inl 5, .inl 7], 0, 0),
  (11, [.inr (-1)], 0, 0), (10, [.inl 2, .inr 0], 2, 5), (9, [.inr (-1)], 0, 0), (1, [.inr 3, .inl 5], 0, 0), (8, [.inl 6, .inr 1], 0, 0), (3, [.inr 3, .inl 5, .inl 7], 0, 0), (11, [.inr (-1)], 0, 0), (0, [.inr 11], 1, 0), (10, [.inl 2, .inl 5], 3, 5), (9, [.inr (-1)], 0, 0), (1, [.inr 3, .inl 6], 0, 0), (8, [.inl 7, .inr 1], 0, 0),
  (3, [.inr 3, .inl 6, .inl 8], 0, 0), (11, [.inr (-1)], 0, 0), (10, [.inl 1, .inl 2], 0, 5), (9, [.inr (-1)], 0, 0), (1, [.inr 3, .inl 6], 0, 0), (8, [.inl 7, .inr 1], 0, 0), (3, [.inr 3, .inl 6, .inl 8], 0, 0), (11, [.inr (-1)], 0, 0), (10, [.inl 3, .inr 0], 2, 5), (9, [.inr (-1)], 0, 0), (1, [.inr 3, .inl 6], 0, 0), (8, [.inl 7, .inr 1], 0, 0),
  (3, [.inr 3, .inl 6, .inl 8], 0, 0), (11, [.inr (-1)], 0, 0), (10, [.inl 3, .inr 5], 3, 5), (9, [.inr (-1)], 0, 0), (1, [.inr 3, .inl 6], 0, 0), (8, [.inl 7, .inr 1], 0, 0), (3, [.inr 3, .inl 6, .inl 8], 0, 0), (11, [.inr (-1)], 0, 0), (13, [.inr 11, .inl 1], 57, 0), (10, [.inl 6, .inr 0], 0, 5), (9, [.inr (-3)], 0, 0), (1, [.inr 3, .inl 7], 0, 0),
  (8, [.inl 8, .inr 1], 0, 0), (3, [.inr 3, .inl 7, .inl 9], 0, 0), (11, [.inr (-3)], 0, 0), (13, [.inr 11, .inl 2], 57, 0), (10, [.inl 7, .inr 0], 1, 2), (13, [.inr 34, .inr 11], 23, 0), (12, [.inl 0, .inl 1, .inl 2, .inl 3, .inr 0], 0, 0), (9, [.inr (-3)], 0, 0), (1, [.inr 3, .inl 8], 0, 0), (8, [.inl 9, .inr 1], 0, 0), (3, [.inr 3, .inl 8, .inl 10], 0, 0), (11, [.inr (-3)], 0, 0)]
noncomputable def vc_two_T0 : xT := [(10, [.inl 4, .inr 1], 4, 1), (11, [.inr (-9)], 0, 0), (12, [.inl 0, .inl 1, .inl 2, .inl 3, .inl 4, .inr 0], 1, 0)]
noncomputable def vc_two_T1 : xT := [(10, [.inl 5, .inr 1], 4, 2), (8, [.inl 4, .inr 1], 0, 0), (12, [.inl 0, .inl 1, .inl 2, .inl 3, .inl 6], 0, 0), (13, [.inl 0, .inl 1, .inl 2, .inl 3, .inl 4, .inl 5], 126, 0), (8, [.inr 2, .inl 4], 2, 0), (8, [.inl 6, .inl 7], 1, 0), (8, [.inr 1, .inl 4], 1, 0), (13, [.inl 0, .inl 1, .inl 2, .inl 3, .inl 9, .inl 5], 126, 0), (8, [.inr 1, .inl 4], 1, 0), (8, [.inr 2, .inl 11], 2, 0), (8, [.inl 10, .inl 12], 1, 0), (10, [.inl 8, .inl 13], 2, 12),
  (8, [.inr 2, .inl 5], 2, 0), (8, [.inl 6, .inl 14], 1, 0), (8, [.inr 1, .inl 5], 1, 0), (13, [.inl 0, .inl 1, .inl 2, .inl 3, .inl 4, .inl 16], 126, 0), (8, [.inr 1, .inl 5], 1, 0), (8, [.inr 2, .inl 18], 2, 0), (8, [.inl 17, .inl 19], 1, 0), (10, [.inl 15, .inl 20], 2, 2), (8, [.inl 5, .inr 1], 0, 0), (12, [.inl 0, .inl 1, .inl 2, .inl 3, .inl 4, .inl 21], 1, 0), (8, [.inl 5, .inr 1], 0, 0), (12, [.inl 0, .inl 1, .inl 2, .inl 3, .inl 4, .inl 21], 1, 0),
  (8, [.inr 2, .inl 5], 2, 0), (8, [.inl 6, .inl 14], 1, 0), (8, [.inr 1, .inl 5], 1, 0), (13, [.inl 0, .inl 1, .inl 2, .inl 3, .inl 4, .inl 16], 126, 0), (8, [.inr 1, .inl 5], 1, 0), (8, [.inr 2, .inl 18], 2, 0), (8, [.inl 17, .inl 19], 1, 0), (10, [.inl 15, .inl 20], 2, 2), (8, [.inl 5, .inr 1], 0, 0), (12, [.inl 0, .inl 1, .inl 2, .inl 3, .inl 4, .inl 21], 1, 0), (8, [.inr 10, .inl 4], 2, 0), (8, [.inl 21, .inl 5], 0, 0),
  (11, [.inl 22], 0, 0)]
theorem vc_two_k : x_chk 125 [(68, [(0, 0), (1, 0), (2, 0), (3, 0), (4, 0)]), (77, [(0, 0), (1, 0), (2, 0), (3, 0), (4, 0), (5, 0)])] vc_two_T [vc_two_T0, vc_two_T1] 600 = true := by decide +kernel
theorem vc_two {a0 a1 a2 a3 v : Int} {h h' : fH} (hs : fS 125 [a0, a1, a2, a3] h v h') (I0 : Int → Int → Int → Int → Int → fH → Prop) (I1 : Int → Int → Int → Int → Int → Int → fH → Prop) (Q : Int → fH → Prop) (h0 : ((a1 < 0 → ∀ z4 : Int, z4 = wr (-(-1)) → ∀ z5 : Int, z5 = h 3 z4 → ∀ z6 : Int, z6 = wr (z5 + 1) → ∀ h1 : fH, h1 = fu h 3 z4 z6 → Q (-1) h1) ∧ (0 ≤ a1 → ∀ z4 : Int, z4 = h 11 1 → ((z4 ≤ a1 → ∀ z5 : Int, z5 = wr (-(-1)) → ∀ z6 : Int, z6 = h 3 z5 → ∀ z7 : Int, z7 = wr (z6 + 1) → ∀ h1 : fH, h1 = fu h 3 z5 z7 → Q (-1) h1) ∧ (a1 < z4 → ((a2 < 0 → ∀ z5 : Int, z5 = wr (-(-1)) → ∀ z6 : Int, z6 = h 3 z5 → ∀ z7 : Int, z7 = wr (z6 + 1) → ∀ h1 : fH, h1 = fu h 3 z5 z7 → Q (-1) h1) ∧ (0 ≤ a2 → ∀ z5 : Int, z5 = h 11 1 → ((z5 ≤ a2 → ∀ z6 : Int, z6 = wr (-(-1)) → ∀ z7 : Int, z7 = h 3 z6 → ∀ z8 : Int, z8 = wr (z7 + 1) → ∀ h1 : fH, h1 = fu h 3 z6 z8 → Q (-1) h1) ∧ (a2 < z5 → ((a1 = a2 → ∀ z6 : Int, z6 = wr (-(-1)) → ∀ z7 : Int, z7 = h 3 z6 → ∀ z8 : Int, z8 = wr (z7 + 1) → ∀ h1 : fH, h1 = fu h 3 z6 z8 → Q (-1) h1) ∧ (a1 ≠ a2 → ((a3 < 0 → ∀ z6 : Int, z6 = wr (-(-1)) → ∀ z7 : Int, z7 = h 3 z6 → ∀ z8 : Int, z8 = wr (z7 + 1) → ∀ h1 : fH, h1 = fu h 3 z6 z8 → Q (-1) h1) ∧ (0 ≤ a3 → ((5 ≤ a3 → ∀ z6 : Int, z6 = wr (-(-1)) → ∀ z7 : Int, z7 = h 3 z6 → ∀ z8 : Int, z8 = wr (z7 + 1) → ∀ h1 : fH, h1 = fu h 3 z6 z8 → Q (-1) h1) ∧ (a3 < 5 → ∀ (v1 : Int) (h1 : fH), fS 57 [11, a1] h v1 h1 → ((v1 = 0 → ∀ z7 : Int, z7 = wr (-(-3)) → ∀ z8 : Int, z8 = h1 3 z7 → ∀ z9 : Int, z9 = wr (z8 + 1) → ∀ h2 : fH, h2 = fu h1 3 z7 z9 → Q (-3) h2) ∧ (v1 ≠ 0 → ∀ (v2 : Int) (h2 : fH), fS 57 [11, a2] h1 v2 h2 → ((v2 ≠ 0 → ∀ (v3 : Int) (h3 : fH), fS 23 [34, 11] h2 v3 h3 → I0 a0 a1 a2 a3 0 h3) ∧ (v2 = 0 → ∀ z8 : Int, z8 = wr (-(-3)) → ∀ z9 : Int, z9 = h2 3 z8 → ∀ z10 : Int, z10 = wr (z9 + 1) → ∀ h3 : fH, h3 = fu h2 3 z8 z10 → Q (-3) h3))))))))))))))))))) (k0 : ∀ (x0 x1 x2 x3 x4 : Int) (h : fH), I0 x0 x1 x2 x3 x4 h → ((1 < x4 → Q (-9) h) ∧ (x4 ≤ 1 → I1 x0 x1 x2 x3 x4 0 h))) (k1 : ∀ (x0 x1 x2 x3 x4 x5 : Int) (h : fH), I1 x0 x1 x2 x3 x4 x5 h → ((1 < x5 → ∀ z6 : Int, z6 = wr (x4 + 1) → I0 x0 x1 x2 x3 z6 h) ∧ (x5 ≤ 1 → ∀ (v1 : Int) (h1 : fH), fS 126 [x0, x1, x2, x3, x4, x5] h v1 h1 → ∀ z7 : Int, z7 = wr (2 * x4) → ∀ z8 : Int, z8 = wr (v1 - z7) → ∀ z9 : Int, z9 = wr (1 - x4) → ∀ (v2 : Int) (h2 : fH), fS 126 [x0, x1, x2, x3, z9, x5] h1 v2 h2 → ∀ z11 : Int, z11 = wr (1 - x4) → ∀ z12 : Int, z12 = wr (2 * z11) → ∀ z13 : Int, z13 = wr (v2 - z12) → ((z8 < z13 → ∀ z14 : Int, z14 = wr (2 * x5) → ∀ z15 : Int, z15 = wr (v1 - z14) → ∀ z16 : Int, z16 = wr (1 - x5) → ∀ (v3 : Int) (h3 : fH), fS 126 [x0, x1, x2, x3, x4, z16] h2 v3 h3 → ∀ z18 : Int, z18 = wr (1 - x5) → ∀ z19 : Int, z19 = wr (2 * z18) → ∀ z20 : Int, z20 = wr (v3 - z19) → ((z15 < z20 → ∀ z21 : Int, z21 = wr (x5 + 1) → I1 x0 x1 x2 x3 x4 z21 h3) ∧ (z20 ≤ z15 → ∀ z21 : Int, z21 = wr (x5 + 1) → I1 x0 x1 x2 x3 x4 z21 h3))) ∧ (z13 ≤ z8 → ∀ z14 : Int, z14 = wr (2 * x5) → ∀ z15 : Int, z15 = wr (v1 - z14) → ∀ z16 : Int, z16 = wr (1 - x5) → ∀ (v3 : Int) (h3 : fH), fS 126 [x0, x1, x2, x3, x4, z16] h2 v3 h3 → ∀ z18 : Int, z18 = wr (1 - x5) → ∀ z19 : Int, z19 = wr (2 * z18) → ∀ z20 : Int, z20 = wr (v3 - z19) → ((z15 < z20 → ∀ z21 : Int, z21 = wr (x5 + 1) → I1 x0 x1 x2 x3 x4 z21 h3) ∧ (z20 ≤ z15 → ∀ z21 : Int, z21 = wr (10 * x4) → ∀ z22 : Int, z22 = wr (z21 + x5) → Q z22 h3))))))) : Q v h' := by
  refine x_mef vc_two_k hs (fun k l h => match k with
    | 0 => (match l with | [x0, x1, x2, x3, x4] => I0 x0 x1 x2 x3 x4 h | _ => False)
    | 1 => (match l with | [x0, x1, x2, x3, x4, x5] => I1 x0 x1 x2 x3 x4 x5 h | _ => False)
    | _ => False) Q h0 ?_
  intro i Ti hT vals h hi
  match i, hT, hi with
  | 0, hT, hi =>
    cases hT
    match vals, hi with
    | [x0, x1, x2, x3, x4], hi => exact k0 _ _ _ _ _ _ hi
    | [], hi => exact False.elim hi
    | [_], hi => exact False.elim hi
    | [_, _], hi => exact False.elim hi
    | [_, _, _], hi => exact False.elim hi
    | [_, _, _, _], hi => exact False.elim hi
    | _ :: _ :: _ :: _ :: _ :: _ :: _, hi => exact False.elim hi
  | 1, hT, hi =>
    cases hT
    match vals, hi with
    | [x0, x1, x2, x3, x4, x5], hi => exact k1 _ _ _ _ _ _ _ hi
    | [], hi => exact False.elim hi
    | [_], hi => exact False.elim hi
    | [_, _], hi => exact False.elim hi
    | [_, _, _], hi => exact False.elim hi
    | [_, _, _, _], hi => exact False.elim hi
    | [_, _, _, _, _], hi => exact False.elim hi
    | _ :: _ :: _ :: _ :: _ :: _ :: _ :: _, hi => exact False.elim hi
  | _ + 2, hT, _ => cases hT
end
section
/-! the trees of the methods (made by a program) -/
noncomputable def vc_gainOfTwo_T : xT := [(5, [.inr 43, .inl 1], 0, 1), (8, [.inr 9, .inl 4], 2, 0), (3, [.inl 6, .inl 3, .inl 7], 0, 0), (5, [.inr 43, .inl 2], 0, 1), (8, [.inr 9, .inl 5], 2, 0), (3, [.inl 8, .inl 3, .inl 9], 0, 0), (13, [.inr 34, .inl 1, .inl 2, .inl 3, .inr 1], 56, 0), (10, [.inl 10, .inr 0], 0, 1), (11, [.inr 0], 0, 0), (0, [.inr 34], 15, 0), (8, [.inl 11, .inr 1], 0, 0), (1, [.inr 52, .inl 3], 0, 0),
  (8, [.inl 12, .inl 13], 0, 0), (1, [.inr 51, .inl 3], 0, 0), (8, [.inl 14, .inl 15], 10, 0), (10, [.inl 16, .inr 0], 1, 1), (11, [.inr 5], 0, 0), (11, [.inr 0], 0, 0)]
theorem vc_gainOfTwo_k : x_chk 126 [] vc_gainOfTwo_T [] 600 = true := by decide +kernel
theorem vc_gainOfTwo {a0 a1 a2 a3 a4 a5 v : Int} {h h' : fH} (hs : fS 126 [a0, a1, a2, a3, a4, a5] h v h') (Q : Int → fH → Prop) (h0 : ∀ z6 : Int, z6 = 43 + 1 + 1 * a1 → ∀ z7 : Int, z7 = wr (9 * a4) → ∀ h1 : fH, h1 = fu h z6 a3 z7 → ∀ z8 : Int, z8 = 43 + 1 + 1 * a2 → ∀ z9 : Int, z9 = wr (9 * a5) → ∀ h2 : fH, h2 = fu h1 z8 a3 z9 → ∀ (v3 : Int) (h3 : fH), fS 56 [34, a1, a2, a3, 1] h2 v3 h3 → ((v3 = 0 → Q 0 h3) ∧ (v3 ≠ 0 → ∀ z11 : Int, z11 = h3 34 15 → ∀ z12 : Int, z12 = wr (z11 + 1) → ∀ z13 : Int, z13 = h3 52 a3 → ∀ z14 : Int, z14 = wr (z12 + z13) → ∀ z15 : Int, z15 = h3 51 a3 → ∀ z16 : Int, z16 = xrem z14 z15 → ((z16 ≠ 0 → Q 5 h3) ∧ (z16 = 0 → Q 0 h3))))) : Q v h' := by
  exact x_mef vc_gainOfTwo_k hs (fun _ _ _ => False) Q h0 (fun i Ti hT => by cases hT)
noncomputable def vc_row_T : xT := [(10, [.inl 1, .inr 0], 3, 20), (10, [.inl 1, .inr 99], 4, 5), (9, [.inr (-6)], 0, 0), (1, [.inr 3, .inl 2], 0, 0), (8, [.inl 3, .inr 1], 0, 0), (3, [.inr 3, .inl 2, .inl 4], 0, 0), (11, [.inr (-6)], 0, 0), (0, [.inl 0], 8, 0), (10, [.inl 2, .inr 12], 2, 7), (0, [.inl 0], 8, 0), (3, [.inr 2, .inl 3, .inl 1], 0, 0), (0, [.inl 0], 8, 0),
  (8, [.inl 4, .inr 1], 0, 0), (2, [.inl 0, .inl 5], 8, 0), (0, [.inl 0], 8, 0), (11, [.inl 6], 0, 0), (9, [.inr (-6)], 0, 0), (1, [.inr 3, .inl 3], 0, 0), (8, [.inl 4, .inr 1], 0, 0), (3, [.inr 3, .inl 3, .inl 5], 0, 0), (11, [.inr (-6)], 0, 0), (9, [.inr (-4)], 0, 0), (1, [.inr 3, .inl 2], 0, 0), (8, [.inl 3, .inr 1], 0, 0),
  (3, [.inr 3, .inl 2, .inl 4], 0, 0), (11, [.inr (-4)], 0, 0)]
theorem vc_row_k : x_chk 127 [] vc_row_T [] 600 = true := by decide +kernel
theorem vc_row {a0 a1 v : Int} {h h' : fH} (hs : fS 127 [a0, a1] h v h') (Q : Int → fH → Prop) (h0 : ((0 ≤ a1 → ((99 < a1 → ∀ z2 : Int, z2 = wr (-(-6)) → ∀ z3 : Int, z3 = h 3 z2 → ∀ z4 : Int, z4 = wr (z3 + 1) → ∀ h1 : fH, h1 = fu h 3 z2 z4 → Q (-6) h1) ∧ (a1 ≤ 99 → ∀ z2 : Int, z2 = h a0 8 → ((z2 < 12 → ∀ z3 : Int, z3 = h a0 8 → ∀ h1 : fH, h1 = fu h 2 z3 a1 → ∀ z4 : Int, z4 = h1 a0 8 → ∀ z5 : Int, z5 = wr (z4 + 1) → ∀ h2 : fH, h2 = fu h1 a0 8 z5 → ∀ z6 : Int, z6 = h2 a0 8 → Q z6 h2) ∧ (12 ≤ z2 → ∀ z3 : Int, z3 = wr (-(-6)) → ∀ z4 : Int, z4 = h 3 z3 → ∀ z5 : Int, z5 = wr (z4 + 1) → ∀ h1 : fH, h1 = fu h 3 z3 z5 → Q (-6) h1))))) ∧ (a1 < 0 → ∀ z2 : Int, z2 = wr (-(-4)) → ∀ z3 : Int, z3 = h 3 z2 → ∀ z4 : Int, z4 = wr (z3 + 1) → ∀ h1 : fH, h1 = fu h 3 z2 z4 → Q (-4) h1))) : Q v h' := by
  exact x_mef vc_row_k hs (fun _ _ _ => False) Q h0 (fun i Ti hT => by cases hT)
noncomputable def vc_clear_T : xT := [(0, [.inl 0], 8, 0), (2, [.inl 0, .inr 0], 8, 0), (11, [.inl 1], 0, 0)]
theorem vc_clear_k : x_chk 128 [] vc_clear_T [] 600 = true := by decide +kernel
theorem vc_clear {a0 v : Int} {h h' : fH} (hs : fS 128 [a0] h v h') (Q : Int → fH → Prop) (h0 : ∀ z1 : Int, z1 = h a0 8 → ∀ h1 : fH, h1 = fu h a0 8 0 → Q z1 h1) : Q v h' := by
  exact x_mef vc_clear_k hs (fun _ _ _ => False) Q h0 (fun i Ti hT => by cases hT)
noncomputable def vc_judge_T : xT := [(12, [.inl 0, .inr (-9), .inr 0], 0, 0)]
noncomputable def vc_judge_T0 : xT := [(0, [.inl 0], 8, 0), (10, [.inl 2, .inl 3], 3, 2), (2, [.inl 0, .inr 0], 8, 0), (11, [.inl 1], 0, 0), (10, [.inl 1, .inr (-9)], 1, 2), (2, [.inl 0, .inr 0], 8, 0), (11, [.inl 1], 0, 0), (10, [.inl 2, .inr 0], 2, 2), (8, [.inl 2, .inr 1], 0, 0), (12, [.inl 0, .inl 2, .inl 4], 0, 0), (0, [.inr 11], 1, 0), (10, [.inl 2, .inl 4], 3, 2),
  (8, [.inl 2, .inr 1], 0, 0), (12, [.inl 0, .inl 2, .inl 5], 0, 0), (5, [.inr 20, .inl 2], 0, 1), (1, [.inl 5, .inr 0], 0, 0), (1, [.inr 2, .inl 2], 0, 0), (10, [.inl 6, .inl 7], 0, 2), (8, [.inl 2, .inr 1], 0, 0), (12, [.inl 0, .inl 1, .inl 8], 0, 0), (8, [.inl 2, .inr 1], 0, 0), (12, [.inl 0, .inl 2, .inl 8], 0, 0)]
theorem vc_judge_k : x_chk 129 [(5, [(0, 0), (1, 0), (2, 0)])] vc_judge_T [vc_judge_T0] 600 = true := by decide +kernel
theorem vc_judge {a0 v : Int} {h h' : fH} (hs : fS 129 [a0] h v h') (I0 : Int → Int → Int → fH → Prop) (Q : Int → fH → Prop) (h0 : I0 a0 (-9) 0 h) (k0 : ∀ (x0 x1 x2 : Int) (h : fH), I0 x0 x1 x2 h → ∀ z3 : Int, z3 = h x0 8 → ((z3 ≤ x2 → ∀ h1 : fH, h1 = fu h x0 8 0 → Q x1 h1) ∧ (x2 < z3 → ((x1 ≠ (-9) → ∀ h1 : fH, h1 = fu h x0 8 0 → Q x1 h1) ∧ (x1 = (-9) → ((x2 < 0 → ∀ z4 : Int, z4 = wr (x2 + 1) → I0 x0 x2 z4 h) ∧ (0 ≤ x2 → ∀ z4 : Int, z4 = h 11 1 → ((z4 ≤ x2 → ∀ z5 : Int, z5 = wr (x2 + 1) → I0 x0 x2 z5 h) ∧ (x2 < z4 → ∀ z5 : Int, z5 = 20 + 1 + 1 * x2 → ∀ z6 : Int, z6 = h z5 0 → ∀ z7 : Int, z7 = h 2 x2 → ((z6 = z7 → ∀ z8 : Int, z8 = wr (x2 + 1) → I0 x0 x1 z8 h) ∧ (z6 ≠ z7 → ∀ z8 : Int, z8 = wr (x2 + 1) → I0 x0 x2 z8 h))))))))))) : Q v h' := by
  refine x_mef vc_judge_k hs (fun k l h => match k with
    | 0 => (match l with | [x0, x1, x2] => I0 x0 x1 x2 h | _ => False)
    | _ => False) Q h0 ?_
  intro i Ti hT vals h hi
  match i, hT, hi with
  | 0, hT, hi =>
    cases hT
    match vals, hi with
    | [x0, x1, x2], hi => exact k0 _ _ _ _ hi
    | [], hi => exact False.elim hi
    | [_], hi => exact False.elim hi
    | [_, _], hi => exact False.elim hi
    | _ :: _ :: _ :: _ :: _, hi => exact False.elim hi
  | _ + 1, hT, _ => cases hT
noncomputable def vc_uponWhat_T : xT := [(10, [.inl 1, .inr 0], 2, 5), (9, [.inr (-1)], 0, 0), (1, [.inr 3, .inl 3], 0, 0), (8, [.inl 4, .inr 1], 0, 0), (3, [.inr 3, .inl 3, .inl 5], 0, 0), (11, [.inr (-1)], 0, 0), (0, [.inr 11], 1, 0), (10, [.inl 1, .inl 3], 3, 5), (9, [.inr (-1)], 0, 0), (1, [.inr 3, .inl 4], 0, 0), (8, [.inl 5, .inr 1], 0, 0), (3, [.inr 3, .inl 4, .inl 6], 0, 0),
  (11, [.inr (-1)], 0, 0), (10, [.inl 2, .inr 0], 2, 5), (9, [.inr (-2)], 0, 0), (1, [.inr 3, .inl 4], 0, 0), (8, [.inl 5, .inr 1], 0, 0), (3, [.inr 3, .inl 4, .inl 6], 0, 0), (11, [.inr (-2)], 0, 0), (10, [.inl 2, .inr 2], 3, 5), (9, [.inr (-2)], 0, 0), (1, [.inr 3, .inl 4], 0, 0), (8, [.inl 5, .inr 1], 0, 0), (3, [.inr 3, .inl 4, .inl 6], 0, 0),
  (11, [.inr (-2)], 0, 0), (13, [.inr 34, .inr 11], 23, 0), (13, [.inr 34, .inl 1], 59, 0), (10, [.inl 5, .inr 0], 3, 2), (1, [.inr 53, .inl 5], 0, 0), (12, [.inl 0, .inl 1, .inl 2, .inl 6, .inr 0, .inr 0], 0, 0), (11, [.inr (-9)], 0, 0)]
noncomputable def vc_uponWhat_T0 : xT := [(10, [.inl 2, .inr 0], 1, 21), (10, [.inl 5, .inr 2], 3, 1), (11, [.inl 4], 0, 0), (10, [.inl 2, .inr 0], 1, 9), (2, [.inl 3, .inl 5], 3, 0), (13, [.inl 0, .inl 1], 131, 0), (10, [.inl 6, .inr 0], 0, 2), (8, [.inl 5, .inr 1], 0, 0), (12, [.inl 0, .inl 1, .inl 2, .inl 3, .inl 4, .inl 7], 0, 0), (8, [.inr 1, .inl 5], 6, 0), (8, [.inl 4, .inl 7], 4, 0), (8, [.inl 5, .inr 1], 0, 0),
  (12, [.inl 0, .inl 1, .inl 2, .inl 3, .inl 8, .inl 9], 0, 0), (2, [.inl 3, .inl 5], 2, 0), (13, [.inl 0, .inl 1], 131, 0), (10, [.inl 6, .inr 0], 0, 2), (8, [.inl 5, .inr 1], 0, 0), (12, [.inl 0, .inl 1, .inl 2, .inl 3, .inl 4, .inl 7], 0, 0), (8, [.inr 1, .inl 5], 6, 0), (8, [.inl 4, .inl 7], 4, 0), (8, [.inl 5, .inr 1], 0, 0), (12, [.inl 0, .inl 1, .inl 2, .inl 3, .inl 8, .inl 9], 0, 0), (10, [.inl 5, .inr 5], 3, 1), (11, [.inl 4], 0, 0),
  (10, [.inl 2, .inr 0], 1, 9), (2, [.inl 3, .inl 5], 3, 0), (13, [.inl 0, .inl 1], 131, 0), (10, [.inl 6, .inr 0], 0, 2), (8, [.inl 5, .inr 1], 0, 0), (12, [.inl 0, .inl 1, .inl 2, .inl 3, .inl 4, .inl 7], 0, 0), (8, [.inr 1, .inl 5], 6, 0), (8, [.inl 4, .inl 7], 4, 0), (8, [.inl 5, .inr 1], 0, 0), (12, [.inl 0, .inl 1, .inl 2, .inl 3, .inl 8, .inl 9], 0, 0), (2, [.inl 3, .inl 5], 2, 0), (13, [.inl 0, .inl 1], 131, 0),
  (10, [.inl 6, .inr 0], 0, 2), (8, [.inl 5, .inr 1], 0, 0), (12, [.inl 0, .inl 1, .inl 2, .inl 3, .inl 4, .inl 7], 0, 0), (8, [.inr 1, .inl 5], 6, 0), (8, [.inl 4, .inl 7], 4, 0), (8, [.inl 5, .inr 1], 0, 0), (12, [.inl 0, .inl 1, .inl 2, .inl 3, .inl 8, .inl 9], 0, 0)]
theorem vc_uponWhat_k : x_chk 130 [(76, [(0, 0), (1, 0), (2, 0), (4, 0), (5, 0), (6, 0)])] vc_uponWhat_T [vc_uponWhat_T0] 600 = true := by decide +kernel
theorem vc_uponWhat {a0 a1 a2 v : Int} {h h' : fH} (hs : fS 130 [a0, a1, a2] h v h') (I0 : Int → Int → Int → Int → Int → Int → fH → Prop) (Q : Int → fH → Prop) (h0 : ((a1 < 0 → ∀ z3 : Int, z3 = wr (-(-1)) → ∀ z4 : Int, z4 = h 3 z3 → ∀ z5 : Int, z5 = wr (z4 + 1) → ∀ h1 : fH, h1 = fu h 3 z3 z5 → Q (-1) h1) ∧ (0 ≤ a1 → ∀ z3 : Int, z3 = h 11 1 → ((z3 ≤ a1 → ∀ z4 : Int, z4 = wr (-(-1)) → ∀ z5 : Int, z5 = h 3 z4 → ∀ z6 : Int, z6 = wr (z5 + 1) → ∀ h1 : fH, h1 = fu h 3 z4 z6 → Q (-1) h1) ∧ (a1 < z3 → ((a2 < 0 → ∀ z4 : Int, z4 = wr (-(-2)) → ∀ z5 : Int, z5 = h 3 z4 → ∀ z6 : Int, z6 = wr (z5 + 1) → ∀ h1 : fH, h1 = fu h 3 z4 z6 → Q (-2) h1) ∧ (0 ≤ a2 → ((2 ≤ a2 → ∀ z4 : Int, z4 = wr (-(-2)) → ∀ z5 : Int, z5 = h 3 z4 → ∀ z6 : Int, z6 = wr (z5 + 1) → ∀ h1 : fH, h1 = fu h 3 z4 z6 → Q (-2) h1) ∧ (a2 < 2 → ∀ (v1 : Int) (h1 : fH), fS 23 [34, 11] h v1 h1 → ∀ (v2 : Int) (h2 : fH), fS 59 [34, a1] h1 v2 h2 → ((0 ≤ v2 → ∀ z6 : Int, z6 = h2 53 v2 → I0 a0 a1 a2 z6 0 0 h2) ∧ (v2 < 0 → Q (-9) h2))))))))))) (k0 : ∀ (x0 x1 x2 x4 x5 x6 : Int) (h : fH), I0 x0 x1 x2 x4 x5 x6 h → ((x2 ≠ 0 → ((2 ≤ x6 → Q x5 h) ∧ (x6 < 2 → ((x2 ≠ 0 → ∀ h1 : fH, h1 = fu h x4 3 x6 → ∀ (v2 : Int) (h2 : fH), fS 131 [x0, x1] h1 v2 h2 → ((v2 = 0 → ∀ z7 : Int, z7 = wr (x6 + 1) → I0 x0 x1 x2 x4 x5 z7 h2) ∧ (v2 ≠ 0 → ∀ z7 : Int, z7 = xshl 1 x6 → ∀ z8 : Int, z8 = xor' x5 z7 → ∀ z9 : Int, z9 = wr (x6 + 1) → I0 x0 x1 x2 x4 z8 z9 h2))) ∧ (x2 = 0 → ∀ h1 : fH, h1 = fu h x4 2 x6 → ∀ (v2 : Int) (h2 : fH), fS 131 [x0, x1] h1 v2 h2 → ((v2 = 0 → ∀ z7 : Int, z7 = wr (x6 + 1) → I0 x0 x1 x2 x4 x5 z7 h2) ∧ (v2 ≠ 0 → ∀ z7 : Int, z7 = xshl 1 x6 → ∀ z8 : Int, z8 = xor' x5 z7 → ∀ z9 : Int, z9 = wr (x6 + 1) → I0 x0 x1 x2 x4 z8 z9 h2))))))) ∧ (x2 = 0 → ((5 ≤ x6 → Q x5 h) ∧ (x6 < 5 → ((x2 ≠ 0 → ∀ h1 : fH, h1 = fu h x4 3 x6 → ∀ (v2 : Int) (h2 : fH), fS 131 [x0, x1] h1 v2 h2 → ((v2 = 0 → ∀ z7 : Int, z7 = wr (x6 + 1) → I0 x0 x1 x2 x4 x5 z7 h2) ∧ (v2 ≠ 0 → ∀ z7 : Int, z7 = xshl 1 x6 → ∀ z8 : Int, z8 = xor' x5 z7 → ∀ z9 : Int, z9 = wr (x6 + 1) → I0 x0 x1 x2 x4 z8 z9 h2))) ∧ (x2 = 0 → ∀ h1 : fH, h1 = fu h x4 2 x6 → ∀ (v2 : Int) (h2 : fH), fS 131 [x0, x1] h1 v2 h2 → ((v2 = 0 → ∀ z7 : Int, z7 = wr (x6 + 1) → I0 x0 x1 x2 x4 x5 z7 h2) ∧ (v2 ≠ 0 → ∀ z7 : Int, z7 = xshl 1 x6 → ∀ z8 : Int, z8 = xor' x5 z7 → ∀ z9 : Int, z9 = wr (x6 + 1) → I0 x0 x1 x2 x4 z8 z9 h2))))))))) : Q v h' := by
  refine x_mef vc_uponWhat_k hs (fun k l h => match k with
    | 0 => (match l with | [x0, x1, x2, x4, x5, x6] => I0 x0 x1 x2 x4 x5 x6 h | _ => False)
    | _ => False) Q h0 ?_
  intro i Ti hT vals h hi
  match i, hT, hi with
  | 0, hT, hi =>
    cases hT
    match vals, hi with
    | [x0, x1, x2, x4, x5, x6], hi => exact k0 _ _ _ _ _ _ _ hi
    | [], hi => exact False.elim hi
    | [_], hi => exact False.elim hi
    | [_, _], hi => exact False.elim hi
    | [_, _, _], hi => exact False.elim hi
    | [_, _, _, _], hi => exact False.elim hi
    | [_, _, _, _, _], hi => exact False.elim hi
    | _ :: _ :: _ :: _ :: _ :: _ :: _ :: _, hi => exact False.elim hi
  | _ + 1, hT, _ => cases hT
noncomputable def vc_isRowSoInMind_T : xT := [(12, [.inl 0, .inl 1, .inr 0], 0, 0)]
noncomputable def vc_isRowSoInMind_T0 : xT := [(0, [.inl 0], 8, 0), (10, [.inl 2, .inl 3], 3, 1), (11, [.inr 1], 0, 0), (1, [.inr 2, .inl 2], 0, 0), (13, [.inr 34, .inl 1, .inl 2], 81, 0), (10, [.inl 4, .inl 5], 0, 2), (8, [.inl 2, .inr 1], 0, 0), (12, [.inl 0, .inl 1, .inl 6], 0, 0), (11, [.inr 0], 0, 0)]
theorem vc_isRowSoInMind_k : x_chk 131 [(2, [(0, 0), (1, 0), (2, 0)])] vc_isRowSoInMind_T [vc_isRowSoInMind_T0] 600 = true := by decide +kernel
noncomputable def vc_whatKind_T : xT := [(10, [.inl 1, .inr 0], 2, 5), (9, [.inr (-1)], 0, 0), (1, [.inr 3, .inl 3], 0, 0), (8, [.inl 4, .inr 1], 0, 0), (3, [.inr 3, .inl 3, .inl 5], 0, 0), (11, [.inr (-1)], 0, 0), (0, [.inr 11], 1, 0), (10, [.inl 1, .inl 3], 3, 5), (9, [.inr (-1)], 0, 0), (1, [.inr 3, .inl 4], 0, 0), (8, [.inl 5, .inr 1], 0, 0), (3, [.inr 3, .inl 4, .inl 6], 0, 0),
  (11, [.inr (-1)], 0, 0), (10, [.inl 2, .inr 0], 2, 5), (9, [.inr (-2)], 0, 0), (1, [.inr 3, .inl 4], 0, 0), (8, [.inl 5, .inr 1], 0, 0), (3, [.inr 3, .inl 4, .inl 6], 0, 0), (11, [.inr (-2)], 0, 0), (10, [.inl 2, .inr 2], 3, 5), (9, [.inr (-2)], 0, 0), (1, [.inr 3, .inl 4], 0, 0), (8, [.inl 5, .inr 1], 0, 0), (3, [.inr 3, .inl 4, .inl 6], 0, 0),
  (11, [.inr (-2)], 0, 0), (13, [.inr 34, .inr 11], 23, 0), (12, [.inl 0, .inl 1, .inl 2, .inr 0, .inr 0], 0, 0)]
noncomputable def vc_whatKind_T0 : xT := [(10, [.inl 2, .inr 0], 1, 23), (10, [.inl 4, .inr 10], 3, 1), (11, [.inl 3], 0, 0), (10, [.inl 2, .inr 0], 1, 10), (1, [.inr 12, .inl 1], 0, 0), (13, [.inr 34, .inl 1, .inl 5, .inl 4], 29, 0), (13, [.inl 0, .inl 1], 131, 0), (10, [.inl 7, .inr 0], 0, 2), (8, [.inl 4, .inr 1], 0, 0), (12, [.inl 0, .inl 1, .inl 2, .inl 3, .inl 8], 0, 0), (8, [.inr 1, .inl 4], 6, 0), (8, [.inl 3, .inl 8], 4, 0),
  (8, [.inl 4, .inr 1], 0, 0), (12, [.inl 0, .inl 1, .inl 2, .inl 9, .inl 10], 0, 0), (1, [.inr 13, .inl 1], 0, 0), (13, [.inr 34, .inl 1, .inl 4, .inl 5], 29, 0), (13, [.inl 0, .inl 1], 131, 0), (10, [.inl 7, .inr 0], 0, 2), (8, [.inl 4, .inr 1], 0, 0), (12, [.inl 0, .inl 1, .inl 2, .inl 3, .inl 8], 0, 0), (8, [.inr 1, .inl 4], 6, 0), (8, [.inl 3, .inl 8], 4, 0), (8, [.inl 4, .inr 1], 0, 0), (12, [.inl 0, .inl 1, .inl 2, .inl 9, .inl 10], 0, 0),
  (6, [.inr 4], 0, 0), (10, [.inl 4, .inl 5], 3, 1), (11, [.inl 3], 0, 0), (10, [.inl 2, .inr 0], 1, 10), (1, [.inr 12, .inl 1], 0, 0), (13, [.inr 34, .inl 1, .inl 6, .inl 4], 29, 0), (13, [.inl 0, .inl 1], 131, 0), (10, [.inl 8, .inr 0], 0, 2), (8, [.inl 4, .inr 1], 0, 0), (12, [.inl 0, .inl 1, .inl 2, .inl 3, .inl 9], 0, 0), (8, [.inr 1, .inl 4], 6, 0), (8, [.inl 3, .inl 9], 4, 0),
  (8, [.inl 4, .inr 1], 0, 0), (12, [.inl 0, .inl 1, .inl 2, .inl 10, .inl 11], 0, 0), (1, [.inr 13, .inl 1], 0, 0), (13, [.inr 34, .inl 1, .inl 4, .inl 6], 29, 0), (13, [.inl 0, .inl 1], 131, 0), (10, [.inl 8, .inr 0], 0, 2), (8, [.inl 4, .inr 1], 0, 0), (12, [.inl 0, .inl 1, .inl 2, .inl 3, .inl 9], 0, 0), (8, [.inr 1, .inl 4], 6, 0), (8, [.inl 3, .inl 9], 4, 0), (8, [.inl 4, .inr 1], 0, 0), (12, [.inl 0, .inl 1, .inl 2, .inl 10, .inl 11], 0, 0)]
theorem vc_whatKind_k : x_chk 132 [(48, [(0, 0), (1, 0), (2, 0), (3, 0), (4, 0)])] vc_whatKind_T [vc_whatKind_T0] 600 = true := by decide +kernel
theorem vc_whatKind {a0 a1 a2 v : Int} {h h' : fH} (hs : fS 132 [a0, a1, a2] h v h') (I0 : Int → Int → Int → Int → Int → fH → Prop) (Q : Int → fH → Prop) (h0 : ((a1 < 0 → ∀ z3 : Int, z3 = wr (-(-1)) → ∀ z4 : Int, z4 = h 3 z3 → ∀ z5 : Int, z5 = wr (z4 + 1) → ∀ h1 : fH, h1 = fu h 3 z3 z5 → Q (-1) h1) ∧ (0 ≤ a1 → ∀ z3 : Int, z3 = h 11 1 → ((z3 ≤ a1 → ∀ z4 : Int, z4 = wr (-(-1)) → ∀ z5 : Int, z5 = h 3 z4 → ∀ z6 : Int, z6 = wr (z5 + 1) → ∀ h1 : fH, h1 = fu h 3 z4 z6 → Q (-1) h1) ∧ (a1 < z3 → ((a2 < 0 → ∀ z4 : Int, z4 = wr (-(-2)) → ∀ z5 : Int, z5 = h 3 z4 → ∀ z6 : Int, z6 = wr (z5 + 1) → ∀ h1 : fH, h1 = fu h 3 z4 z6 → Q (-2) h1) ∧ (0 ≤ a2 → ((2 ≤ a2 → ∀ z4 : Int, z4 = wr (-(-2)) → ∀ z5 : Int, z5 = h 3 z4 → ∀ z6 : Int, z6 = wr (z5 + 1) → ∀ h1 : fH, h1 = fu h 3 z4 z6 → Q (-2) h1) ∧ (a2 < 2 → ∀ (v1 : Int) (h1 : fH), fS 23 [34, 11] h v1 h1 → I0 a0 a1 a2 0 0 h1))))))))) (k0 : ∀ (x0 x1 x2 x3 x4 : Int) (h : fH), I0 x0 x1 x2 x3 x4 h → ((x2 ≠ 0 → ((10 ≤ x4 → Q x3 h) ∧ (x4 < 10 → ((x2 ≠ 0 → ∀ z5 : Int, z5 = h 12 x1 → ∀ (v1 : Int) (h1 : fH), fS 29 [34, x1, z5, x4] h v1 h1 → ∀ (v2 : Int) (h2 : fH), fS 131 [x0, x1] h1 v2 h2 → ((v2 = 0 → ∀ z8 : Int, z8 = wr (x4 + 1) → I0 x0 x1 x2 x3 z8 h2) ∧ (v2 ≠ 0 → ∀ z8 : Int, z8 = xshl 1 x4 → ∀ z9 : Int, z9 = xor' x3 z8 → ∀ z10 : Int, z10 = wr (x4 + 1) → I0 x0 x1 x2 z9 z10 h2))) ∧ (x2 = 0 → ∀ z5 : Int, z5 = h 13 x1 → ∀ (v1 : Int) (h1 : fH), fS 29 [34, x1, x4, z5] h v1 h1 → ∀ (v2 : Int) (h2 : fH), fS 131 [x0, x1] h1 v2 h2 → ((v2 = 0 → ∀ z8 : Int, z8 = wr (x4 + 1) → I0 x0 x1 x2 x3 z8 h2) ∧ (v2 ≠ 0 → ∀ z8 : Int, z8 = xshl 1 x4 → ∀ z9 : Int, z9 = xor' x3 z8 → ∀ z10 : Int, z10 = wr (x4 + 1) → I0 x0 x1 x2 z9 z10 h2))))))) ∧ (x2 = 0 → ∀ z5 : Int, z5 = f_len 4 → ((z5 ≤ x4 → Q x3 h) ∧ (x4 < z5 → ((x2 ≠ 0 → ∀ z6 : Int, z6 = h 12 x1 → ∀ (v1 : Int) (h1 : fH), fS 29 [34, x1, z6, x4] h v1 h1 → ∀ (v2 : Int) (h2 : fH), fS 131 [x0, x1] h1 v2 h2 → ((v2 = 0 → ∀ z9 : Int, z9 = wr (x4 + 1) → I0 x0 x1 x2 x3 z9 h2) ∧ (v2 ≠ 0 → ∀ z9 : Int, z9 = xshl 1 x4 → ∀ z10 : Int, z10 = xor' x3 z9 → ∀ z11 : Int, z11 = wr (x4 + 1) → I0 x0 x1 x2 z10 z11 h2))) ∧ (x2 = 0 → ∀ z6 : Int, z6 = h 13 x1 → ∀ (v1 : Int) (h1 : fH), fS 29 [34, x1, x4, z6] h v1 h1 → ∀ (v2 : Int) (h2 : fH), fS 131 [x0, x1] h1 v2 h2 → ((v2 = 0 → ∀ z9 : Int, z9 = wr (x4 + 1) → I0 x0 x1 x2 x3 z9 h2) ∧ (v2 ≠ 0 → ∀ z9 : Int, z9 = xshl 1 x4 → ∀ z10 : Int, z10 = xor' x3 z9 → ∀ z11 : Int, z11 = wr (x4 + 1) → I0 x0 x1 x2 z10 z11 h2))))))))) : Q v h' := by
  refine x_mef vc_whatKind_k hs (fun k l h => match k with
    | 0 => (match l with | [x0, x1, x2, x3, x4] => I0 x0 x1 x2 x3 x4 h | _ => False)
    | _ => False) Q h0 ?_
  intro i Ti hT vals h hi
  match i, hT, hi with
  | 0, hT, hi =>
    cases hT
    match vals, hi with
    | [x0, x1, x2, x3, x4], hi => exact k0 _ _ _ _ _ _ hi
    | [], hi => exact False.elim hi
    | [_], hi => exact False.elim hi
    | [_, _], hi => exact False.elim hi
    | [_, _, _], hi => exact False.elim hi
    | [_, _, _, _], hi => exact False.elim hi
    | _ :: _ :: _ :: _ :: _ :: _ :: _, hi => exact False.elim hi
  | _ + 1, hT, _ => cases hT
noncomputable def vc_sure_T : xT := [(10, [.inl 1, .inr 0], 2, 6), (9, [.inr (-1)], 0, 0), (1, [.inr 3, .inl 5], 0, 0), (8, [.inl 6, .inr 1], 0, 0), (3, [.inr 3, .inl 5, .inl 7], 0, 0), (8, [.inr 4000000000000000000, .inr (-1)], 14, 0), (11, [.inl 8], 0, 0), (0, [.inr 11], 1, 0), (10, [.inl 1, .inl 5], 3, 6), (9, [.inr (-1)], 0, 0), (1, [.inr 3, .inl 6], 0, 0), (8, [.inl 7, .inr 1], 0, 0),
  (3, [.inr 3, .inl 6, .inl 8], 0, 0), (8, [.inr 4000000000000000000, .inr (-1)], 14, 0), (11, [.inl 9], 0, 0), (10, [.inl 2, .inr 0], 2, 6), (9, [.inr (-4)], 0, 0), (1, [.inr 3, .inl 6], 0, 0), (8, [.inl 7, .inr 1], 0, 0), (3, [.inr 3, .inl 6, .inl 8], 0, 0), (8, [.inr 4000000000000000000, .inr (-4)], 14, 0), (11, [.inl 9], 0, 0), (10, [.inl 3, .inr 2], 3, 72), (10, [.inl 2, .inr 7], 4, 6),
  (9, [.inr (-6)], 0, 0), (1, [.inr 3, .inl 6], 0, 0), (8, [.inl 7, .inr 1], 0, 0), (3, [.inr 3, .inl 6, .inl 8], 0, 0), (8, [.inr 4000000000000000000, .inr (-6)], 14, 0), (11, [.inl 9], 0, 0), (10, [.inl 3, .inr 20], 5, 58), (10, [.inl 4, .inr 0], 2, 6), (9, [.inr (-2)], 0, 0), (1, [.inr 3, .inl 6], 0, 0), (8, [.inl 7, .inr 1], 0, 0), (3, [.inr 3, .inl 6, .inl 8], 0, 0),
  (8, [.inr 4000000000000000000, .inr (-2)], 14, 0), (11, [.inl 9], 0, 0), (10, [.inl 4, .inr 2], 3, 6), (9, [.inr (-2)], 0, 0), (1, [.inr 3, .inl 6], 0, 0), (8, [.inl 7, .inr 1], 0, 0), (3, [.inr 3, .inl 6, .inl 8], 0, 0), (8, [.inr 4000000000000000000, .inr (-2)], 14, 0), (11, [.inl 9], 0, 0), (1, [.inr 19, .inl 1], 0, 0), (10, [.inl 6, .inr (-9)], 0, 21), (13, [.inr 11, .inl 1], 59, 0),
  (10, [.inl 7, .inr 0], 2, 3), (10, [.inl 4, .inr 0], 1, 1), (11, [.inr 1], 0, 0), (11, [.inr 0], 0, 0), (1, [.inr 30, .inl 7], 0, 0), (0, [.inl 8], 4, 0), (10, [.inl 9, .inl 2], 4, 3), (10, [.inl 4, .inr 0], 1, 1), (11, [.inr 1], 0, 0), (11, [.inr 0], 0, 0), (1, [.inr 30, .inl 7], 0, 0), (0, [.inl 10], 3, 0),
  (10, [.inl 11, .inr 1], 1, 3), (10, [.inl 4, .inr 0], 1, 1), (11, [.inl 3], 0, 0), (11, [.inr 1], 0, 0), (8, [.inl 3, .inr 1], 1, 0), (10, [.inl 4, .inr 0], 1, 1), (11, [.inl 3], 0, 0), (11, [.inl 12], 0, 0), (13, [.inr 11, .inl 1], 59, 0), (10, [.inl 7, .inr 0], 2, 3), (10, [.inl 4, .inr 0], 1, 1), (11, [.inr 1], 0, 0),
  (11, [.inr 1], 0, 0), (1, [.inr 30, .inl 7], 0, 0), (0, [.inl 8], 4, 0), (10, [.inl 9, .inl 2], 4, 3), (10, [.inl 4, .inr 0], 1, 1), (11, [.inr 1], 0, 0), (11, [.inr 1], 0, 0), (1, [.inr 30, .inl 7], 0, 0), (0, [.inl 10], 3, 0), (10, [.inl 11, .inr 1], 1, 3), (10, [.inl 4, .inr 0], 1, 1), (11, [.inl 3], 0, 0),
  (11, [.inr 1], 0, 0), (8, [.inl 3, .inr 1], 1, 0), (10, [.inl 4, .inr 0], 1, 1), (11, [.inl 3], 0, 0), (11, [.inl 12], 0, 0), (9, [.inr (-6)], 0, 0), (1, [.inr 3, .inl 6], 0, 0), (8, [.inl 7, .inr 1], 0, 0), (3, [.inr 3, .inl 6, .inl 8], 0, 0), (8, [.inr 4000000000000000000, .inr (-6)], 14, 0), (11, [.inl 9], 0, 0), (9, [.inr (-4)], 0, 0),
  (1, [.inr 3, .inl 6], 0, 0), (8, [.inl 7, .inr 1], 0, 0), (3, [.inr 3, .inl 6, .inl 8], 0, 0), (8, [.inr 4000000000000000000, .inr (-4)], 14, 0), (11, [.inl 9], 0, 0)]
theorem vc_sure_k : x_chk 133 [] vc_sure_T [] 600 = true := by decide +kernel
noncomputable def vc_mean_T : xT := [(10, [.inl 1, .inr 0], 2, 6), (9, [.inr (-1)], 0, 0), (1, [.inr 3, .inl 3], 0, 0), (8, [.inl 4, .inr 1], 0, 0), (3, [.inr 3, .inl 3, .inl 5], 0, 0), (8, [.inr 4000000000000000000, .inr (-1)], 14, 0), (11, [.inl 6], 0, 0), (10, [.inl 1, .inr 5], 3, 6), (9, [.inr (-1)], 0, 0), (1, [.inr 3, .inl 3], 0, 0), (8, [.inl 4, .inr 1], 0, 0), (3, [.inr 3, .inl 3, .inl 5], 0, 0),
  (8, [.inr 4000000000000000000, .inr (-1)], 14, 0), (11, [.inl 6], 0, 0), (10, [.inl 2, .inr 0], 2, 6), (9, [.inr (-2)], 0, 0), (1, [.inr 3, .inl 3], 0, 0), (8, [.inl 4, .inr 1], 0, 0), (3, [.inr 3, .inl 3, .inl 5], 0, 0), (8, [.inr 4000000000000000000, .inr (-2)], 14, 0), (11, [.inl 6], 0, 0), (10, [.inl 2, .inr 2], 3, 6), (9, [.inr (-2)], 0, 0), (1, [.inr 3, .inl 3], 0, 0),
  (8, [.inl 4, .inr 1], 0, 0), (3, [.inr 3, .inl 3, .inl 5], 0, 0), (8, [.inr 4000000000000000000, .inr (-2)], 14, 0), (11, [.inl 6], 0, 0), (0, [.inr 11], 1, 0), (10, [.inl 3, .inr 0], 1, 1), (12, [.inl 0, .inl 1, .inl 2, .inr 0, .inr 0], 0, 0), (11, [.inl 2], 0, 0)]
noncomputable def vc_mean_T0 : xT := [(0, [.inr 11], 1, 0), (10, [.inl 4, .inl 5], 3, 1), (12, [.inl 0, .inl 2, .inl 3, .inr 1, .inr 2], 1, 0), (5, [.inr 20, .inl 4], 0, 1), (1, [.inl 6, .inl 1], 0, 0), (8, [.inl 3, .inl 7], 0, 0), (8, [.inl 4, .inr 1], 0, 0), (12, [.inl 0, .inl 1, .inl 2, .inl 8, .inl 9], 0, 0)]
noncomputable def vc_mean_T1 : xT := [(0, [.inr 11], 1, 0), (10, [.inl 4, .inl 5], 4, 6), (10, [.inl 1, .inr 0], 1, 3), (0, [.inr 11], 1, 0), (8, [.inl 6, .inl 3], 9, 0), (11, [.inl 7], 0, 0), (8, [.inl 2, .inl 3], 9, 0), (11, [.inl 6], 0, 0), (8, [.inl 2, .inl 4], 10, 0), (10, [.inl 6, .inr 0], 1, 2), (8, [.inl 4, .inr 1], 0, 0), (12, [.inl 0, .inl 1, .inl 2, .inl 3, .inl 7], 1, 0),
  (0, [.inr 11], 1, 0), (8, [.inl 7, .inl 4], 10, 0), (10, [.inl 8, .inr 0], 1, 2), (8, [.inl 4, .inr 1], 0, 0), (12, [.inl 0, .inl 1, .inl 2, .inl 3, .inl 9], 1, 0), (8, [.inl 4, .inr 1], 0, 0), (12, [.inl 0, .inl 1, .inl 2, .inl 4, .inl 9], 1, 0)]
theorem vc_mean_k : x_chk 135 [(46, [(0, 0), (1, 0), (2, 0), (3, 0), (4, 0)]), (85, [(0, 0), (2, 0), (3, 0), (4, 0), (5, 0)])] vc_mean_T [vc_mean_T0, vc_mean_T1] 600 = true := by decide +kernel
end
section
/-! the trees of the methods (made by a program) -/
noncomputable def vc_shares_T : xT := [(10, [.inl 1, .inr 1], 3, 25), (10, [.inl 1, .inr 9], 5, 19), (10, [.inl 2, .inr 0], 2, 5), (9, [.inr (-2)], 0, 0), (1, [.inr 3, .inl 3], 0, 0), (8, [.inl 4, .inr 1], 0, 0), (3, [.inr 3, .inl 3, .inl 5], 0, 0), (11, [.inr (-2)], 0, 0), (10, [.inl 2, .inr 2], 3, 5), (9, [.inr (-2)], 0, 0), (1, [.inr 3, .inl 3], 0, 0), (8, [.inl 4, .inr 1], 0, 0),
  (3, [.inr 3, .inl 3, .inl 5], 0, 0), (11, [.inr (-2)], 0, 0), (10, [.inl 2, .inr 0], 1, 3), (13, [.inr 11, .inr 0], 80, 0), (8, [.inl 3, .inl 1], 10, 0), (11, [.inl 4], 0, 0), (13, [.inr 11, .inr 0], 80, 0), (8, [.inl 3, .inl 1], 9, 0), (11, [.inl 4], 0, 0), (9, [.inr (-6)], 0, 0), (1, [.inr 3, .inl 3], 0, 0), (8, [.inl 4, .inr 1], 0, 0),
  (3, [.inr 3, .inl 3, .inl 5], 0, 0), (11, [.inr (-6)], 0, 0), (9, [.inr (-4)], 0, 0), (1, [.inr 3, .inl 3], 0, 0), (8, [.inl 4, .inr 1], 0, 0), (3, [.inr 3, .inl 3, .inl 5], 0, 0), (11, [.inr (-4)], 0, 0)]
theorem vc_shares_k : x_chk 136 [] vc_shares_T [] 600 = true := by decide +kernel
noncomputable def vc_lots_T : xT := [(10, [.inl 1, .inr 1], 3, 20), (10, [.inl 1, .inr 20], 5, 14), (10, [.inl 3, .inr 0], 2, 5), (9, [.inr (-2)], 0, 0), (1, [.inr 3, .inl 4], 0, 0), (8, [.inl 5, .inr 1], 0, 0), (3, [.inr 3, .inl 4, .inl 6], 0, 0), (11, [.inr (-2)], 0, 0), (10, [.inl 3, .inr 2], 3, 5), (9, [.inr (-2)], 0, 0), (1, [.inr 3, .inl 4], 0, 0), (8, [.inl 5, .inr 1], 0, 0),
  (3, [.inr 3, .inl 4, .inl 6], 0, 0), (11, [.inr (-2)], 0, 0), (13, [.inr 34, .inr 11], 23, 0), (12, [.inl 0, .inl 1, .inl 3, .inl 2, .inr 0, .inr 0], 0, 0), (9, [.inr (-6)], 0, 0), (1, [.inr 3, .inl 4], 0, 0), (8, [.inl 5, .inr 1], 0, 0), (3, [.inr 3, .inl 4, .inl 6], 0, 0), (11, [.inr (-6)], 0, 0), (9, [.inr (-4)], 0, 0), (1, [.inr 3, .inl 4], 0, 0), (8, [.inl 5, .inr 1], 0, 0),
  (3, [.inr 3, .inl 4, .inl 6], 0, 0), (11, [.inr (-4)], 0, 0)]
noncomputable def vc_lots_T0 : xT := [(10, [.inl 5, .inl 1], 3, 1), (11, [.inl 4], 0, 0), (12, [.inl 0, .inl 1, .inl 2, .inl 3, .inl 4, .inl 5, .inr 0], 1, 0)]
noncomputable def vc_lots_T1 : xT := [(10, [.inl 6, .inr 5], 3, 9), (10, [.inl 2, .inr 0], 1, 4), (13, [.inr 34, .inr 10], 80, 0), (8, [.inl 4, .inl 7], 0, 0), (8, [.inl 5, .inr 1], 0, 0), (12, [.inl 0, .inl 1, .inl 2, .inl 3, .inl 8, .inl 9], 0, 0), (13, [.inr 34, .inr 10], 91, 0), (8, [.inl 4, .inl 7], 0, 0), (8, [.inl 5, .inr 1], 0, 0), (12, [.inl 0, .inl 1, .inl 2, .inl 3, .inl 8, .inl 9], 0, 0), (8, [.inl 3, .inr 1103515245], 2, 0), (8, [.inl 7, .inr 12345], 0, 0),
  (8, [.inl 8, .inr 2147483647], 3, 0), (8, [.inl 9, .inr 65536], 9, 0), (8, [.inl 10, .inr 9], 10, 0), (3, [.inr 52, .inl 6, .inl 11], 0, 0), (8, [.inl 6, .inr 1], 0, 0), (12, [.inl 0, .inl 1, .inl 2, .inl 8, .inl 4, .inl 5, .inl 12], 1, 0)]
theorem vc_lots_k : x_chk 137 [(60, [(0, 0), (1, 0), (3, 0), (4, 0), (5, 0), (6, 0)]), (69, [(0, 0), (1, 0), (3, 0), (4, 0), (5, 0), (6, 0), (7, 0)])] vc_lots_T [vc_lots_T0, vc_lots_T1] 600 = true := by decide +kernel
theorem vc_lots {a0 a1 a2 a3 v : Int} {h h' : fH} (hs : fS 137 [a0, a1, a2, a3] h v h') (I0 : Int → Int → Int → Int → Int → Int → fH → Prop) (I1 : Int → Int → Int → Int → Int → Int → Int → fH → Prop) (Q : Int → fH → Prop) (h0 : ((1 ≤ a1 → ((a1 ≤ 20 → ((a3 < 0 → ∀ z4 : Int, z4 = wr (-(-2)) → ∀ z5 : Int, z5 = h 3 z4 → ∀ z6 : Int, z6 = wr (z5 + 1) → ∀ h1 : fH, h1 = fu h 3 z4 z6 → Q (-2) h1) ∧ (0 ≤ a3 → ((2 ≤ a3 → ∀ z4 : Int, z4 = wr (-(-2)) → ∀ z5 : Int, z5 = h 3 z4 → ∀ z6 : Int, z6 = wr (z5 + 1) → ∀ h1 : fH, h1 = fu h 3 z4 z6 → Q (-2) h1) ∧ (a3 < 2 → ∀ (v1 : Int) (h1 : fH), fS 23 [34, 11] h v1 h1 → I0 a0 a1 a3 a2 0 0 h1))))) ∧ (20 < a1 → ∀ z4 : Int, z4 = wr (-(-6)) → ∀ z5 : Int, z5 = h 3 z4 → ∀ z6 : Int, z6 = wr (z5 + 1) → ∀ h1 : fH, h1 = fu h 3 z4 z6 → Q (-6) h1))) ∧ (a1 < 1 → ∀ z4 : Int, z4 = wr (-(-4)) → ∀ z5 : Int, z5 = h 3 z4 → ∀ z6 : Int, z6 = wr (z5 + 1) → ∀ h1 : fH, h1 = fu h 3 z4 z6 → Q (-4) h1))) (k0 : ∀ (x0 x1 x3 x4 x5 x6 : Int) (h : fH), I0 x0 x1 x3 x4 x5 x6 h → ((x1 ≤ x6 → Q x5 h) ∧ (x6 < x1 → I1 x0 x1 x3 x4 x5 x6 0 h))) (k1 : ∀ (x0 x1 x3 x4 x5 x6 x7 : Int) (h : fH), I1 x0 x1 x3 x4 x5 x6 x7 h → ((5 ≤ x7 → ((x3 ≠ 0 → ∀ (v1 : Int) (h1 : fH), fS 80 [34, 10] h v1 h1 → ∀ z8 : Int, z8 = wr (x5 + v1) → ∀ z9 : Int, z9 = wr (x6 + 1) → I0 x0 x1 x3 x4 z8 z9 h1) ∧ (x3 = 0 → ∀ (v1 : Int) (h1 : fH), fS 91 [34, 10] h v1 h1 → ∀ z8 : Int, z8 = wr (x5 + v1) → ∀ z9 : Int, z9 = wr (x6 + 1) → I0 x0 x1 x3 x4 z8 z9 h1))) ∧ (x7 < 5 → ∀ z7 : Int, z7 = wr (x4 * 1103515245) → ∀ z8 : Int, z8 = wr (z7 + 12345) → ∀ z9 : Int, z9 = xand z8 2147483647 → ∀ z10 : Int, z10 = xdiv z9 65536 → ∀ z11 : Int, z11 = xrem z10 9 → ∀ h1 : fH, h1 = fu h 52 x7 z11 → ∀ z12 : Int, z12 = wr (x7 + 1) → I1 x0 x1 x3 z8 x5 x6 z12 h1))) : Q v h' := by
  refine x_mef vc_lots_k hs (fun k l h => match k with
    | 0 => (match l with | [x0, x1, x3, x4, x5, x6] => I0 x0 x1 x3 x4 x5 x6 h | _ => False)
    | 1 => (match l with | [x0, x1, x3, x4, x5, x6, x7] => I1 x0 x1 x3 x4 x5 x6 x7 h | _ => False)
    | _ => False) Q h0 ?_
  intro i Ti hT vals h hi
  match i, hT, hi with
  | 0, hT, hi =>
    cases hT
    match vals, hi with
    | [x0, x1, x3, x4, x5, x6], hi => exact k0 _ _ _ _ _ _ _ hi
    | [], hi => exact False.elim hi
    | [_], hi => exact False.elim hi
    | [_, _], hi => exact False.elim hi
    | [_, _, _], hi => exact False.elim hi
    | [_, _, _, _], hi => exact False.elim hi
    | [_, _, _, _, _], hi => exact False.elim hi
    | _ :: _ :: _ :: _ :: _ :: _ :: _ :: _, hi => exact False.elim hi
  | 1, hT, hi =>
    cases hT
    match vals, hi with
    | [x0, x1, x3, x4, x5, x6, x7], hi => exact k1 _ _ _ _ _ _ _ _ hi
    | [], hi => exact False.elim hi
    | [_], hi => exact False.elim hi
    | [_, _], hi => exact False.elim hi
    | [_, _, _], hi => exact False.elim hi
    | [_, _, _, _], hi => exact False.elim hi
    | [_, _, _, _, _], hi => exact False.elim hi
    | [_, _, _, _, _, _], hi => exact False.elim hi
    | _ :: _ :: _ :: _ :: _ :: _ :: _ :: _ :: _, hi => exact False.elim hi
  | _ + 2, hT, _ => cases hT
noncomputable def vc_saddest_T : xT := [(10, [.inl 1, .inr 0], 0, 2), (13, [.inl 0], 139, 0), (11, [.inl 2], 0, 0), (10, [.inl 1, .inr 1], 0, 2), (13, [.inl 0, .inr 0], 140, 0), (11, [.inl 2], 0, 0), (10, [.inl 1, .inr 2], 0, 2), (13, [.inr 11], 141, 0), (11, [.inl 2], 0, 0), (9, [.inr (-2)], 0, 0), (1, [.inr 3, .inl 2], 0, 0), (8, [.inl 3, .inr 1], 0, 0),
  (3, [.inr 3, .inl 2, .inl 4], 0, 0), (11, [.inr (-2)], 0, 0)]
theorem vc_saddest_k : x_chk 138 [] vc_saddest_T [] 600 = true := by decide +kernel
noncomputable def vc_whoHasMostTears_T : xT := [(12, [.inl 0, .inr (-9), .inr 0], 0, 0)]
noncomputable def vc_whoHasMostTears_T0 : xT := [(0, [.inr 11], 1, 0), (10, [.inl 2, .inl 3], 3, 1), (11, [.inl 1], 0, 0), (10, [.inl 1, .inr (-9)], 0, 2), (8, [.inl 2, .inr 1], 0, 0), (12, [.inl 0, .inl 2, .inl 4], 0, 0), (1, [.inr 18, .inl 2], 0, 0), (1, [.inr 18, .inl 1], 0, 0), (10, [.inl 4, .inl 5], 5, 2), (8, [.inl 2, .inr 1], 0, 0), (12, [.inl 0, .inl 1, .inl 6], 0, 0), (8, [.inl 2, .inr 1], 0, 0),
  (12, [.inl 0, .inl 2, .inl 6], 0, 0)]
theorem vc_whoHasMostTears_k : x_chk 139 [(5, [(0, 0), (1, 0), (2, 0)])] vc_whoHasMostTears_T [vc_whoHasMostTears_T0] 600 = true := by decide +kernel
theorem vc_whoHasMostTears {a0 v : Int} {h h' : fH} (hs : fS 139 [a0] h v h') (I0 : Int → Int → Int → fH → Prop) (Q : Int → fH → Prop) (h0 : I0 a0 (-9) 0 h) (k0 : ∀ (x0 x1 x2 : Int) (h : fH), I0 x0 x1 x2 h → ∀ z3 : Int, z3 = h 11 1 → ((z3 ≤ x2 → Q x1 h) ∧ (x2 < z3 → ((x1 = (-9) → ∀ z4 : Int, z4 = wr (x2 + 1) → I0 x0 x2 z4 h) ∧ (x1 ≠ (-9) → ∀ z4 : Int, z4 = h 18 x2 → ∀ z5 : Int, z5 = h 18 x1 → ((z4 ≤ z5 → ∀ z6 : Int, z6 = wr (x2 + 1) → I0 x0 x1 z6 h) ∧ (z5 < z4 → ∀ z6 : Int, z6 = wr (x2 + 1) → I0 x0 x2 z6 h))))))) : Q v h' := by
  refine x_mef vc_whoHasMostTears_k hs (fun k l h => match k with
    | 0 => (match l with | [x0, x1, x2] => I0 x0 x1 x2 h | _ => False)
    | _ => False) Q h0 ?_
  intro i Ti hT vals h hi
  match i, hT, hi with
  | 0, hT, hi =>
    cases hT
    match vals, hi with
    | [x0, x1, x2], hi => exact k0 _ _ _ _ hi
    | [], hi => exact False.elim hi
    | [_], hi => exact False.elim hi
    | [_, _], hi => exact False.elim hi
    | _ :: _ :: _ :: _ :: _, hi => exact False.elim hi
  | _ + 1, hT, _ => cases hT
noncomputable def vc_twosWhoWishEachOther_T : xT := [(12, [.inl 0, .inl 1, .inr 0, .inr 0], 0, 0)]
noncomputable def vc_twosWhoWishEachOther_T0 : xT := [(0, [.inr 11], 1, 0), (10, [.inl 3, .inl 4], 3, 1), (11, [.inl 2], 0, 0), (1, [.inr 17, .inl 3], 0, 0), (10, [.inl 5, .inl 3], 5, 2), (8, [.inl 3, .inr 1], 0, 0), (12, [.inl 0, .inl 1, .inl 2, .inl 6], 0, 0), (0, [.inr 11], 1, 0), (10, [.inl 5, .inl 6], 3, 2), (8, [.inl 3, .inr 1], 0, 0), (12, [.inl 0, .inl 1, .inl 2, .inl 7], 0, 0), (1, [.inr 17, .inl 5], 0, 0),
  (10, [.inl 7, .inl 3], 1, 2), (8, [.inl 3, .inr 1], 0, 0), (12, [.inl 0, .inl 1, .inl 2, .inl 8], 0, 0), (10, [.inl 1, .inr 0], 0, 3), (8, [.inl 2, .inr 1], 0, 0), (8, [.inl 3, .inr 1], 0, 0), (12, [.inl 0, .inl 1, .inl 8, .inl 9], 0, 0), (1, [.inr 19, .inl 3], 0, 0), (10, [.inl 8, .inl 5], 1, 2), (8, [.inl 3, .inr 1], 0, 0), (12, [.inl 0, .inl 1, .inl 2, .inl 9], 0, 0), (8, [.inl 2, .inr 1], 0, 0),
  (8, [.inl 3, .inr 1], 0, 0), (12, [.inl 0, .inl 1, .inl 9, .inl 10], 0, 0)]
theorem vc_twosWhoWishEachOther_k : x_chk 140 [(4, [(0, 0), (1, 0), (2, 0), (3, 0)])] vc_twosWhoWishEachOther_T [vc_twosWhoWishEachOther_T0] 600 = true := by decide +kernel
theorem vc_twosWhoWishEachOther {a0 a1 v : Int} {h h' : fH} (hs : fS 140 [a0, a1] h v h') (I0 : Int → Int → Int → Int → fH → Prop) (Q : Int → fH → Prop) (h0 : I0 a0 a1 0 0 h) (k0 : ∀ (x0 x1 x2 x3 : Int) (h : fH), I0 x0 x1 x2 x3 h → ∀ z4 : Int, z4 = h 11 1 → ((z4 ≤ x3 → Q x2 h) ∧ (x3 < z4 → ∀ z5 : Int, z5 = h 17 x3 → ((z5 ≤ x3 → ∀ z6 : Int, z6 = wr (x3 + 1) → I0 x0 x1 x2 z6 h) ∧ (x3 < z5 → ∀ z6 : Int, z6 = h 11 1 → ((z6 ≤ z5 → ∀ z7 : Int, z7 = wr (x3 + 1) → I0 x0 x1 x2 z7 h) ∧ (z5 < z6 → ∀ z7 : Int, z7 = h 17 z5 → ((z7 ≠ x3 → ∀ z8 : Int, z8 = wr (x3 + 1) → I0 x0 x1 x2 z8 h) ∧ (z7 = x3 → ((x1 = 0 → ∀ z8 : Int, z8 = wr (x2 + 1) → ∀ z9 : Int, z9 = wr (x3 + 1) → I0 x0 x1 z8 z9 h) ∧ (x1 ≠ 0 → ∀ z8 : Int, z8 = h 19 x3 → ((z8 ≠ z5 → ∀ z9 : Int, z9 = wr (x3 + 1) → I0 x0 x1 x2 z9 h) ∧ (z8 = z5 → ∀ z9 : Int, z9 = wr (x2 + 1) → ∀ z10 : Int, z10 = wr (x3 + 1) → I0 x0 x1 z9 z10 h))))))))))))) : Q v h' := by
  refine x_mef vc_twosWhoWishEachOther_k hs (fun k l h => match k with
    | 0 => (match l with | [x0, x1, x2, x3] => I0 x0 x1 x2 x3 h | _ => False)
    | _ => False) Q h0 ?_
  intro i Ti hT vals h hi
  match i, hT, hi with
  | 0, hT, hi =>
    cases hT
    match vals, hi with
    | [x0, x1, x2, x3], hi => exact k0 _ _ _ _ _ hi
    | [], hi => exact False.elim hi
    | [_], hi => exact False.elim hi
    | [_, _], hi => exact False.elim hi
    | [_, _, _], hi => exact False.elim hi
    | _ :: _ :: _ :: _ :: _ :: _, hi => exact False.elim hi
  | _ + 1, hT, _ => cases hT
noncomputable def vt_freeBits_T : xT := [(12, [.inl 0, .inr 0, .inr 0], 0, 0)]
noncomputable def vt_freeBits_T0 : xT := [(0, [.inl 0], 1, 0), (10, [.inl 2, .inl 3], 3, 1), (11, [.inl 1], 0, 0), (13, [.inl 0, .inl 2], 57, 0), (10, [.inl 4, .inr 0], 0, 2), (8, [.inl 2, .inr 1], 0, 0), (12, [.inl 0, .inl 1, .inl 5], 0, 0), (8, [.inr 1, .inl 2], 6, 0), (8, [.inl 1, .inl 5], 4, 0), (8, [.inl 2, .inr 1], 0, 0), (12, [.inl 0, .inl 6, .inl 7], 0, 0)]
theorem vt_freeBits_k : x_chk 141 [(4, [(0, 0), (1, 0), (2, 0)])] vt_freeBits_T [vt_freeBits_T0] 600 = true := by decide +kernel
theorem vt_freeBits {a0 v : Int} {h h' : fH} (hs : fS 141 [a0] h v h') (I0 : Int → Int → Int → fH → Prop) (Q : Int → fH → Prop) (h0 : I0 a0 0 0 h) (k0 : ∀ (x0 x1 x2 : Int) (h : fH), I0 x0 x1 x2 h → ∀ z3 : Int, z3 = h x0 1 → ((z3 ≤ x2 → Q x1 h) ∧ (x2 < z3 → ∀ (v1 : Int) (h1 : fH), fS 57 [x0, x2] h v1 h1 → ((v1 = 0 → ∀ z5 : Int, z5 = wr (x2 + 1) → I0 x0 x1 z5 h1) ∧ (v1 ≠ 0 → ∀ z5 : Int, z5 = xshl 1 x2 → ∀ z6 : Int, z6 = xor' x1 z5 → ∀ z7 : Int, z7 = wr (x2 + 1) → I0 x0 z6 z7 h1))))) : Q v h' := by
  refine x_mef vt_freeBits_k hs (fun k l h => match k with
    | 0 => (match l with | [x0, x1, x2] => I0 x0 x1 x2 h | _ => False)
    | _ => False) Q h0 ?_
  intro i Ti hT vals h hi
  match i, hT, hi with
  | 0, hT, hi =>
    cases hT
    match vals, hi with
    | [x0, x1, x2], hi => exact k0 _ _ _ _ hi
    | [], hi => exact False.elim hi
    | [_], hi => exact False.elim hi
    | [_, _], hi => exact False.elim hi
    | _ :: _ :: _ :: _ :: _, hi => exact False.elim hi
  | _ + 1, hT, _ => cases hT
noncomputable def vc_wished_T : xT := [(10, [.inl 1, .inr 0], 2, 5), (9, [.inr (-1)], 0, 0), (1, [.inr 3, .inl 2], 0, 0), (8, [.inl 3, .inr 1], 0, 0), (3, [.inr 3, .inl 2, .inl 4], 0, 0), (11, [.inr (-1)], 0, 0), (0, [.inr 11], 1, 0), (10, [.inl 1, .inl 2], 3, 5), (9, [.inr (-1)], 0, 0), (1, [.inr 3, .inl 3], 0, 0), (8, [.inl 4, .inr 1], 0, 0), (3, [.inr 3, .inl 3, .inl 5], 0, 0),
  (11, [.inr (-1)], 0, 0), (12, [.inl 0, .inl 1, .inr 0, .inr 0], 0, 0)]
noncomputable def vc_wished_T0 : xT := [(0, [.inr 11], 1, 0), (10, [.inl 3, .inl 4], 3, 1), (11, [.inl 2], 0, 0), (10, [.inl 3, .inl 1], 0, 2), (8, [.inl 3, .inr 1], 0, 0), (12, [.inl 0, .inl 1, .inl 2, .inl 5], 0, 0), (1, [.inr 17, .inl 3], 0, 0), (10, [.inl 5, .inl 1], 1, 2), (8, [.inl 3, .inr 1], 0, 0), (12, [.inl 0, .inl 1, .inl 2, .inl 6], 0, 0), (8, [.inl 2, .inr 1], 0, 0), (8, [.inl 3, .inr 1], 0, 0),
  (12, [.inl 0, .inl 1, .inl 6, .inl 7], 0, 0)]
theorem vc_wished_k : x_chk 142 [(21, [(0, 0), (1, 0), (2, 0), (3, 0)])] vc_wished_T [vc_wished_T0] 600 = true := by decide +kernel
noncomputable def vc_scorn_T : xT := [(10, [.inl 1, .inr 0], 2, 5), (9, [.inr (-1)], 0, 0), (1, [.inr 3, .inl 2], 0, 0), (8, [.inl 3, .inr 1], 0, 0), (3, [.inr 3, .inl 2, .inl 4], 0, 0), (11, [.inr (-1)], 0, 0), (10, [.inl 1, .inr 5], 3, 5), (9, [.inr (-1)], 0, 0), (1, [.inr 3, .inl 2], 0, 0), (8, [.inl 3, .inr 1], 0, 0), (3, [.inr 3, .inl 2, .inl 4], 0, 0), (11, [.inr (-1)], 0, 0),
  (12, [.inl 0, .inl 1, .inr 0, .inr 0], 0, 0)]
noncomputable def vc_scorn_T0 : xT := [(0, [.inr 11], 1, 0), (10, [.inl 3, .inl 4], 3, 1), (11, [.inl 2], 0, 0), (5, [.inr 20, .inl 3], 0, 1), (1, [.inl 5, .inl 1], 0, 0), (10, [.inl 6, .inr 0], 0, 3), (8, [.inl 2, .inr 1], 0, 0), (8, [.inl 3, .inr 1], 0, 0), (12, [.inl 0, .inl 1, .inl 7, .inl 8], 0, 0), (10, [.inl 6, .inr 9], 1, 2), (8, [.inl 3, .inr 1], 0, 0), (12, [.inl 0, .inl 1, .inl 2, .inl 7], 0, 0),
  (8, [.inl 2, .inr 1], 0, 0), (8, [.inl 3, .inr 1], 0, 0), (12, [.inl 0, .inl 1, .inl 7, .inl 8], 0, 0)]
theorem vc_scorn_k : x_chk 143 [(17, [(0, 0), (1, 0), (2, 0), (3, 0)])] vc_scorn_T [vc_scorn_T0] 600 = true := by decide +kernel
noncomputable def vc_left_T : xT := [(10, [.inl 1, .inr 0], 0, 2), (13, [.inl 0], 145, 0), (11, [.inl 2], 0, 0), (10, [.inl 1, .inr 1], 0, 2), (13, [.inl 0], 146, 0), (11, [.inl 2], 0, 0), (10, [.inl 1, .inr 2], 0, 2), (13, [.inl 0], 147, 0), (11, [.inl 2], 0, 0), (10, [.inl 1, .inr 3], 0, 2), (13, [.inl 0, .inr 1], 140, 0), (11, [.inl 2], 0, 0),
  (10, [.inl 1, .inr 4], 0, 2), (13, [.inl 0], 148, 0), (11, [.inl 2], 0, 0), (9, [.inr (-2)], 0, 0), (1, [.inr 3, .inl 2], 0, 0), (8, [.inl 3, .inr 1], 0, 0), (3, [.inr 3, .inl 2, .inl 4], 0, 0), (11, [.inr (-2)], 0, 0)]
theorem vc_left_k : x_chk 144 [] vc_left_T [] 600 = true := by decide +kernel
noncomputable def vc_daysOfLastWager_T : xT := [(12, [.inl 0, .inr 0, .inr 0], 0, 0)]
noncomputable def vc_daysOfLastWager_T0 : xT := [(0, [.inr 11], 14, 0), (10, [.inl 2, .inl 3], 3, 1), (11, [.inl 1], 0, 0), (1, [.inr 30, .inl 2], 0, 0), (0, [.inl 4], 4, 0), (8, [.inl 1, .inl 5], 11, 0), (8, [.inl 2, .inr 1], 0, 0), (12, [.inl 0, .inl 6, .inl 7], 0, 0)]
theorem vc_daysOfLastWager_k : x_chk 145 [(4, [(0, 0), (1, 0), (2, 0)])] vc_daysOfLastWager_T [vc_daysOfLastWager_T0] 600 = true := by decide +kernel
noncomputable def vc_longestChasteRun_T : xT := [(12, [.inl 0, .inr 0, .inr 0, .inr 1], 0, 0)]
noncomputable def vc_longestChasteRun_T0 : xT := [(10, [.inl 3, .inr 60], 4, 1), (11, [.inl 1], 0, 0), (13, [.inr 11, .inl 3], 91, 0), (8, [.inl 3, .inr 1], 1, 0), (13, [.inr 11, .inl 5], 91, 0), (10, [.inl 4, .inl 6], 5, 4), (8, [.inl 2, .inr 1], 0, 0), (8, [.inl 1, .inl 7], 11, 0), (8, [.inl 3, .inr 1], 0, 0), (12, [.inl 0, .inl 8, .inl 7, .inl 9], 0, 0), (8, [.inl 1, .inr 0], 11, 0), (8, [.inl 3, .inr 1], 0, 0),
  (12, [.inl 0, .inl 7, .inr 0, .inl 8], 0, 0)]
theorem vc_longestChasteRun_k : x_chk 146 [(6, [(0, 0), (1, 0), (2, 0), (3, 0)])] vc_longestChasteRun_T [vc_longestChasteRun_T0] 600 = true := by decide +kernel
noncomputable def vc_eventsToday_T : xT := [(12, [.inl 0, .inr 0, .inr 0], 0, 0)]
noncomputable def vc_eventsToday_T0 : xT := [(10, [.inl 2, .inr 5], 3, 1), (11, [.inl 1], 0, 0), (0, [.inr 11], 15, 0), (1, [.inr 29, .inl 2], 0, 0), (8, [.inl 3, .inl 4], 0, 0), (1, [.inr 28, .inl 2], 0, 0), (8, [.inl 5, .inl 6], 10, 0), (10, [.inl 7, .inr 0], 1, 2), (8, [.inl 2, .inr 1], 0, 0), (12, [.inl 0, .inl 1, .inl 8], 0, 0), (8, [.inr 1, .inl 2], 6, 0), (8, [.inl 1, .inl 8], 4, 0),
  (8, [.inl 2, .inr 1], 0, 0), (12, [.inl 0, .inl 9, .inl 10], 0, 0)]
theorem vc_eventsToday_k : x_chk 147 [(4, [(0, 0), (1, 0), (2, 0)])] vc_eventsToday_T [vc_eventsToday_T0] 600 = true := by decide +kernel
end
section
/-! the trees of the methods (made by a program) -/
noncomputable def vc_rivals_T : xT := [(12, [.inl 0, .inr 0, .inr 0], 0, 0)]
noncomputable def vc_rivals_T0 : xT := [(0, [.inr 11], 1, 0), (10, [.inl 2, .inl 3], 3, 1), (11, [.inl 1], 0, 0), (1, [.inr 17, .inl 2], 0, 0), (10, [.inl 4, .inl 2], 0, 2), (8, [.inl 2, .inr 1], 0, 0), (12, [.inl 0, .inl 1, .inl 5], 0, 0), (10, [.inl 4, .inr 0], 2, 2), (8, [.inl 2, .inr 1], 0, 0), (12, [.inl 0, .inl 1, .inl 5], 0, 0), (0, [.inr 11], 1, 0), (10, [.inl 4, .inl 5], 3, 2),
  (8, [.inl 2, .inr 1], 0, 0), (12, [.inl 0, .inl 1, .inl 6], 0, 0), (8, [.inl 2, .inr 1], 0, 0), (12, [.inl 0, .inl 1, .inl 2, .inl 4, .inl 6], 1, 0)]
noncomputable def vc_rivals_T1 : xT := [(0, [.inr 11], 1, 0), (10, [.inl 4, .inl 5], 3, 2), (8, [.inl 2, .inr 1], 0, 0), (12, [.inl 0, .inl 1, .inl 6], 0, 0), (10, [.inl 4, .inl 3], 0, 2), (8, [.inl 4, .inr 1], 0, 0), (12, [.inl 0, .inl 1, .inl 2, .inl 3, .inl 6], 1, 0), (1, [.inr 17, .inl 4], 0, 0), (10, [.inl 6, .inl 3], 1, 2), (8, [.inl 4, .inr 1], 0, 0), (12, [.inl 0, .inl 1, .inl 2, .inl 3, .inl 7], 1, 0), (8, [.inl 1, .inr 1], 0, 0),
  (8, [.inl 4, .inr 1], 0, 0), (12, [.inl 0, .inl 7, .inl 2, .inl 3, .inl 8], 1, 0)]
theorem vc_rivals_k : x_chk 148 [(4, [(0, 0), (1, 0), (2, 0)]), (49, [(0, 0), (1, 0), (2, 0), (3, 0), (4, 0)])] vc_rivals_T [vc_rivals_T0, vc_rivals_T1] 600 = true := by decide +kernel
theorem vc_rivals {a0 v : Int} {h h' : fH} (hs : fS 148 [a0] h v h') (I0 : Int → Int → Int → fH → Prop) (I1 : Int → Int → Int → Int → Int → fH → Prop) (Q : Int → fH → Prop) (h0 : I0 a0 0 0 h) (k0 : ∀ (x0 x1 x2 : Int) (h : fH), I0 x0 x1 x2 h → ∀ z3 : Int, z3 = h 11 1 → ((z3 ≤ x2 → Q x1 h) ∧ (x2 < z3 → ∀ z4 : Int, z4 = h 17 x2 → ((z4 = x2 → ∀ z5 : Int, z5 = wr (x2 + 1) → I0 x0 x1 z5 h) ∧ (z4 ≠ x2 → ((z4 < 0 → ∀ z5 : Int, z5 = wr (x2 + 1) → I0 x0 x1 z5 h) ∧ (0 ≤ z4 → ∀ z5 : Int, z5 = h 11 1 → ((z5 ≤ z4 → ∀ z6 : Int, z6 = wr (x2 + 1) → I0 x0 x1 z6 h) ∧ (z4 < z5 → ∀ z6 : Int, z6 = wr (x2 + 1) → I1 x0 x1 x2 z4 z6 h))))))))) (k1 : ∀ (x0 x1 x2 x3 x4 : Int) (h : fH), I1 x0 x1 x2 x3 x4 h → ∀ z5 : Int, z5 = h 11 1 → ((z5 ≤ x4 → ∀ z6 : Int, z6 = wr (x2 + 1) → I0 x0 x1 z6 h) ∧ (x4 < z5 → ((x4 = x3 → ∀ z6 : Int, z6 = wr (x4 + 1) → I1 x0 x1 x2 x3 z6 h) ∧ (x4 ≠ x3 → ∀ z6 : Int, z6 = h 17 x4 → ((z6 ≠ x3 → ∀ z7 : Int, z7 = wr (x4 + 1) → I1 x0 x1 x2 x3 z7 h) ∧ (z6 = x3 → ∀ z7 : Int, z7 = wr (x1 + 1) → ∀ z8 : Int, z8 = wr (x4 + 1) → I1 x0 z7 x2 x3 z8 h))))))) : Q v h' := by
  refine x_mef vc_rivals_k hs (fun k l h => match k with
    | 0 => (match l with | [x0, x1, x2] => I0 x0 x1 x2 h | _ => False)
    | 1 => (match l with | [x0, x1, x2, x3, x4] => I1 x0 x1 x2 x3 x4 h | _ => False)
    | _ => False) Q h0 ?_
  intro i Ti hT vals h hi
  match i, hT, hi with
  | 0, hT, hi =>
    cases hT
    match vals, hi with
    | [x0, x1, x2], hi => exact k0 _ _ _ _ hi
    | [], hi => exact False.elim hi
    | [_], hi => exact False.elim hi
    | [_, _], hi => exact False.elim hi
    | _ :: _ :: _ :: _ :: _, hi => exact False.elim hi
  | 1, hT, hi =>
    cases hT
    match vals, hi with
    | [x0, x1, x2, x3, x4], hi => exact k1 _ _ _ _ _ _ hi
    | [], hi => exact False.elim hi
    | [_], hi => exact False.elim hi
    | [_, _], hi => exact False.elim hi
    | [_, _, _], hi => exact False.elim hi
    | [_, _, _, _], hi => exact False.elim hi
    | _ :: _ :: _ :: _ :: _ :: _ :: _, hi => exact False.elim hi
  | _ + 2, hT, _ => cases hT
end
