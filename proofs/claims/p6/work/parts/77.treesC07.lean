/-! the trees of the methods (made by a program) -/
def vc_gainOfTwo_T : xT := [(5, [.inr 43, .inl 1], 0, 1), (8, [.inr 9, .inl 4], 2, 0), (3, [.inl 6, .inl 3, .inl 7], 0, 0), (5, [.inr 43, .inl 2], 0, 1), (8, [.inr 9, .inl 5], 2, 0), (3, [.inl 8, .inl 3, .inl 9], 0, 0), (13, [.inr 34, .inl 1, .inl 2, .inl 3, .inr 1], 56, 0), (10, [.inl 10, .inr 0], 0, 1), (11, [.inr 0], 0, 0), (0, [.inr 34], 15, 0), (8, [.inl 11, .inr 1], 0, 0), (1, [.inr 52, .inl 3], 0, 0),
  (8, [.inl 12, .inl 13], 0, 0), (1, [.inr 51, .inl 3], 0, 0), (8, [.inl 14, .inl 15], 10, 0), (10, [.inl 16, .inr 0], 1, 1), (11, [.inr 5], 0, 0), (11, [.inr 0], 0, 0)]
theorem vc_gainOfTwo_k : x_chk 126 [] vc_gainOfTwo_T [] 600 = true := by decide +kernel
theorem vc_gainOfTwo {a0 a1 a2 a3 a4 a5 v : Int} {h h' : fH} (hs : fS 126 [a0, a1, a2, a3, a4, a5] h v h') (Q : Int → fH → Prop) (h0 : ∀ z6 : Int, z6 = 43 + 1 + 1 * a1 → ∀ z7 : Int, z7 = wr (9 * a4) → ∀ h1 : fH, h1 = fu h z6 a3 z7 → ∀ z8 : Int, z8 = 43 + 1 + 1 * a2 → ∀ z9 : Int, z9 = wr (9 * a5) → ∀ h2 : fH, h2 = fu h1 z8 a3 z9 → ∀ (v3 : Int) (h3 : fH), fS 56 [34, a1, a2, a3, 1] h2 v3 h3 → ((v3 = 0 → Q 0 h3) ∧ (v3 ≠ 0 → ∀ z11 : Int, z11 = h3 34 15 → ∀ z12 : Int, z12 = wr (z11 + 1) → ∀ z13 : Int, z13 = h3 52 a3 → ∀ z14 : Int, z14 = wr (z12 + z13) → ∀ z15 : Int, z15 = h3 51 a3 → ∀ z16 : Int, z16 = xrem z14 z15 → ((z16 ≠ 0 → Q 5 h3) ∧ (z16 = 0 → Q 0 h3))))) : Q v h' := by
  exact x_mef vc_gainOfTwo_k hs (fun _ _ _ => False) Q h0 (fun i Ti hT => by cases hT)
def vc_row_T : xT := [(10, [.inl 1, .inr 0], 3, 20), (10, [.inl 1, .inr 99], 4, 5), (9, [.inr (-6)], 0, 0), (1, [.inr 3, .inl 2], 0, 0), (8, [.inl 3, .inr 1], 0, 0), (3, [.inr 3, .inl 2, .inl 4], 0, 0), (11, [.inr (-6)], 0, 0), (0, [.inl 0], 8, 0), (10, [.inl 2, .inr 12], 2, 7), (0, [.inl 0], 8, 0), (3, [.inr 2, .inl 3, .inl 1], 0, 0), (0, [.inl 0], 8, 0),
  (8, [.inl 4, .inr 1], 0, 0), (2, [.inl 0, .inl 5], 8, 0), (0, [.inl 0], 8, 0), (11, [.inl 6], 0, 0), (9, [.inr (-6)], 0, 0), (1, [.inr 3, .inl 3], 0, 0), (8, [.inl 4, .inr 1], 0, 0), (3, [.inr 3, .inl 3, .inl 5], 0, 0), (11, [.inr (-6)], 0, 0), (9, [.inr (-4)], 0, 0), (1, [.inr 3, .inl 2], 0, 0), (8, [.inl 3, .inr 1], 0, 0),
  (3, [.inr 3, .inl 2, .inl 4], 0, 0), (11, [.inr (-4)], 0, 0)]
theorem vc_row_k : x_chk 127 [] vc_row_T [] 600 = true := by decide +kernel
theorem vc_row {a0 a1 v : Int} {h h' : fH} (hs : fS 127 [a0, a1] h v h') (Q : Int → fH → Prop) (h0 : ((0 ≤ a1 → ((99 < a1 → ∀ z2 : Int, z2 = wr (-(-6)) → ∀ z3 : Int, z3 = h 3 z2 → ∀ z4 : Int, z4 = wr (z3 + 1) → ∀ h1 : fH, h1 = fu h 3 z2 z4 → Q (-6) h1) ∧ (a1 ≤ 99 → ∀ z2 : Int, z2 = h a0 8 → ((z2 < 12 → ∀ z3 : Int, z3 = h a0 8 → ∀ h1 : fH, h1 = fu h 2 z3 a1 → ∀ z4 : Int, z4 = h1 a0 8 → ∀ z5 : Int, z5 = wr (z4 + 1) → ∀ h2 : fH, h2 = fu h1 a0 8 z5 → ∀ z6 : Int, z6 = h2 a0 8 → Q z6 h2) ∧ (12 ≤ z2 → ∀ z3 : Int, z3 = wr (-(-6)) → ∀ z4 : Int, z4 = h 3 z3 → ∀ z5 : Int, z5 = wr (z4 + 1) → ∀ h1 : fH, h1 = fu h 3 z3 z5 → Q (-6) h1))))) ∧ (a1 < 0 → ∀ z2 : Int, z2 = wr (-(-4)) → ∀ z3 : Int, z3 = h 3 z2 → ∀ z4 : Int, z4 = wr (z3 + 1) → ∀ h1 : fH, h1 = fu h 3 z2 z4 → Q (-4) h1))) : Q v h' := by
  exact x_mef vc_row_k hs (fun _ _ _ => False) Q h0 (fun i Ti hT => by cases hT)
def vc_clear_T : xT := [(0, [.inl 0], 8, 0), (2, [.inl 0, .inr 0], 8, 0), (11, [.inl 1], 0, 0)]
theorem vc_clear_k : x_chk 128 [] vc_clear_T [] 600 = true := by decide +kernel
theorem vc_clear {a0 v : Int} {h h' : fH} (hs : fS 128 [a0] h v h') (Q : Int → fH → Prop) (h0 : ∀ z1 : Int, z1 = h a0 8 → ∀ h1 : fH, h1 = fu h a0 8 0 → Q z1 h1) : Q v h' := by
  exact x_mef vc_clear_k hs (fun _ _ _ => False) Q h0 (fun i Ti hT => by cases hT)
def vc_judge_T : xT := [(12, [.inl 0, .inr (-9), .inr 0], 0, 0)]
def vc_judge_T0 : xT := [(0, [.inl 0], 8, 0), (10, [.inl 2, .inl 3], 3, 2), (2, [.inl 0, .inr 0], 8, 0), (11, [.inl 1], 0, 0), (10, [.inl 1, .inr (-9)], 1, 2), (2, [.inl 0, .inr 0], 8, 0), (11, [.inl 1], 0, 0), (10, [.inl 2, .inr 0], 2, 2), (8, [.inl 2, .inr 1], 0, 0), (12, [.inl 0, .inl 2, .inl 4], 0, 0), (0, [.inr 11], 1, 0), (10, [.inl 2, .inl 4], 3, 2),
  (8, [.inl 2, .inr 1], 0, 0), (12, [.inl 0, .inl 2, .inl 5], 0, 0), (5, [.inr 20, .inl 2], 0, 1), (1, [.inl 5, .inr 0], 0, 0), (1, [.inr 2, .inl 2], 0, 0), (10, [.inl 6, .inl 7], 0, 2), (8, [.inl 2, .inr 1], 0, 0), (12, [.inl 0, .inl 1, .inl 8], 0, 0), (8, [.inl 2, .inr 1], 0, 0), (12, [.inl 0, .inl 2, .inl 8], 0, 0)]
theorem vc_judge_k : x_chk 129 [(5, [(0, 0), (1, 0), (2, 0)])] vc_judge_T [vc_judge_T0] 600 = true := by decide +kernel
theorem vc_judge {a0 v : Int} {h h' : fH} (hs : fS 129 [a0] h v h') (I0 : Int → Int → Int → fH → Prop) (Q : Int → fH → Prop) (h0 : I0 a0 (-9) 0 h) (k0 : ∀ (x0 x1 x2 : Int) (h : fH), I0 x0 x1 x2 h → ∀ z3 : Int, z3 = h x0 8 → ((z3 ≤ x2 → ∀ h1 : fH, h1 = fu h x0 8 0 → Q x1 h1) ∧ (x2 < z3 → ((x1 ≠ (-9) → ∀ h1 : fH, h1 = fu h x0 8 0 → Q x1 h1) ∧ (x1 = (-9) → ((x2 < 0 → ∀ z4 : Int, z4 = wr (x2 + 1) → I0 x0 x2 z4 h) ∧ (0 ≤ x2 → ∀ z4 : Int, z4 = h 11 1 → ((z4 ≤ x2 → ∀ z5 : Int, z5 = wr (x2 + 1) → I0 x0 x2 z5 h) ∧ (x2 < z4 → ∀ z5 : Int, z5 = 20 + 1 + 1 * x2 → ∀ z6 : Int, z6 = h z5 0 → ∀ z7 : Int, z7 = h 2 x2 → ((z6 = z7 → ∀ z8 : Int, z8 = wr (x2 + 1) → I0 x0 x1 z8 h) ∧ (z6 ≠ z7 → ∀ z8 : Int, z8 = wr (x2 + 1) → I0 x0 x2 z8 h))))))))))) : Q v h' := by
  refine x_mef vc_judge_k hs (fun k l h => match k with
    | 0 => (match l with | [x0, x1, x2] => I0 x0 x1 x2 h | _ => False)
    | _ => False) Q h0 ?_
  intro i Ti hT vals h hi
  match i, hT, hi with
  | 0, hT, hi =>
    cases hT
    match vals, hi with
    | [x0, x1, x2], hi => exact k0 _ _ _ _ hi
    | [], hi => exact False.elim hi
    | [_], hi => exact False.elim hi
    | [_, _], hi => exact False.elim hi
    | _ :: _ :: _ :: _ :: _, hi => exact False.elim hi
  | _ + 1, hT, _ => cases hT
def vc_uponWhat_T : xT := [(10, [.inl 1, .inr 0], 2, 5), (9, [.inr (-1)], 0, 0), (1, [.inr 3, .inl 3], 0, 0), (8, [.inl 4, .inr 1], 0, 0), (3, [.inr 3, .inl 3, .inl 5], 0, 0), (11, [.inr (-1)], 0, 0), (0, [.inr 11], 1, 0), (10, [.inl 1, .inl 3], 3, 5), (9, [.inr (-1)], 0, 0), (1, [.inr 3, .inl 4], 0, 0), (8, [.inl 5, .inr 1], 0, 0), (3, [.inr 3, .inl 4, .inl 6], 0, 0),
  (11, [.inr (-1)], 0, 0), (10, [.inl 2, .inr 0], 2, 5), (9, [.inr (-2)], 0, 0), (1, [.inr 3, .inl 4], 0, 0), (8, [.inl 5, .inr 1], 0, 0), (3, [.inr 3, .inl 4, .inl 6], 0, 0), (11, [.inr (-2)], 0, 0), (10, [.inl 2, .inr 2], 3, 5), (9, [.inr (-2)], 0, 0), (1, [.inr 3, .inl 4], 0, 0), (8, [.inl 5, .inr 1], 0, 0), (3, [.inr 3, .inl 4, .inl 6], 0, 0),
  (11, [.inr (-2)], 0, 0), (13, [.inr 34, .inr 11], 23, 0), (13, [.inr 34, .inl 1], 59, 0), (10, [.inl 5, .inr 0], 3, 2), (1, [.inr 53, .inl 5], 0, 0), (12, [.inl 0, .inl 1, .inl 2, .inl 6, .inr 0, .inr 0], 0, 0), (11, [.inr (-9)], 0, 0)]
def vc_uponWhat_T0 : xT := [(10, [.inl 2, .inr 0], 1, 21), (10, [.inl 5, .inr 2], 3, 1), (11, [.inl 4], 0, 0), (10, [.inl 2, .inr 0], 1, 9), (2, [.inl 3, .inl 5], 3, 0), (13, [.inl 0, .inl 1], 131, 0), (10, [.inl 6, .inr 0], 0, 2), (8, [.inl 5, .inr 1], 0, 0), (12, [.inl 0, .inl 1, .inl 2, .inl 3, .inl 4, .inl 7], 0, 0), (8, [.inr 1, .inl 5], 6, 0), (8, [.inl 4, .inl 7], 4, 0), (8, [.inl 5, .inr 1], 0, 0),
  (12, [.inl 0, .inl 1, .inl 2, .inl 3, .inl 8, .inl 9], 0, 0), (2, [.inl 3, .inl 5], 2, 0), (13, [.inl 0, .inl 1], 131, 0), (10, [.inl 6, .inr 0], 0, 2), (8, [.inl 5, .inr 1], 0, 0), (12, [.inl 0, .inl 1, .inl 2, .inl 3, .inl 4, .inl 7], 0, 0), (8, [.inr 1, .inl 5], 6, 0), (8, [.inl 4, .inl 7], 4, 0), (8, [.inl 5, .inr 1], 0, 0), (12, [.inl 0, .inl 1, .inl 2, .inl 3, .inl 8, .inl 9], 0, 0), (10, [.inl 5, .inr 5], 3, 1), (11, [.inl 4], 0, 0),
  (10, [.inl 2, .inr 0], 1, 9), (2, [.inl 3, .inl 5], 3, 0), (13, [.inl 0, .inl 1], 131, 0), (10, [.inl 6, .inr 0], 0, 2), (8, [.inl 5, .inr 1], 0, 0), (12, [.inl 0, .inl 1, .inl 2, .inl 3, .inl 4, .inl 7], 0, 0), (8, [.inr 1, .inl 5], 6, 0), (8, [.inl 4, .inl 7], 4, 0), (8, [.inl 5, .inr 1], 0, 0), (12, [.inl 0, .inl 1, .inl 2, .inl 3, .inl 8, .inl 9], 0, 0), (2, [.inl 3, .inl 5], 2, 0), (13, [.inl 0, .inl 1], 131, 0),
  (10, [.inl 6, .inr 0], 0, 2), (8, [.inl 5, .inr 1], 0, 0), (12, [.inl 0, .inl 1, .inl 2, .inl 3, .inl 4, .inl 7], 0, 0), (8, [.inr 1, .inl 5], 6, 0), (8, [.inl 4, .inl 7], 4, 0), (8, [.inl 5, .inr 1], 0, 0), (12, [.inl 0, .inl 1, .inl 2, .inl 3, .inl 8, .inl 9], 0, 0)]
theorem vc_uponWhat_k : x_chk 130 [(76, [(0, 0), (1, 0), (2, 0), (4, 0), (5, 0), (6, 0)])] vc_uponWhat_T [vc_uponWhat_T0] 600 = true := by decide +kernel
theorem vc_uponWhat {a0 a1 a2 v : Int} {h h' : fH} (hs : fS 130 [a0, a1, a2] h v h') (I0 : Int → Int → Int → Int → Int → Int → fH → Prop) (Q : Int → fH → Prop) (h0 : ((a1 < 0 → ∀ z3 : Int, z3 = wr (-(-1)) → ∀ z4 : Int, z4 = h 3 z3 → ∀ z5 : Int, z5 = wr (z4 + 1) → ∀ h1 : fH, h1 = fu h 3 z3 z5 → Q (-1) h1) ∧ (0 ≤ a1 → ∀ z3 : Int, z3 = h 11 1 → ((z3 ≤ a1 → ∀ z4 : Int, z4 = wr (-(-1)) → ∀ z5 : Int, z5 = h 3 z4 → ∀ z6 : Int, z6 = wr (z5 + 1) → ∀ h1 : fH, h1 = fu h 3 z4 z6 → Q (-1) h1) ∧ (a1 < z3 → ((a2 < 0 → ∀ z4 : Int, z4 = wr (-(-2)) → ∀ z5 : Int, z5 = h 3 z4 → ∀ z6 : Int, z6 = wr (z5 + 1) → ∀ h1 : fH, h1 = fu h 3 z4 z6 → Q (-2) h1) ∧ (0 ≤ a2 → ((2 ≤ a2 → ∀ z4 : Int, z4 = wr (-(-2)) → ∀ z5 : Int, z5 = h 3 z4 → ∀ z6 : Int, z6 = wr (z5 + 1) → ∀ h1 : fH, h1 = fu h 3 z4 z6 → Q (-2) h1) ∧ (a2 < 2 → ∀ (v1 : Int) (h1 : fH), fS 23 [34, 11] h v1 h1 → ∀ (v2 : Int) (h2 : fH), fS 59 [34, a1] h1 v2 h2 → ((0 ≤ v2 → ∀ z6 : Int, z6 = h2 53 v2 → I0 a0 a1 a2 z6 0 0 h2) ∧ (v2 < 0 → Q (-9) h2))))))))))) (k0 : ∀ (x0 x1 x2 x4 x5 x6 : Int) (h : fH), I0 x0 x1 x2 x4 x5 x6 h → ((x2 ≠ 0 → ((2 ≤ x6 → Q x5 h) ∧ (x6 < 2 → ((x2 ≠ 0 → ∀ h1 : fH, h1 = fu h x4 3 x6 → ∀ (v2 : Int) (h2 : fH), fS 131 [x0, x1] h1 v2 h2 → ((v2 = 0 → ∀ z7 : Int, z7 = wr (x6 + 1) → I0 x0 x1 x2 x4 x5 z7 h2) ∧ (v2 ≠ 0 → ∀ z7 : Int, z7 = xshl 1 x6 → ∀ z8 : Int, z8 = xor' x5 z7 → ∀ z9 : Int, z9 = wr (x6 + 1) → I0 x0 x1 x2 x4 z8 z9 h2))) ∧ (x2 = 0 → ∀ h1 : fH, h1 = fu h x4 2 x6 → ∀ (v2 : Int) (h2 : fH), fS 131 [x0, x1] h1 v2 h2 → ((v2 = 0 → ∀ z7 : Int, z7 = wr (x6 + 1) → I0 x0 x1 x2 x4 x5 z7 h2) ∧ (v2 ≠ 0 → ∀ z7 : Int, z7 = xshl 1 x6 → ∀ z8 : Int, z8 = xor' x5 z7 → ∀ z9 : Int, z9 = wr (x6 + 1) → I0 x0 x1 x2 x4 z8 z9 h2))))))) ∧ (x2 = 0 → ((5 ≤ x6 → Q x5 h) ∧ (x6 < 5 → ((x2 ≠ 0 → ∀ h1 : fH, h1 = fu h x4 3 x6 → ∀ (v2 : Int) (h2 : fH), fS 131 [x0, x1] h1 v2 h2 → ((v2 = 0 → ∀ z7 : Int, z7 = wr (x6 + 1) → I0 x0 x1 x2 x4 x5 z7 h2) ∧ (v2 ≠ 0 → ∀ z7 : Int, z7 = xshl 1 x6 → ∀ z8 : Int, z8 = xor' x5 z7 → ∀ z9 : Int, z9 = wr (x6 + 1) → I0 x0 x1 x2 x4 z8 z9 h2))) ∧ (x2 = 0 → ∀ h1 : fH, h1 = fu h x4 2 x6 → ∀ (v2 : Int) (h2 : fH), fS 131 [x0, x1] h1 v2 h2 → ((v2 = 0 → ∀ z7 : Int, z7 = wr (x6 + 1) → I0 x0 x1 x2 x4 x5 z7 h2) ∧ (v2 ≠ 0 → ∀ z7 : Int, z7 = xshl 1 x6 → ∀ z8 : Int, z8 = xor' x5 z7 → ∀ z9 : Int, z9 = wr (x6 + 1) → I0 x0 x1 x2 x4 z8 z9 h2))))))))) : Q v h' := by
  refine x_mef vc_uponWhat_k hs (fun k l h => match k with
    | 0 => (match l with | [x0, x1, x2, x4, x5, x6] => I0 x0 x1 x2 x4 x5 x6 h | _ => False)
    | _ => False) Q h0 ?_
  intro i Ti hT vals h hi
  match i, hT, hi with
  | 0, hT, hi =>
    cases hT
    match vals, hi with
    | [x0, x1, x2, x4, x5, x6], hi => exact k0 _ _ _ _ _ _ _ hi
    | [], hi => exact False.elim hi
    | [_], hi => exact False.elim hi
    | [_, _], hi => exact False.elim hi
    | [_, _, _], hi => exact False.elim hi
    | [_, _, _, _], hi => exact False.elim hi
    | [_, _, _, _, _], hi => exact False.elim hi
    | _ :: _ :: _ :: _ :: _ :: _ :: _ :: _, hi => exact False.elim hi
  | _ + 1, hT, _ => cases hT
def vc_isRowSoInMind_T : xT := [(12, [.inl 0, .inl 1, .inr 0], 0, 0)]
def vc_isRowSoInMind_T0 : xT := [(0, [.inl 0], 8, 0), (10, [.inl 2, .inl 3], 3, 1), (11, [.inr 1], 0, 0), (1, [.inr 2, .inl 2], 0, 0), (13, [.inr 34, .inl 1, .inl 2], 81, 0), (10, [.inl 4, .inl 5], 0, 2), (8, [.inl 2, .inr 1], 0, 0), (12, [.inl 0, .inl 1, .inl 6], 0, 0), (11, [.inr 0], 0, 0)]
theorem vc_isRowSoInMind_k : x_chk 131 [(2, [(0, 0), (1, 0), (2, 0)])] vc_isRowSoInMind_T [vc_isRowSoInMind_T0] 600 = true := by decide +kernel
theorem vc_isRowSoInMind {a0 a1 v : Int} {h h' : fH} (hs : fS 131 [a0, a1] h v h') (I0 : Int → Int → Int → fH → Prop) (Q : Int → fH → Prop) (h0 : I0 a0 a1 0 h) (k0 : ∀ (x0 x1 x2 : Int) (h : fH), I0 x0 x1 x2 h → ∀ z3 : Int, z3 = h x0 8 → ((z3 ≤ x2 → Q 1 h) ∧ (x2 < z3 → ∀ z4 : Int, z4 = h 2 x2 → ∀ (v1 : Int) (h1 : fH), fS 81 [34, x1, x2] h v1 h1 → ((z4 = v1 → ∀ z6 : Int, z6 = wr (x2 + 1) → I0 x0 x1 z6 h1) ∧ (z4 ≠ v1 → Q 0 h1))))) : Q v h' := by
  refine x_mef vc_isRowSoInMind_k hs (fun k l h => match k with
    | 0 => (match l with | [x0, x1, x2] => I0 x0 x1 x2 h | _ => False)
    | _ => False) Q h0 ?_
  intro i Ti hT vals h hi
  match i, hT, hi with
  | 0, hT, hi =>
    cases hT
    match vals, hi with
    | [x0, x1, x2], hi => exact k0 _ _ _ _ hi
    | [], hi => exact False.elim hi
    | [_], hi => exact False.elim hi
    | [_, _], hi => exact False.elim hi
    | _ :: _ :: _ :: _ :: _, hi => exact False.elim hi
  | _ + 1, hT, _ => cases hT
def vc_whatKind_T : xT := [(10, [.inl 1, .inr 0], 2, 5), (9, [.inr (-1)], 0, 0), (1, [.inr 3, .inl 3], 0, 0), (8, [.inl 4, .inr 1], 0, 0), (3, [.inr 3, .inl 3, .inl 5], 0, 0), (11, [.inr (-1)], 0, 0), (0, [.inr 11], 1, 0), (10, [.inl 1, .inl 3], 3, 5), (9, [.inr (-1)], 0, 0), (1, [.inr 3, .inl 4], 0, 0), (8, [.inl 5, .inr 1], 0, 0), (3, [.inr 3, .inl 4, .inl 6], 0, 0),
  (11, [.inr (-1)], 0, 0), (10, [.inl 2, .inr 0], 2, 5), (9, [.inr (-2)], 0, 0), (1, [.inr 3, .inl 4], 0, 0), (8, [.inl 5, .inr 1], 0, 0), (3, [.inr 3, .inl 4, .inl 6], 0, 0), (11, [.inr (-2)], 0, 0), (10, [.inl 2, .inr 2], 3, 5), (9, [.inr (-2)], 0, 0), (1, [.inr 3, .inl 4], 0, 0), (8, [.inl 5, .inr 1], 0, 0), (3, [.inr 3, .inl 4, .inl 6], 0, 0),
  (11, [.inr (-2)], 0, 0), (13, [.inr 34, .inr 11], 23, 0), (12, [.inl 0, .inl 1, .inl 2, .inr 0, .inr 0], 0, 0)]
def vc_whatKind_T0 : xT := [(10, [.inl 2, .inr 0], 1, 23), (10, [.inl 4, .inr 10], 3, 1), (11, [.inl 3], 0, 0), (10, [.inl 2, .inr 0], 1, 10), (1, [.inr 12, .inl 1], 0, 0), (13, [.inr 34, .inl 1, .inl 5, .inl 4], 29, 0), (13, [.inl 0, .inl 1], 131, 0), (10, [.inl 7, .inr 0], 0, 2), (8, [.inl 4, .inr 1], 0, 0), (12, [.inl 0, .inl 1, .inl 2, .inl 3, .inl 8], 0, 0), (8, [.inr 1, .inl 4], 6, 0), (8, [.inl 3, .inl 8], 4, 0),
  (8, [.inl 4, .inr 1], 0, 0), (12, [.inl 0, .inl 1, .inl 2, .inl 9, .inl 10], 0, 0), (1, [.inr 13, .inl 1], 0, 0), (13, [.inr 34, .inl 1, .inl 4, .inl 5], 29, 0), (13, [.inl 0, .inl 1], 131, 0), (10, [.inl 7, .inr 0], 0, 2), (8, [.inl 4, .inr 1], 0, 0), (12, [.inl 0, .inl 1, .inl 2, .inl 3, .inl 8], 0, 0), (8, [.inr 1, .inl 4], 6, 0), (8, [.inl 3, .inl 8], 4, 0), (8, [.inl 4, .inr 1], 0, 0), (12, [.inl 0, .inl 1, .inl 2, .inl 9, .inl 10], 0, 0),
  (6, [.inr 4], 0, 0), (10, [.inl 4, .inl 5], 3, 1), (11, [.inl 3], 0, 0), (10, [.inl 2, .inr 0], 1, 10), (1, [.inr 12, .inl 1], 0, 0), (13, [.inr 34, .inl 1, .inl 6, .inl 4], 29, 0), (13, [.inl 0, .inl 1], 131, 0), (10, [.inl 8, .inr 0], 0, 2), (8, [.inl 4, .inr 1], 0, 0), (12, [.inl 0, .inl 1, .inl 2, .inl 3, .inl 9], 0, 0), (8, [.inr 1, .inl 4], 6, 0), (8, [.inl 3, .inl 9], 4, 0),
  (8, [.inl 4, .inr 1], 0, 0), (12, [.inl 0, .inl 1, .inl 2, .inl 10, .inl 11], 0, 0), (1, [.inr 13, .inl 1], 0, 0), (13, [.inr 34, .inl 1, .inl 4, .inl 6], 29, 0), (13, [.inl 0, .inl 1], 131, 0), (10, [.inl 8, .inr 0], 0, 2), (8, [.inl 4, .inr 1], 0, 0), (12, [.inl 0, .inl 1, .inl 2, .inl 3, .inl 9], 0, 0), (8, [.inr 1, .inl 4], 6, 0), (8, [.inl 3, .inl 9], 4, 0), (8, [.inl 4, .inr 1], 0, 0), (12, [.inl 0, .inl 1, .inl 2, .inl 10, .inl 11], 0, 0)]
theorem vc_whatKind_k : x_chk 132 [(48, [(0, 0), (1, 0), (2, 0), (3, 0), (4, 0)])] vc_whatKind_T [vc_whatKind_T0] 600 = true := by decide +kernel
theorem vc_whatKind {a0 a1 a2 v : Int} {h h' : fH} (hs : fS 132 [a0, a1, a2] h v h') (I0 : Int → Int → Int → Int → Int → fH → Prop) (Q : Int → fH → Prop) (h0 : ((a1 < 0 → ∀ z3 : Int, z3 = wr (-(-1)) → ∀ z4 : Int, z4 = h 3 z3 → ∀ z5 : Int, z5 = wr (z4 + 1) → ∀ h1 : fH, h1 = fu h 3 z3 z5 → Q (-1) h1) ∧ (0 ≤ a1 → ∀ z3 : Int, z3 = h 11 1 → ((z3 ≤ a1 → ∀ z4 : Int, z4 = wr (-(-1)) → ∀ z5 : Int, z5 = h 3 z4 → ∀ z6 : Int, z6 = wr (z5 + 1) → ∀ h1 : fH, h1 = fu h 3 z4 z6 → Q (-1) h1) ∧ (a1 < z3 → ((a2 < 0 → ∀ z4 : Int, z4 = wr (-(-2)) → ∀ z5 : Int, z5 = h 3 z4 → ∀ z6 : Int, z6 = wr (z5 + 1) → ∀ h1 : fH, h1 = fu h 3 z4 z6 → Q (-2) h1) ∧ (0 ≤ a2 → ((2 ≤ a2 → ∀ z4 : Int, z4 = wr (-(-2)) → ∀ z5 : Int, z5 = h 3 z4 → ∀ z6 : Int, z6 = wr (z5 + 1) → ∀ h1 : fH, h1 = fu h 3 z4 z6 → Q (-2) h1) ∧ (a2 < 2 → ∀ (v1 : Int) (h1 : fH), fS 23 [34, 11] h v1 h1 → I0 a0 a1 a2 0 0 h1))))))))) (k0 : ∀ (x0 x1 x2 x3 x4 : Int) (h : fH), I0 x0 x1 x2 x3 x4 h → ((x2 ≠ 0 → ((10 ≤ x4 → Q x3 h) ∧ (x4 < 10 → ((x2 ≠ 0 → ∀ z5 : Int, z5 = h 12 x1 → ∀ (v1 : Int) (h1 : fH), fS 29 [34, x1, z5, x4] h v1 h1 → ∀ (v2 : Int) (h2 : fH), fS 131 [x0, x1] h1 v2 h2 → ((v2 = 0 → ∀ z8 : Int, z8 = wr (x4 + 1) → I0 x0 x1 x2 x3 z8 h2) ∧ (v2 ≠ 0 → ∀ z8 : Int, z8 = xshl 1 x4 → ∀ z9 : Int, z9 = xor' x3 z8 → ∀ z10 : Int, z10 = wr (x4 + 1) → I0 x0 x1 x2 z9 z10 h2))) ∧ (x2 = 0 → ∀ z5 : Int, z5 = h 13 x1 → ∀ (v1 : Int) (h1 : fH), fS 29 [34, x1, x4, z5] h v1 h1 → ∀ (v2 : Int) (h2 : fH), fS 131 [x0, x1] h1 v2 h2 → ((v2 = 0 → ∀ z8 : Int, z8 = wr (x4 + 1) → I0 x0 x1 x2 x3 z8 h2) ∧ (v2 ≠ 0 → ∀ z8 : Int, z8 = xshl 1 x4 → ∀ z9 : Int, z9 = xor' x3 z8 → ∀ z10 : Int, z10 = wr (x4 + 1) → I0 x0 x1 x2 z9 z10 h2))))))) ∧ (x2 = 0 → ∀ z5 : Int, z5 = f_len 4 → ((z5 ≤ x4 → Q x3 h) ∧ (x4 < z5 → ((x2 ≠ 0 → ∀ z6 : Int, z6 = h 12 x1 → ∀ (v1 : Int) (h1 : fH), fS 29 [34, x1, z6, x4] h v1 h1 → ∀ (v2 : Int) (h2 : fH), fS 131 [x0, x1] h1 v2 h2 → ((v2 = 0 → ∀ z9 : Int, z9 = wr (x4 + 1) → I0 x0 x1 x2 x3 z9 h2) ∧ (v2 ≠ 0 → ∀ z9 : Int, z9 = xshl 1 x4 → ∀ z10 : Int, z10 = xor' x3 z9 → ∀ z11 : Int, z11 = wr (x4 + 1) → I0 x0 x1 x2 z10 z11 h2))) ∧ (x2 = 0 → ∀ z6 : Int, z6 = h 13 x1 → ∀ (v1 : Int) (h1 : fH), fS 29 [34, x1, x4, z6] h v1 h1 → ∀ (v2 : Int) (h2 : fH), fS 131 [x0, x1] h1 v2 h2 → ((v2 = 0 → ∀ z9 : Int, z9 = wr (x4 + 1) → I0 x0 x1 x2 x3 z9 h2) ∧ (v2 ≠ 0 → ∀ z9 : Int, z9 = xshl 1 x4 → ∀ z10 : Int, z10 = xor' x3 z9 → ∀ z11 : Int, z11 = wr (x4 + 1) → I0 x0 x1 x2 z10 z11 h2))))))))) : Q v h' := by
  refine x_mef vc_whatKind_k hs (fun k l h => match k with
    | 0 => (match l with | [x0, x1, x2, x3, x4] => I0 x0 x1 x2 x3 x4 h | _ => False)
    | _ => False) Q h0 ?_
  intro i Ti hT vals h hi
  match i, hT, hi with
  | 0, hT, hi =>
    cases hT
    match vals, hi with
    | [x0, x1, x2, x3, x4], hi => exact k0 _ _ _ _ _ _ hi
    | [], hi => exact False.elim hi
    | [_], hi => exact False.elim hi
    | [_, _], hi => exact False.elim hi
    | [_, _, _], hi => exact False.elim hi
    | [_, _, _, _], hi => exact False.elim hi
    | _ :: _ :: _ :: _ :: _ :: _ :: _, hi => exact False.elim hi
  | _ + 1, hT, _ => cases hT
def vc_sure_T : xT := [(10, [.inl 1, .inr 0], 2, 6), (9, [.inr (-1)], 0, 0), (1, [.inr 3, .inl 5], 0, 0), (8, [.inl 6, .inr 1], 0, 0), (3, [.inr 3, .inl 5, .inl 7], 0, 0), (8, [.inr 4000000000000000000, .inr (-1)], 14, 0), (11, [.inl 8], 0, 0), (0, [.inr 11], 1, 0), (10, [.inl 1, .inl 5], 3, 6), (9, [.inr (-1)], 0, 0), (1, [.inr 3, .inl 6], 0, 0), (8, [.inl 7, .inr 1], 0, 0),
  (3, [.inr 3, .inl 6, .inl 8], 0, 0), (8, [.inr 4000000000000000000, .inr (-1)], 14, 0), (11, [.inl 9], 0, 0), (10, [.inl 2, .inr 0], 2, 6), (9, [.inr (-4)], 0, 0), (1, [.inr 3, .inl 6], 0, 0), (8, [.inl 7, .inr 1], 0, 0), (3, [.inr 3, .inl 6, .inl 8], 0, 0), (8, [.inr 4000000000000000000, .inr (-4)], 14, 0), (11, [.inl 9], 0, 0), (10, [.inl 3, .inr 2], 3, 72), (10, [.inl 2, .inr 7], 4, 6),
  (9, [.inr (-6)], 0, 0), (1, [.inr 3, .inl 6], 0, 0), (8, [.inl 7, .inr 1], 0, 0), (3, [.inr 3, .inl 6, .inl 8], 0, 0), (8, [.inr 4000000000000000000, .inr (-6)], 14, 0), (11, [.inl 9], 0, 0), (10, [.inl 3, .inr 20], 5, 58), (10, [.inl 4, .inr 0], 2, 6), (9, [.inr (-2)], 0, 0), (1, [.inr 3, .inl 6], 0, 0), (8, [.inl 7, .inr 1], 0, 0), (3, [.inr 3, .inl 6, .inl 8], 0, 0),
  (8, [.inr 4000000000000000000, .inr (-2)], 14, 0), (11, [.inl 9], 0, 0), (10, [.inl 4, .inr 2], 3, 6), (9, [.inr (-2)], 0, 0), (1, [.inr 3, .inl 6], 0, 0), (8, [.inl 7, .inr 1], 0, 0), (3, [.inr 3, .inl 6, .inl 8], 0, 0), (8, [.inr 4000000000000000000, .inr (-2)], 14, 0), (11, [.inl 9], 0, 0), (1, [.inr 19, .inl 1], 0, 0), (10, [.inl 6, .inr (-9)], 0, 21), (13, [.inr 11, .inl 1], 59, 0),
  (10, [.inl 7, .inr 0], 2, 3), (10, [.inl 4, .inr 0], 1, 1), (11, [.inr 1], 0, 0), (11, [.inr 0], 0, 0), (1, [.inr 30, .inl 7], 0, 0), (0, [.inl 8], 4, 0), (10, [.inl 9, .inl 2], 4, 3), (10, [.inl 4, .inr 0], 1, 1), (11, [.inr 1], 0, 0), (11, [.inr 0], 0, 0), (1, [.inr 30, .inl 7], 0, 0), (0, [.inl 10], 3, 0),
  (10, [.inl 11, .inr 1], 1, 3), (10, [.inl 4, .inr 0], 1, 1), (11, [.inl 3], 0, 0), (11, [.inr 1], 0, 0), (8, [.inl 3, .inr 1], 1, 0), (10, [.inl 4, .inr 0], 1, 1), (11, [.inl 3], 0, 0), (11, [.inl 12], 0, 0), (13, [.inr 11, .inl 1], 59, 0), (10, [.inl 7, .inr 0], 2, 3), (10, [.inl 4, .inr 0], 1, 1), (11, [.inr 1], 0, 0),
  (11, [.inr 1], 0, 0), (1, [.inr 30, .inl 7], 0, 0), (0, [.inl 8], 4, 0), (10, [.inl 9, .inl 2], 4, 3), (10, [.inl 4, .inr 0], 1, 1), (11, [.inr 1], 0, 0), (11, [.inr 1], 0, 0), (1, [.inr 30, .inl 7], 0, 0), (0, [.inl 10], 3, 0), (10, [.inl 11, .inr 1], 1, 3), (10, [.inl 4, .inr 0], 1, 1), (11, [.inl 3], 0, 0),
  (11, [.inr 1], 0, 0), (8, [.inl 3, .inr 1], 1, 0), (10, [.inl 4, .inr 0], 1, 1), (11, [.inl 3], 0, 0), (11, [.inl 12], 0, 0), (9, [.inr (-6)], 0, 0), (1, [.inr 3, .inl 6], 0, 0), (8, [.inl 7, .inr 1], 0, 0), (3, [.inr 3, .inl 6, .inl 8], 0, 0), (8, [.inr 4000000000000000000, .inr (-6)], 14, 0), (11, [.inl 9], 0, 0), (9, [.inr (-4)], 0, 0),
  (1, [.inr 3, .inl 6], 0, 0), (8, [.inl 7, .inr 1], 0, 0), (3, [.inr 3, .inl 6, .inl 8], 0, 0), (8, [.inr 4000000000000000000, .inr (-4)], 14, 0), (11, [.inl 9], 0, 0)]
theorem vc_sure_k : x_chk 133 [] vc_sure_T [] 600 = true := by decide +kernel
theorem vc_sure {a0 a1 a2 a3 a4 v : Int} {h h' : fH} (hs : fS 133 [a0, a1, a2, a3, a4] h v h') (Q : Int → fH → Prop) (h0 : ((a1 < 0 → ∀ z5 : Int, z5 = wr (-(-1)) → ∀ z6 : Int, z6 = h 3 z5 → ∀ z7 : Int, z7 = wr (z6 + 1) → ∀ h1 : fH, h1 = fu h 3 z5 z7 → ∀ z8 : Int, z8 = wl (4000000000000000000 - (-1)) → Q z8 h1) ∧ (0 ≤ a1 → ∀ z5 : Int, z5 = h 11 1 → ((z5 ≤ a1 → ∀ z6 : Int, z6 = wr (-(-1)) → ∀ z7 : Int, z7 = h 3 z6 → ∀ z8 : Int, z8 = wr (z7 + 1) → ∀ h1 : fH, h1 = fu h 3 z6 z8 → ∀ z9 : Int, z9 = wl (4000000000000000000 - (-1)) → Q z9 h1) ∧ (a1 < z5 → ((a2 < 0 → ∀ z6 : Int, z6 = wr (-(-4)) → ∀ z7 : Int, z7 = h 3 z6 → ∀ z8 : Int, z8 = wr (z7 + 1) → ∀ h1 : fH, h1 = fu h 3 z6 z8 → ∀ z9 : Int, z9 = wl (4000000000000000000 - (-4)) → Q z9 h1) ∧ (0 ≤ a2 → ((2 ≤ a3 → ((7 < a2 → ∀ z6 : Int, z6 = wr (-(-6)) → ∀ z7 : Int, z7 = h 3 z6 → ∀ z8 : Int, z8 = wr (z7 + 1) → ∀ h1 : fH, h1 = fu h 3 z6 z8 → ∀ z9 : Int, z9 = wl (4000000000000000000 - (-6)) → Q z9 h1) ∧ (a2 ≤ 7 → ((a3 ≤ 20 → ((a4 < 0 → ∀ z6 : Int, z6 = wr (-(-2)) → ∀ z7 : Int, z7 = h 3 z6 → ∀ z8 : Int, z8 = wr (z7 + 1) → ∀ h1 : fH, h1 = fu h 3 z6 z8 → ∀ z9 : Int, z9 = wl (4000000000000000000 - (-2)) → Q z9 h1) ∧ (0 ≤ a4 → ((2 ≤ a4 → ∀ z6 : Int, z6 = wr (-(-2)) → ∀ z7 : Int, z7 = h 3 z6 → ∀ z8 : Int, z8 = wr (z7 + 1) → ∀ h1 : fH, h1 = fu h 3 z6 z8 → ∀ z9 : Int, z9 = wl (4000000000000000000 - (-2)) → Q z9 h1) ∧ (a4 < 2 → ∀ z6 : Int, z6 = h 19 a1 → ((z6 = (-9) → ∀ (v1 : Int) (h1 : fH), fS 59 [11, a1] h v1 h1 → ((v1 < 0 → ((a4 ≠ 0 → Q 1 h1) ∧ (a4 = 0 → Q 0 h1))) ∧ (0 ≤ v1 → ∀ z8 : Int, z8 = h1 30 v1 → ∀ z9 : Int, z9 = h1 z8 4 → ((a2 < z9 → ((a4 ≠ 0 → Q 1 h1) ∧ (a4 = 0 → Q 0 h1))) ∧ (z9 ≤ a2 → ∀ z10 : Int, z10 = h1 30 v1 → ∀ z11 : Int, z11 = h1 z10 3 → ((z11 ≠ 1 → ((a4 ≠ 0 → Q a3 h1) ∧ (a4 = 0 → Q 1 h1))) ∧ (z11 = 1 → ∀ z12 : Int, z12 = wr (a3 - 1) → ((a4 ≠ 0 → Q a3 h1) ∧ (a4 = 0 → Q z12 h1))))))))) ∧ (z6 ≠ (-9) → ∀ (v1 : Int) (h1 : fH), fS 59 [11, a1] h v1 h1 → ((v1 < 0 → ((a4 ≠ 0 → Q 1 h1) ∧ (a4 = 0 → Q 1 h1))) ∧ (0 ≤ v1 → ∀ z8 : Int, z8 = h1 30 v1 → ∀ z9 : Int, z9 = h1 z8 4 → ((a2 < z9 → ((a4 ≠ 0 → Q 1 h1) ∧ (a4 = 0 → Q 1 h1))) ∧ (z9 ≤ a2 → ∀ z10 : Int, z10 = h1 30 v1 → ∀ z11 : Int, z11 = h1 z10 3 → ((z11 ≠ 1 → ((a4 ≠ 0 → Q a3 h1) ∧ (a4 = 0 → Q 1 h1))) ∧ (z11 = 1 → ∀ z12 : Int, z12 = wr (a3 - 1) → ((a4 ≠ 0 → Q a3 h1) ∧ (a4 = 0 → Q z12 h1))))))))))))))) ∧ (20 < a3 → ∀ z6 : Int, z6 = wr (-(-6)) → ∀ z7 : Int, z7 = h 3 z6 → ∀ z8 : Int, z8 = wr (z7 + 1) → ∀ h1 : fH, h1 = fu h 3 z6 z8 → ∀ z9 : Int, z9 = wl (4000000000000000000 - (-6)) → Q z9 h1))))) ∧ (a3 < 2 → ∀ z6 : Int, z6 = wr (-(-4)) → ∀ z7 : Int, z7 = h 3 z6 → ∀ z8 : Int, z8 = wr (z7 + 1) → ∀ h1 : fH, h1 = fu h 3 z6 z8 → ∀ z9 : Int, z9 = wl (4000000000000000000 - (-4)) → Q z9 h1))))))))) : Q v h' := by
  exact x_mef vc_sure_k hs (fun _ _ _ => False) Q h0 (fun i Ti hT => by cases hT)
def vc_mean_T : xT := [(10, [.inl 1, .inr 0], 2, 6), (9, [.inr (-1)], 0, 0), (1, [.inr 3, .inl 3], 0, 0), (8, [.inl 4, .inr 1], 0, 0), (3, [.inr 3, .inl 3, .inl 5], 0, 0), (8, [.inr 4000000000000000000, .inr (-1)], 14, 0), (11, [.inl 6], 0, 0), (10, [.inl 1, .inr 5], 3, 6), (9, [.inr (-1)], 0, 0), (1, [.inr 3, .inl 3], 0, 0), (8, [.inl 4, .inr 1], 0, 0), (3, [.inr 3, .inl 3, .inl 5], 0, 0),
  (8, [.inr 4000000000000000000, .inr (-1)], 14, 0), (11, [.inl 6], 0, 0), (10, [.inl 2, .inr 0], 2, 6), (9, [.inr (-2)], 0, 0), (1, [.inr 3, .inl 3], 0, 0), (8, [.inl 4, .inr 1], 0, 0), (3, [.inr 3, .inl 3, .inl 5], 0, 0), (8, [.inr 4000000000000000000, .inr (-2)], 14, 0), (11, [.inl 6], 0, 0), (10, [.inl 2, .inr 2], 3, 6), (9, [.inr (-2)], 0, 0), (1, [.inr 3, .inl 3], 0, 0),
  (8, [.inl 4, .inr 1], 0, 0), (3, [.inr 3, .inl 3, .inl 5], 0, 0), (8, [.inr 4000000000000000000, .inr (-2)], 14, 0), (11, [.inl 6], 0, 0), (0, [.inr 11], 1, 0), (10, [.inl 3, .inr 0], 1, 1), (12, [.inl 0, .inl 1, .inl 2, .inr 0, .inr 0], 0, 0), (11, [.inl 2], 0, 0)]
def vc_mean_T0 : xT := [(0, [.inr 11], 1, 0), (10, [.inl 4, .inl 5], 3, 1), (12, [.inl 0, .inl 2, .inl 3, .inr 1, .inr 2], 1, 0), (5, [.inr 20, .inl 4], 0, 1), (1, [.inl 6, .inl 1], 0, 0), (8, [.inl 3, .inl 7], 0, 0), (8, [.inl 4, .inr 1], 0, 0), (12, [.inl 0, .inl 1, .inl 2, .inl 8, .inl 9], 0, 0)]
def vc_mean_T1 : xT := [(0, [.inr 11], 1, 0), (10, [.inl 4, .inl 5], 4, 6), (10, [.inl 1, .inr 0], 1, 3), (0, [.inr 11], 1, 0), (8, [.inl 6, .inl 3], 9, 0), (11, [.inl 7], 0, 0), (8, [.inl 2, .inl 3], 9, 0), (11, [.inl 6], 0, 0), (8, [.inl 2, .inl 4], 10, 0), (10, [.inl 6, .inr 0], 1, 2), (8, [.inl 4, .inr 1], 0, 0), (12, [.inl 0, .inl 1, .inl 2, .inl 3, .inl 7], 1, 0),
  (0, [.inr 11], 1, 0), (8, [.inl 7, .inl 4], 10, 0), (10, [.inl 8, .inr 0], 1, 2), (8, [.inl 4, .inr 1], 0, 0), (12, [.inl 0, .inl 1, .inl 2, .inl 3, .inl 9], 1, 0), (8, [.inl 4, .inr 1], 0, 0), (12, [.inl 0, .inl 1, .inl 2, .inl 4, .inl 9], 1, 0)]
theorem vc_mean_k : x_chk 135 [(46, [(0, 0), (1, 0), (2, 0), (3, 0), (4, 0)]), (85, [(0, 0), (2, 0), (3, 0), (4, 0), (5, 0)])] vc_mean_T [vc_mean_T0, vc_mean_T1] 600 = true := by decide +kernel
theorem vc_mean {a0 a1 a2 v : Int} {h h' : fH} (hs : fS 135 [a0, a1, a2] h v h') (I0 : Int → Int → Int → Int → Int → fH → Prop) (I1 : Int → Int → Int → Int → Int → fH → Prop) (Q : Int → fH → Prop) (h0 : ((a1 < 0 → ∀ z3 : Int, z3 = wr (-(-1)) → ∀ z4 : Int, z4 = h 3 z3 → ∀ z5 : Int, z5 = wr (z4 + 1) → ∀ h1 : fH, h1 = fu h 3 z3 z5 → ∀ z6 : Int, z6 = wl (4000000000000000000 - (-1)) → Q z6 h1) ∧ (0 ≤ a1 → ((5 ≤ a1 → ∀ z3 : Int, z3 = wr (-(-1)) → ∀ z4 : Int, z4 = h 3 z3 → ∀ z5 : Int, z5 = wr (z4 + 1) → ∀ h1 : fH, h1 = fu h 3 z3 z5 → ∀ z6 : Int, z6 = wl (4000000000000000000 - (-1)) → Q z6 h1) ∧ (a1 < 5 → ((a2 < 0 → ∀ z3 : Int, z3 = wr (-(-2)) → ∀ z4 : Int, z4 = h 3 z3 → ∀ z5 : Int, z5 = wr (z4 + 1) → ∀ h1 : fH, h1 = fu h 3 z3 z5 → ∀ z6 : Int, z6 = wl (4000000000000000000 - (-2)) → Q z6 h1) ∧ (0 ≤ a2 → ((2 ≤ a2 → ∀ z3 : Int, z3 = wr (-(-2)) → ∀ z4 : Int, z4 = h 3 z3 → ∀ z5 : Int, z5 = wr (z4 + 1) → ∀ h1 : fH, h1 = fu h 3 z3 z5 → ∀ z6 : Int, z6 = wl (4000000000000000000 - (-2)) → Q z6 h1) ∧ (a2 < 2 → ∀ z3 : Int, z3 = h 11 1 → ((z3 ≠ 0 → I0 a0 a1 a2 0 0 h) ∧ (z3 = 0 → Q a2 h))))))))))) (k0 : ∀ (x0 x1 x2 x3 x4 : Int) (h : fH), I0 x0 x1 x2 x3 x4 h → ∀ z5 : Int, z5 = h 11 1 → ((z5 ≤ x4 → I1 x0 x2 x3 1 2 h) ∧ (x4 < z5 → ∀ z6 : Int, z6 = 20 + 1 + 1 * x4 → ∀ z7 : Int, z7 = h z6 x1 → ∀ z8 : Int, z8 = wr (x3 + z7) → ∀ z9 : Int, z9 = wr (x4 + 1) → I0 x0 x1 x2 z8 z9 h))) (k1 : ∀ (x0 x2 x3 x4 x5 : Int) (h : fH), I1 x0 x2 x3 x4 x5 h → ∀ z5 : Int, z5 = h 11 1 → ((z5 < x5 → ((x2 ≠ 0 → ∀ z6 : Int, z6 = h 11 1 → ∀ z7 : Int, z7 = xdiv z6 x4 → Q z7 h) ∧ (x2 = 0 → ∀ z6 : Int, z6 = xdiv x3 x4 → Q z6 h))) ∧ (x5 ≤ z5 → ∀ z6 : Int, z6 = xrem x3 x5 → ((z6 ≠ 0 → ∀ z7 : Int, z7 = wr (x5 + 1) → I1 x0 x2 x3 x4 z7 h) ∧ (z6 = 0 → ∀ z7 : Int, z7 = h 11 1 → ∀ z8 : Int, z8 = xrem z7 x5 → ((z8 ≠ 0 → ∀ z9 : Int, z9 = wr (x5 + 1) → I1 x0 x2 x3 x4 z9 h) ∧ (z8 = 0 → ∀ z9 : Int, z9 = wr (x5 + 1) → I1 x0 x2 x3 x5 z9 h))))))) : Q v h' := by
  refine x_mef vc_mean_k hs (fun k l h => match k with
    | 0 => (match l with | [x0, x1, x2, x3, x4] => I0 x0 x1 x2 x3 x4 h | _ => False)
    | 1 => (match l with | [x0, x2, x3, x4, x5] => I1 x0 x2 x3 x4 x5 h | _ => False)
    | _ => False) Q h0 ?_
  intro i Ti hT vals h hi
  match i, hT, hi with
  | 0, hT, hi =>
    cases hT
    match vals, hi with
    | [x0, x1, x2, x3, x4], hi => exact k0 _ _ _ _ _ _ hi
    | [], hi => exact False.elim hi
    | [_], hi => exact False.elim hi
    | [_, _], hi => exact False.elim hi
    | [_, _, _], hi => exact False.elim hi
    | [_, _, _, _], hi => exact False.elim hi
    | _ :: _ :: _ :: _ :: _ :: _ :: _, hi => exact False.elim hi
  | 1, hT, hi =>
    cases hT
    match vals, hi with
    | [x0, x2, x3, x4, x5], hi => exact k1 _ _ _ _ _ _ hi
    | [], hi => exact False.elim hi
    | [_], hi => exact False.elim hi
    | [_, _], hi => exact False.elim hi
    | [_, _, _], hi => exact False.elim hi
    | [_, _, _, _], hi => exact False.elim hi
    | _ :: _ :: _ :: _ :: _ :: _ :: _, hi => exact False.elim hi
  | _ + 2, hT, _ => cases hT
