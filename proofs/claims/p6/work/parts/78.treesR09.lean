/-! the trees of the methods (made by a program) -/
def vr_partOf_T : xT := [(8, [.inl 0, .inr 0], 18, 0), (10, [.inl 3, .inr 0], 1, 6), (13, [.inl 0, .inl 1], 232, 0), (10, [.inl 2, .inr 0], 1, 2), (8, [.inl 1, .inl 4], 16, 0), (11, [.inl 5], 0, 0), (8, [.inl 0, .inl 4], 16, 0), (11, [.inl 5], 0, 0), (11, [.inl 2], 0, 0)]
theorem vr_partOf_k : x_chk 231 [] vr_partOf_T [] 600 = true := by decide +kernel
theorem vr_partOf {a0 a1 a2 v : Int} {h h' : fH} (hs : fS 231 [a0, a1, a2] h v h') (Q : Int → fH → Prop) (h0 : ∀ z3 : Int, z3 = xlcmp a0 0 → ((z3 ≠ 0 → ∀ (v1 : Int) (h1 : fH), fS 232 [a0, a1] h v1 h1 → ((a2 ≠ 0 → ∀ z5 : Int, z5 = xldiv a1 v1 → Q z5 h1) ∧ (a2 = 0 → ∀ z5 : Int, z5 = xldiv a0 v1 → Q z5 h1))) ∧ (z3 = 0 → Q a2 h))) : Q v h' := by
  exact x_mef vr_partOf_k hs (fun _ _ _ => False) Q h0 (fun i Ti hT => by cases hT)
def vr_divisor_T : xT := [(12, [.inl 0, .inl 1], 0, 0)]
def vr_divisor_T0 : xT := [(8, [.inl 1, .inr 0], 18, 0), (10, [.inl 2, .inr 0], 0, 1), (11, [.inl 0], 0, 0), (8, [.inl 0, .inl 1], 17, 0), (12, [.inl 1, .inl 3], 0, 0)]
theorem vr_divisor_k : x_chk 232 [(6, [(4, 1), (6, 1)])] vr_divisor_T [vr_divisor_T0] 600 = true := by decide +kernel
theorem vr_divisor {a0 a1 v : Int} {h h' : fH} (hs : fS 232 [a0, a1] h v h') (I0 : Int → Int → fH → Prop) (Q : Int → fH → Prop) (h0 : I0 a0 a1 h) (k0 : ∀ (x4 x6 : Int) (h : fH), I0 x4 x6 h → ∀ z2 : Int, z2 = xlcmp x6 0 → ((z2 = 0 → Q x4 h) ∧ (z2 ≠ 0 → ∀ z3 : Int, z3 = xlrem x4 x6 → I0 x6 z3 h))) : Q v h' := by
  refine x_mef vr_divisor_k hs (fun k l h => match k with
    | 0 => (match l with | [x4, x6] => I0 x4 x6 h | _ => False)
    | _ => False) Q h0 ?_
  intro i Ti hT vals h hi
  match i, hT, hi with
  | 0, hT, hi =>
    cases hT
    match vals, hi with
    | [x4, x6], hi => exact k0 _ _ _ hi
    | [], hi => exact False.elim hi
    | [_], hi => exact False.elim hi
    | _ :: _ :: _ :: _, hi => exact False.elim hi
  | _ + 1, hT, _ => cases hT
def vr_shares_T : xT := [(2, [.inl 0, .inr 0], 16, 0), (10, [.inl 1, .inr 1], 3, 27), (10, [.inl 1, .inr 9], 5, 21), (8, [.inl 2, .inr 0], 18, 0), (10, [.inl 3, .inr 0], 2, 5), (9, [.inr (-2)], 0, 0), (1, [.inr 285, .inl 4], 0, 0), (8, [.inl 5, .inr 1], 0, 0), (3, [.inr 285, .inl 4, .inl 6], 0, 0), (11, [.inr (-2)], 0, 0), (8, [.inl 2, .inr 1], 18, 0), (10, [.inl 4, .inr 0], 4, 5),
  (9, [.inr (-2)], 0, 0), (1, [.inr 285, .inl 5], 0, 0), (8, [.inl 6, .inr 1], 0, 0), (3, [.inr 285, .inl 5, .inl 7], 0, 0), (11, [.inr (-2)], 0, 0), (10, [.inl 2, .inr 0], 1, 3), (13, [.inl 0], 224, 0), (8, [.inl 5, .inl 1], 10, 0), (11, [.inl 6], 0, 0), (13, [.inl 0], 224, 0), (8, [.inl 5, .inl 1], 9, 0), (11, [.inl 6], 0, 0),
  (9, [.inr (-6)], 0, 0), (1, [.inr 285, .inl 3], 0, 0), (8, [.inl 4, .inr 1], 0, 0), (3, [.inr 285, .inl 3, .inl 5], 0, 0), (11, [.inr (-6)], 0, 0), (9, [.inr (-4)], 0, 0), (1, [.inr 285, .inl 3], 0, 0), (8, [.inl 4, .inr 1], 0, 0), (3, [.inr 285, .inl 3, .inl 5], 0, 0), (11, [.inr (-4)], 0, 0)]
theorem vr_shares_k : x_chk 233 [] vr_shares_T [] 600 = true := by decide +kernel
theorem vr_shares {a0 a1 a2 v : Int} {h h' : fH} (hs : fS 233 [a0, a1, a2] h v h') (Q : Int → fH → Prop) (h0 : ∀ h1 : fH, h1 = fu h a0 16 0 → ((1 ≤ a1 → ((a1 ≤ 9 → ∀ z3 : Int, z3 = xlcmp a2 0 → ((z3 < 0 → ∀ z4 : Int, z4 = wr (-(-2)) → ∀ z5 : Int, z5 = h1 285 z4 → ∀ z6 : Int, z6 = wr (z5 + 1) → ∀ h2 : fH, h2 = fu h1 285 z4 z6 → Q (-2) h2) ∧ (0 ≤ z3 → ∀ z4 : Int, z4 = xlcmp a2 1 → ((0 < z4 → ∀ z5 : Int, z5 = wr (-(-2)) → ∀ z6 : Int, z6 = h1 285 z5 → ∀ z7 : Int, z7 = wr (z6 + 1) → ∀ h2 : fH, h2 = fu h1 285 z5 z7 → Q (-2) h2) ∧ (z4 ≤ 0 → ((a2 ≠ 0 → ∀ (v2 : Int) (h2 : fH), fS 224 [a0] h1 v2 h2 → ∀ z6 : Int, z6 = xrem v2 a1 → Q z6 h2) ∧ (a2 = 0 → ∀ (v2 : Int) (h2 : fH), fS 224 [a0] h1 v2 h2 → ∀ z6 : Int, z6 = xdiv v2 a1 → Q z6 h2))))))) ∧ (9 < a1 → ∀ z3 : Int, z3 = wr (-(-6)) → ∀ z4 : Int, z4 = h1 285 z3 → ∀ z5 : Int, z5 = wr (z4 + 1) → ∀ h2 : fH, h2 = fu h1 285 z3 z5 → Q (-6) h2))) ∧ (a1 < 1 → ∀ z3 : Int, z3 = wr (-(-4)) → ∀ z4 : Int, z4 = h1 285 z3 → ∀ z5 : Int, z5 = wr (z4 + 1) → ∀ h2 : fH, h2 = fu h1 285 z3 z5 → Q (-4) h2))) : Q v h' := by
  exact x_mef vr_shares_k hs (fun _ _ _ => False) Q h0 (fun i Ti hT => by cases hT)
def vr_saddest_T : xT := [(2, [.inl 0, .inr 0], 16, 0), (10, [.inl 1, .inr 0], 0, 2), (13, [.inl 0], 235, 0), (11, [.inl 2], 0, 0), (10, [.inl 1, .inr 1], 0, 2), (13, [.inl 0, .inr 0], 236, 0), (11, [.inl 2], 0, 0), (10, [.inl 1, .inr 2], 0, 2), (13, [.inl 0], 238, 0), (11, [.inl 2], 0, 0), (9, [.inr (-2)], 0, 0), (1, [.inr 285, .inl 2], 0, 0),
  (8, [.inl 3, .inr 1], 0, 0), (3, [.inr 285, .inl 2, .inl 4], 0, 0), (11, [.inr (-2)], 0, 0)]
theorem vr_saddest_k : x_chk 234 [] vr_saddest_T [] 600 = true := by decide +kernel
theorem vr_saddest {a0 a1 v : Int} {h h' : fH} (hs : fS 234 [a0, a1] h v h') (Q : Int → fH → Prop) (h0 : ∀ h1 : fH, h1 = fu h a0 16 0 → ((a1 = 0 → ∀ (v2 : Int) (h2 : fH), fS 235 [a0] h1 v2 h2 → Q v2 h2) ∧ (a1 ≠ 0 → ((a1 = 1 → ∀ (v2 : Int) (h2 : fH), fS 236 [a0, 0] h1 v2 h2 → Q v2 h2) ∧ (a1 ≠ 1 → ((a1 = 2 → ∀ (v2 : Int) (h2 : fH), fS 238 [a0] h1 v2 h2 → Q v2 h2) ∧ (a1 ≠ 2 → ∀ z2 : Int, z2 = wr (-(-2)) → ∀ z3 : Int, z3 = h1 285 z2 → ∀ z4 : Int, z4 = wr (z3 + 1) → ∀ h2 : fH, h2 = fu h1 285 z2 z4 → Q (-2) h2))))))) : Q v h' := by
  exact x_mef vr_saddest_k hs (fun _ _ _ => False) Q h0 (fun i Ti hT => by cases hT)
def vr_saddestOne_T : xT := [(12, [.inl 0, .inr (-9), .inr 0], 0, 0)]
def vr_saddestOne_T0 : xT := [(0, [.inl 0], 0, 0), (10, [.inl 2, .inl 3], 3, 1), (11, [.inl 1], 0, 0), (10, [.inl 1, .inr 0], 2, 2), (8, [.inl 2, .inr 1], 0, 0), (12, [.inl 0, .inl 2, .inl 4], 0, 0), (1, [.inr 275, .inl 2], 0, 0), (1, [.inr 275, .inl 1], 0, 0), (10, [.inl 4, .inl 5], 5, 2), (8, [.inl 2, .inr 1], 0, 0), (12, [.inl 0, .inl 1, .inl 6], 0, 0), (8, [.inl 2, .inr 1], 0, 0),
  (12, [.inl 0, .inl 2, .inl 6], 0, 0)]
theorem vr_saddestOne_k : x_chk 235 [(5, [(0, 0), (1, 0), (2, 0)])] vr_saddestOne_T [vr_saddestOne_T0] 600 = true := by decide +kernel
theorem vr_saddestOne {a0 v : Int} {h h' : fH} (hs : fS 235 [a0] h v h') (I0 : Int → Int → Int → fH → Prop) (Q : Int → fH → Prop) (h0 : I0 a0 (-9) 0 h) (k0 : ∀ (x0 x1 x2 : Int) (h : fH), I0 x0 x1 x2 h → ∀ z3 : Int, z3 = h x0 0 → ((z3 ≤ x2 → Q x1 h) ∧ (x2 < z3 → ((x1 < 0 → ∀ z4 : Int, z4 = wr (x2 + 1) → I0 x0 x2 z4 h) ∧ (0 ≤ x1 → ∀ z4 : Int, z4 = h 275 x2 → ∀ z5 : Int, z5 = h 275 x1 → ((z4 ≤ z5 → ∀ z6 : Int, z6 = wr (x2 + 1) → I0 x0 x1 z6 h) ∧ (z5 < z4 → ∀ z6 : Int, z6 = wr (x2 + 1) → I0 x0 x2 z6 h))))))) : Q v h' := by
  refine x_mef vr_saddestOne_k hs (fun k l h => match k with
    | 0 => (match l with | [x0, x1, x2] => I0 x0 x1 x2 h | _ => False)
    | _ => False) Q h0 ?_
  intro i Ti hT vals h hi
  match i, hT, hi with
  | 0, hT, hi =>
    cases hT
    match vals, hi with
    | [x0, x1, x2], hi => exact k0 _ _ _ _ hi
    | [], hi => exact False.elim hi
    | [_], hi => exact False.elim hi
    | [_, _], hi => exact False.elim hi
    | _ :: _ :: _ :: _ :: _, hi => exact False.elim hi
  | _ + 1, hT, _ => cases hT
def vr_twosOf_T : xT := [(12, [.inl 0, .inl 1, .inr 0, .inr 0], 0, 0)]
def vr_twosOf_T0 : xT := [(0, [.inl 0], 0, 0), (10, [.inl 3, .inl 4], 3, 1), (11, [.inl 2], 0, 0), (8, [.inl 3, .inr 1], 0, 0), (12, [.inl 0, .inl 1, .inl 2, .inl 3, .inl 5], 1, 0)]
def vr_twosOf_T1 : xT := [(0, [.inl 0], 0, 0), (10, [.inl 4, .inl 5], 3, 2), (8, [.inl 3, .inr 1], 0, 0), (12, [.inl 0, .inl 1, .inl 2, .inl 6], 0, 0), (1, [.inr 274, .inl 3], 0, 0), (1, [.inr 274, .inl 4], 0, 0), (10, [.inl 6, .inl 7], 1, 27), (10, [.inl 1, .inr 2], 1, 23), (1, [.inr 274, .inl 3], 0, 0), (10, [.inl 8, .inl 4], 1, 3), (8, [.inl 2, .inr 0], 0, 0), (8, [.inl 4, .inr 1], 0, 0),
  (12, [.inl 0, .inl 1, .inl 9, .inl 3, .inl 10], 1, 0), (1, [.inr 274, .inl 4], 0, 0), (10, [.inl 9, .inl 3], 1, 3), (8, [.inl 2, .inr 0], 0, 0), (8, [.inl 4, .inr 1], 0, 0), (12, [.inl 0, .inl 1, .inl 10, .inl 3, .inl 11], 1, 0), (10, [.inl 1, .inr 0], 0, 3), (8, [.inl 2, .inr 1], 0, 0), (8, [.inl 4, .inr 1], 0, 0), (12, [.inl 0, .inl 1, .inl 10, .inl 3, .inl 11], 1, 0), (1, [.inr 276, .inl 3], 0, 0), (8, [.inl 4, .inr 1], 0, 0),
  (10, [.inl 10, .inl 11], 1, 3), (8, [.inl 2, .inr 0], 0, 0), (8, [.inl 4, .inr 1], 0, 0), (12, [.inl 0, .inl 1, .inl 12, .inl 3, .inl 13], 1, 0), (8, [.inl 2, .inr 1], 0, 0), (8, [.inl 4, .inr 1], 0, 0), (12, [.inl 0, .inl 1, .inl 12, .inl 3, .inl 13], 1, 0), (8, [.inl 2, .inr 0], 0, 0), (8, [.inl 4, .inr 1], 0, 0), (12, [.inl 0, .inl 1, .inl 8, .inl 3, .inl 9], 1, 0), (1, [.inr 274, .inl 3], 0, 0), (10, [.inl 8, .inl 3], 0, 27),
  (10, [.inl 1, .inr 2], 1, 23), (1, [.inr 274, .inl 3], 0, 0), (10, [.inl 9, .inl 4], 1, 3), (8, [.inl 2, .inr 0], 0, 0), (8, [.inl 4, .inr 1], 0, 0), (12, [.inl 0, .inl 1, .inl 10, .inl 3, .inl 11], 1, 0), (1, [.inr 274, .inl 4], 0, 0), (10, [.inl 10, .inl 3], 1, 3), (8, [.inl 2, .inr 0], 0, 0), (8, [.inl 4, .inr 1], 0, 0), (12, [.inl 0, .inl 1, .inl 11, .inl 3, .inl 12], 1, 0), (10, [.inl 1, .inr 0], 0, 3),
  (8, [.inl 2, .inr 1], 0, 0), (8, [.inl 4, .inr 1], 0, 0), (12, [.inl 0, .inl 1, .inl 11, .inl 3, .inl 12], 1, 0), (1, [.inr 276, .inl 3], 0, 0), (8, [.inl 4, .inr 1], 0, 0), (10, [.inl 11, .inl 12], 1, 3), (8, [.inl 2, .inr 0], 0, 0), (8, [.inl 4, .inr 1], 0, 0), (12, [.inl 0, .inl 1, .inl 13, .inl 3, .inl 14], 1, 0), (8, [.inl 2, .inr 1], 0, 0), (8, [.inl 4, .inr 1], 0, 0), (12, [.inl 0, .inl 1, .inl 13, .inl 3, .inl 14], 1, 0),
  (8, [.inl 2, .inr 0], 0, 0), (8, [.inl 4, .inr 1], 0, 0), (12, [.inl 0, .inl 1, .inl 9, .inl 3, .inl 10], 1, 0), (1, [.inr 274, .inl 3], 0, 0), (10, [.inl 9, .inl 4], 0, 27), (10, [.inl 1, .inr 2], 1, 23), (1, [.inr 274, .inl 3], 0, 0), (10, [.inl 10, .inl 4], 1, 3), (8, [.inl 2, .inr 0], 0, 0), (8, [.inl 4, .inr 1], 0, 0), (12, [.inl 0, .inl 1, .inl 11, .inl 3, .inl 12], 1, 0), (1, [.inr 274, .inl 4], 0, 0),
  (10, [.inl 11, .inl 3], 1, 3), (8, [.inl 2, .inr 0], 0, 0), (8, [.inl 4, .inr 1], 0, 0), (12, [.inl 0, .inl 1, .inl 12, .inl 3, .inl 13], 1, 0), (10, [.inl 1, .inr 0], 0, 3), (8, [.inl 2, .inr 1], 0, 0), (8, [.inl 4, .inr 1], 0, 0), (12, [.inl 0, .inl 1, .inl 12, .inl 3, .inl 13], 1, 0), (1, [.inr 276, .inl 3], 0, 0), (8, [.inl 4, .inr 1], 0, 0), (10, [.inl 12, .inl 13], 1, 3), (8, [.inl 2, .inr 0], 0, 0),
  (8, [.inl 4, .inr 1], 0, 0), (12, [.inl 0, .inl 1, .inl 14, .inl 3, .inl 15], 1, 0), (8, [.inl 2, .inr 1], 0, 0), (8, [.inl 4, .inr 1], 0, 0), (12, [.inl 0, .inl 1, .inl 14, .inl 3, .inl 15], 1, 0), (8, [.inl 2, .inr 0], 0, 0), (8, [.inl 4, .inr 1], 0, 0), (12, [.inl 0, .inl 1, .inl 10, .inl 3, .inl 11], 1, 0), (1, [.inr 274, .inl 3], 0, 0), (0, [.inl 0], 0, 0), (10, [.inl 10, .inl 11], 3, 27), (10, [.inl 1, .inr 2], 1, 23),
  (1, [.inr 274, .inl 3], 0, 0), (10, [.inl 12, .inl 4], 1, 3), (8, [.inl 2, .inr 0], 0, 0), (8, [.inl 4, .inr 1], 0, 0), (12, [.inl 0, .inl 1, .inl 13, .inl 3, .inl 14], 1, 0), (1, [.inr 274, .inl 4], 0, 0), (10, [.inl 13, .inl 3], 1, 3), (8, [.inl 2, .inr 0], 0, 0), (8, [.inl 4, .inr 1], 0, 0), (12, [.inl 0, .inl 1, .inl 14, .inl 3, .inl 15], 1, 0), (10, [.inl 1, .inr 0], 0, 3), (8, [.inl 2, .inr 1], 0, 0),
  (8, [.inl 4, .inr 1], 0, 0), (12, [.inl 0, .inl 1, .inl 14, .inl 3, .inl 15], 1, 0), (1, [.inr 276, .inl 3], 0, 0), (8, [.inl 4, .inr 1], 0, 0), (10, [.inl 14, .inl 15], 1, 3), (8, [.inl 2, .inr 0], 0, 0), (8, [.inl 4, .inr 1], 0, 0), (12, [.inl 0, .inl 1, .inl 16, .inl 3, .inl 17], 1, 0), (8, [.inl 2, .inr 1], 0, 0), (8, [.inl 4, .inr 1], 0, 0), (12, [.inl 0, .inl 1, .inl 16, .inl 3, .inl 17], 1, 0), (8, [.inl 2, .inr 0], 0, 0),
  (8, [.inl 4, .inr 1], 0, 0), (12, [.inl 0, .inl 1, .inl 12, .inl 3, .inl 13], 1, 0), (10, [.inl 1, .inr 2], 1, 23), (1, [.inr 274, .inl 3], 0, 0), (10, [.inl 12, .inl 4], 1, 3), (8, [.inl 2, .inr 0], 0, 0), (8, [.inl 4, .inr 1], 0, 0), (12, [.inl 0, .inl 1, .inl 13, .inl 3, .inl 14], 1, 0), (1, [.inr 274, .inl 4], 0, 0), (10, [.inl 13, .inl 3], 1, 3), (8, [.inl 2, .inr 0], 0, 0), (8, [.inl 4, .inr 1], 0, 0),
  (12, [.inl 0, .inl 1, .inl 14, .inl 3, .inl 15], 1, 0), (10, [.inl 1, .inr 0], 0, 3), (8, [.inl 2, .inr 1], 0, 0), (8, [.inl 4, .inr 1], 0, 0), (12, [.inl 0, .inl 1, .inl 14, .inl 3, .inl 15], 1, 0), (1, [.inr 276, .inl 3], 0, 0), (8, [.inl 4, .inr 1], 0, 0), (10, [.inl 14, .inl 15], 1, 3), (8, [.inl 2, .inr 0], 0, 0), (8, [.inl 4, .inr 1], 0, 0), (12, [.inl 0, .inl 1, .inl 16, .inl 3, .inl 17], 1, 0), (8, [.inl 2, .inr 1], 0, 0),
  (8, [.inl 4, .inr 1], 0, 0), (12, [.inl 0, .inl 1, .inl 16, .inl 3, .inl 17], 1, 0), (8, [.inl 2, .inr 1], 0, 0), (8, [.inl 4, .inr 1], 0, 0), (12, [.inl 0, .inl 1, .inl 12, .inl 3, .inl 13], 1, 0)]
theorem vr_twosOf_k : x_chk 236 [(4, [(0, 0), (1, 0), (2, 0), (3, 0)]), (17, [(0, 0), (1, 0), (2, 0), (3, 0), (4, 0)])] vr_twosOf_T [vr_twosOf_T0, vr_twosOf_T1] 600 = true := by decide +kernel
theorem vr_twosOf {a0 a1 v : Int} {h h' : fH} (hs : fS 236 [a0, a1] h v h') (I0 : Int → Int → Int → Int → fH → Prop) (I1 : Int → Int → Int → Int → Int → fH → Prop) (Q : Int → fH → Prop) (h0 : I0 a0 a1 0 0 h) (k0 : ∀ (x0 x1 x2 x3 : Int) (h : fH), I0 x0 x1 x2 x3 h → ∀ z4 : Int, z4 = h x0 0 → ((z4 ≤ x3 → Q x2 h) ∧ (x3 < z4 → ∀ z5 : Int, z5 = wr (x3 + 1) → I1 x0 x1 x2 x3 z5 h))) (k1 : ∀ (x0 x1 x2 x3 x4 : Int) (h : fH), I1 x0 x1 x2 x3 x4 h → ∀ z5 : Int, z5 = h x0 0 → ((z5 ≤ x4 → ∀ z6 : Int, z6 = wr (x3 + 1) → I0 x0 x1 x2 z6 h) ∧ (x4 < z5 → ∀ z6 : Int, z6 = h 274 x3 → ∀ z7 : Int, z7 = h 274 x4 → ((z6 ≠ z7 → ((x1 ≠ 2 → ∀ z8 : Int, z8 = h 274 x3 → ((z8 ≠ x4 → ∀ z9 : Int, z9 = wr (x2 + 0) → ∀ z10 : Int, z10 = wr (x4 + 1) → I1 x0 x1 z9 x3 z10 h) ∧ (z8 = x4 → ∀ z9 : Int, z9 = h 274 x4 → ((z9 ≠ x3 → ∀ z10 : Int, z10 = wr (x2 + 0) → ∀ z11 : Int, z11 = wr (x4 + 1) → I1 x0 x1 z10 x3 z11 h) ∧ (z9 = x3 → ((x1 = 0 → ∀ z10 : Int, z10 = wr (x2 + 1) → ∀ z11 : Int, z11 = wr (x4 + 1) → I1 x0 x1 z10 x3 z11 h) ∧ (x1 ≠ 0 → ∀ z10 : Int, z10 = h 276 x3 → ∀ z11 : Int, z11 = wr (x4 + 1) → ((z10 ≠ z11 → ∀ z12 : Int, z12 = wr (x2 + 0) → ∀ z13 : Int, z13 = wr (x4 + 1) → I1 x0 x1 z12 x3 z13 h) ∧ (z10 = z11 → ∀ z12 : Int, z12 = wr (x2 + 1) → ∀ z13 : Int, z13 = wr (x4 + 1) → I1 x0 x1 z12 x3 z13 h))))))))) ∧ (x1 = 2 → ∀ z8 : Int, z8 = wr (x2 + 0) → ∀ z9 : Int, z9 = wr (x4 + 1) → I1 x0 x1 z8 x3 z9 h))) ∧ (z6 = z7 → ∀ z8 : Int, z8 = h 274 x3 → ((z8 = x3 → ((x1 ≠ 2 → ∀ z9 : Int, z9 = h 274 x3 → ((z9 ≠ x4 → ∀ z10 : Int, z10 = wr (x2 + 0) → ∀ z11 : Int, z11 = wr (x4 + 1) → I1 x0 x1 z10 x3 z11 h) ∧ (z9 = x4 → ∀ z10 : Int, z10 = h 274 x4 → ((z10 ≠ x3 → ∀ z11 : Int, z11 = wr (x2 + 0) → ∀ z12 : Int, z12 = wr (x4 + 1) → I1 x0 x1 z11 x3 z12 h) ∧ (z10 = x3 → ((x1 = 0 → ∀ z11 : Int, z11 = wr (x2 + 1) → ∀ z12 : Int, z12 = wr (x4 + 1) → I1 x0 x1 z11 x3 z12 h) ∧ (x1 ≠ 0 → ∀ z11 : Int, z11 = h 276 x3 → ∀ z12 : Int, z12 = wr (x4 + 1) → ((z11 ≠ z12 → ∀ z13 : Int, z13 = wr (x2 + 0) → ∀ z14 : Int, z14 = wr (x4 + 1) → I1 x0 x1 z13 x3 z14 h) ∧ (z11 = z12 → ∀ z13 : Int, z13 = wr (x2 + 1) → ∀ z14 : Int, z14 = wr (x4 + 1) → I1 x0 x1 z13 x3 z14 h))))))))) ∧ (x1 = 2 → ∀ z9 : Int, z9 = wr (x2 + 0) → ∀ z10 : Int, z10 = wr (x4 + 1) → I1 x0 x1 z9 x3 z10 h))) ∧ (z8 ≠ x3 → ∀ z9 : Int, z9 = h 274 x3 → ((z9 = x4 → ((x1 ≠ 2 → ∀ z10 : Int, z10 = h 274 x3 → ((z10 ≠ x4 → ∀ z11 : Int, z11 = wr (x2 + 0) → ∀ z12 : Int, z12 = wr (x4 + 1) → I1 x0 x1 z11 x3 z12 h) ∧ (z10 = x4 → ∀ z11 : Int, z11 = h 274 x4 → ((z11 ≠ x3 → ∀ z12 : Int, z12 = wr (x2 + 0) → ∀ z13 : Int, z13 = wr (x4 + 1) → I1 x0 x1 z12 x3 z13 h) ∧ (z11 = x3 → ((x1 = 0 → ∀ z12 : Int, z12 = wr (x2 + 1) → ∀ z13 : Int, z13 = wr (x4 + 1) → I1 x0 x1 z12 x3 z13 h) ∧ (x1 ≠ 0 → ∀ z12 : Int, z12 = h 276 x3 → ∀ z13 : Int, z13 = wr (x4 + 1) → ((z12 ≠ z13 → ∀ z14 : Int, z14 = wr (x2 + 0) → ∀ z15 : Int, z15 = wr (x4 + 1) → I1 x0 x1 z14 x3 z15 h) ∧ (z12 = z13 → ∀ z14 : Int, z14 = wr (x2 + 1) → ∀ z15 : Int, z15 = wr (x4 + 1) → I1 x0 x1 z14 x3 z15 h))))))))) ∧ (x1 = 2 → ∀ z10 : Int, z10 = wr (x2 + 0) → ∀ z11 : Int, z11 = wr (x4 + 1) → I1 x0 x1 z10 x3 z11 h))) ∧ (z9 ≠ x4 → ∀ z10 : Int, z10 = h 274 x3 → ∀ z11 : Int, z11 = h x0 0 → ((z11 ≤ z10 → ((x1 ≠ 2 → ∀ z12 : Int, z12 = h 274 x3 → ((z12 ≠ x4 → ∀ z13 : Int, z13 = wr (x2 + 0) → ∀ z14 : Int, z14 = wr (x4 + 1) → I1 x0 x1 z13 x3 z14 h) ∧ (z12 = x4 → ∀ z13 : Int, z13 = h 274 x4 → ((z13 ≠ x3 → ∀ z14 : Int, z14 = wr (x2 + 0) → ∀ z15 : Int, z15 = wr (x4 + 1) → I1 x0 x1 z14 x3 z15 h) ∧ (z13 = x3 → ((x1 = 0 → ∀ z14 : Int, z14 = wr (x2 + 1) → ∀ z15 : Int, z15 = wr (x4 + 1) → I1 x0 x1 z14 x3 z15 h) ∧ (x1 ≠ 0 → ∀ z14 : Int, z14 = h 276 x3 → ∀ z15 : Int, z15 = wr (x4 + 1) → ((z14 ≠ z15 → ∀ z16 : Int, z16 = wr (x2 + 0) → ∀ z17 : Int, z17 = wr (x4 + 1) → I1 x0 x1 z16 x3 z17 h) ∧ (z14 = z15 → ∀ z16 : Int, z16 = wr (x2 + 1) → ∀ z17 : Int, z17 = wr (x4 + 1) → I1 x0 x1 z16 x3 z17 h))))))))) ∧ (x1 = 2 → ∀ z12 : Int, z12 = wr (x2 + 0) → ∀ z13 : Int, z13 = wr (x4 + 1) → I1 x0 x1 z12 x3 z13 h))) ∧ (z10 < z11 → ((x1 ≠ 2 → ∀ z12 : Int, z12 = h 274 x3 → ((z12 ≠ x4 → ∀ z13 : Int, z13 = wr (x2 + 0) → ∀ z14 : Int, z14 = wr (x4 + 1) → I1 x0 x1 z13 x3 z14 h) ∧ (z12 = x4 → ∀ z13 : Int, z13 = h 274 x4 → ((z13 ≠ x3 → ∀ z14 : Int, z14 = wr (x2 + 0) → ∀ z15 : Int, z15 = wr (x4 + 1) → I1 x0 x1 z14 x3 z15 h) ∧ (z13 = x3 → ((x1 = 0 → ∀ z14 : Int, z14 = wr (x2 + 1) → ∀ z15 : Int, z15 = wr (x4 + 1) → I1 x0 x1 z14 x3 z15 h) ∧ (x1 ≠ 0 → ∀ z14 : Int, z14 = h 276 x3 → ∀ z15 : Int, z15 = wr (x4 + 1) → ((z14 ≠ z15 → ∀ z16 : Int, z16 = wr (x2 + 0) → ∀ z17 : Int, z17 = wr (x4 + 1) → I1 x0 x1 z16 x3 z17 h) ∧ (z14 = z15 → ∀ z16 : Int, z16 = wr (x2 + 1) → ∀ z17 : Int, z17 = wr (x4 + 1) → I1 x0 x1 z16 x3 z17 h))))))))) ∧ (x1 = 2 → ∀ z12 : Int, z12 = wr (x2 + 1) → ∀ z13 : Int, z13 = wr (x4 + 1) → I1 x0 x1 z12 x3 z13 h))))))))))))) : Q v h' := by
  refine x_mef vr_twosOf_k hs (fun k l h => match k with
    | 0 => (match l with | [x0, x1, x2, x3] => I0 x0 x1 x2 x3 h | _ => False)
    | 1 => (match l with | [x0, x1, x2, x3, x4] => I1 x0 x1 x2 x3 x4 h | _ => False)
    | _ => False) Q h0 ?_
  intro i Ti hT vals h hi
  match i, hT, hi with
  | 0, hT, hi =>
    cases hT
    match vals, hi with
    | [x0, x1, x2, x3], hi => exact k0 _ _ _ _ _ hi
    | [], hi => exact False.elim hi
    | [_], hi => exact False.elim hi
    | [_, _], hi => exact False.elim hi
    | [_, _, _], hi => exact False.elim hi
    | _ :: _ :: _ :: _ :: _ :: _, hi => exact False.elim hi
  | 1, hT, hi =>
    cases hT
    match vals, hi with
    | [x0, x1, x2, x3, x4], hi => exact k1 _ _ _ _ _ _ hi
    | [], hi => exact False.elim hi
    | [_], hi => exact False.elim hi
    | [_, _], hi => exact False.elim hi
    | [_, _, _], hi => exact False.elim hi
    | [_, _, _, _], hi => exact False.elim hi
    | _ :: _ :: _ :: _ :: _ :: _ :: _, hi => exact False.elim hi
  | _ + 2, hT, _ => cases hT
def vr_freeBits_T : xT := [(12, [.inl 0, .inr 0, .inr 0], 0, 0)]
def vr_freeBits_T0 : xT := [(0, [.inl 0], 0, 0), (10, [.inl 2, .inl 3], 3, 1), (11, [.inl 1], 0, 0), (13, [.inl 0, .inl 2], 167, 0), (10, [.inl 4, .inr 0], 0, 3), (8, [.inl 1, .inr 0], 4, 0), (8, [.inl 2, .inr 1], 0, 0), (12, [.inl 0, .inl 5, .inl 6], 0, 0), (8, [.inr 1, .inl 2], 6, 0), (8, [.inl 1, .inl 5], 4, 0), (8, [.inl 2, .inr 1], 0, 0), (12, [.inl 0, .inl 6, .inl 7], 0, 0)]
theorem vr_freeBits_k : x_chk 238 [(4, [(0, 0), (1, 0), (2, 0)])] vr_freeBits_T [vr_freeBits_T0] 600 = true := by decide +kernel
theorem vr_freeBits {a0 v : Int} {h h' : fH} (hs : fS 238 [a0] h v h') (I0 : Int → Int → Int → fH → Prop) (Q : Int → fH → Prop) (h0 : I0 a0 0 0 h) (k0 : ∀ (x0 x1 x2 : Int) (h : fH), I0 x0 x1 x2 h → ∀ z3 : Int, z3 = h x0 0 → ((z3 ≤ x2 → Q x1 h) ∧ (x2 < z3 → ∀ (v1 : Int) (h1 : fH), fS 167 [x0, x2] h v1 h1 → ((v1 = 0 → ∀ z5 : Int, z5 = xor' x1 0 → ∀ z6 : Int, z6 = wr (x2 + 1) → I0 x0 z5 z6 h1) ∧ (v1 ≠ 0 → ∀ z5 : Int, z5 = xshl 1 x2 → ∀ z6 : Int, z6 = xor' x1 z5 → ∀ z7 : Int, z7 = wr (x2 + 1) → I0 x0 z6 z7 h1))))) : Q v h' := by
  refine x_mef vr_freeBits_k hs (fun k l h => match k with
    | 0 => (match l with | [x0, x1, x2] => I0 x0 x1 x2 h | _ => False)
    | _ => False) Q h0 ?_
  intro i Ti hT vals h hi
  match i, hT, hi with
  | 0, hT, hi =>
    cases hT
    match vals, hi with
    | [x0, x1, x2], hi => exact k0 _ _ _ _ hi
    | [], hi => exact False.elim hi
    | [_], hi => exact False.elim hi
    | [_, _], hi => exact False.elim hi
    | _ :: _ :: _ :: _ :: _, hi => exact False.elim hi
  | _ + 1, hT, _ => cases hT
def vr_wished_T : xT := [(2, [.inl 0, .inr 0], 16, 0), (0, [.inl 0], 0, 0), (8, [.inl 2, .inr 1], 1, 0), (8, [.inl 1, .inr 0], 18, 0), (10, [.inl 4, .inr 0], 2, 5), (9, [.inr (-1)], 0, 0), (1, [.inr 285, .inl 5], 0, 0), (8, [.inl 6, .inr 1], 0, 0), (3, [.inr 285, .inl 5, .inl 7], 0, 0), (11, [.inr (-1)], 0, 0), (8, [.inl 1, .inl 3], 18, 0), (10, [.inl 5, .inr 0], 4, 5),
  (9, [.inr (-1)], 0, 0), (1, [.inr 285, .inl 6], 0, 0), (8, [.inl 7, .inr 1], 0, 0), (3, [.inr 285, .inl 6, .inl 8], 0, 0), (11, [.inr (-1)], 0, 0), (12, [.inl 0, .inl 1, .inr 0, .inr 0], 0, 0)]
def vr_wished_T0 : xT := [(0, [.inl 0], 0, 0), (10, [.inl 3, .inl 4], 3, 1), (11, [.inl 2], 0, 0), (10, [.inl 3, .inl 1], 0, 3), (8, [.inl 2, .inr 0], 0, 0), (8, [.inl 3, .inr 1], 0, 0), (12, [.inl 0, .inl 1, .inl 5, .inl 6], 0, 0), (1, [.inr 274, .inl 3], 0, 0), (10, [.inl 5, .inl 1], 1, 3), (8, [.inl 2, .inr 0], 0, 0), (8, [.inl 3, .inr 1], 0, 0), (12, [.inl 0, .inl 1, .inl 6, .inl 7], 0, 0),
  (8, [.inl 2, .inr 1], 0, 0), (8, [.inl 3, .inr 1], 0, 0), (12, [.inl 0, .inl 1, .inl 6, .inl 7], 0, 0)]
theorem vr_wished_k : x_chk 239 [(23, [(0, 0), (1, 0), (2, 0), (3, 0)])] vr_wished_T [vr_wished_T0] 600 = true := by decide +kernel
theorem vr_wished {a0 a1 v : Int} {h h' : fH} (hs : fS 239 [a0, a1] h v h') (I0 : Int → Int → Int → Int → fH → Prop) (Q : Int → fH → Prop) (h0 : ∀ h1 : fH, h1 = fu h a0 16 0 → ∀ z2 : Int, z2 = h1 a0 0 → ∀ z3 : Int, z3 = wr (z2 - 1) → ∀ z4 : Int, z4 = xlcmp a1 0 → ((z4 < 0 → ∀ z5 : Int, z5 = wr (-(-1)) → ∀ z6 : Int, z6 = h1 285 z5 → ∀ z7 : Int, z7 = wr (z6 + 1) → ∀ h2 : fH, h2 = fu h1 285 z5 z7 → Q (-1) h2) ∧ (0 ≤ z4 → ∀ z5 : Int, z5 = xlcmp a1 z3 → ((0 < z5 → ∀ z6 : Int, z6 = wr (-(-1)) → ∀ z7 : Int, z7 = h1 285 z6 → ∀ z8 : Int, z8 = wr (z7 + 1) → ∀ h2 : fH, h2 = fu h1 285 z6 z8 → Q (-1) h2) ∧ (z5 ≤ 0 → I0 a0 a1 0 0 h1))))) (k0 : ∀ (x0 x1 x2 x3 : Int) (h : fH), I0 x0 x1 x2 x3 h → ∀ z4 : Int, z4 = h x0 0 → ((z4 ≤ x3 → Q x2 h) ∧ (x3 < z4 → ((x3 = x1 → ∀ z5 : Int, z5 = wr (x2 + 0) → ∀ z6 : Int, z6 = wr (x3 + 1) → I0 x0 x1 z5 z6 h) ∧ (x3 ≠ x1 → ∀ z5 : Int, z5 = h 274 x3 → ((z5 ≠ x1 → ∀ z6 : Int, z6 = wr (x2 + 0) → ∀ z7 : Int, z7 = wr (x3 + 1) → I0 x0 x1 z6 z7 h) ∧ (z5 = x1 → ∀ z6 : Int, z6 = wr (x2 + 1) → ∀ z7 : Int, z7 = wr (x3 + 1) → I0 x0 x1 z6 z7 h))))))) : Q v h' := by
  refine x_mef vr_wished_k hs (fun k l h => match k with
    | 0 => (match l with | [x0, x1, x2, x3] => I0 x0 x1 x2 x3 h | _ => False)
    | _ => False) Q h0 ?_
  intro i Ti hT vals h hi
  match i, hT, hi with
  | 0, hT, hi =>
    cases hT
    match vals, hi with
    | [x0, x1, x2, x3], hi => exact k0 _ _ _ _ _ hi
    | [], hi => exact False.elim hi
    | [_], hi => exact False.elim hi
    | [_, _], hi => exact False.elim hi
    | [_, _, _], hi => exact False.elim hi
    | _ :: _ :: _ :: _ :: _ :: _, hi => exact False.elim hi
  | _ + 1, hT, _ => cases hT
def vr_mean_T : xT := [(2, [.inl 0, .inr 0], 16, 0), (8, [.inl 1, .inr 0], 18, 0), (10, [.inl 3, .inr 0], 2, 6), (9, [.inr (-1)], 0, 0), (1, [.inr 285, .inl 4], 0, 0), (8, [.inl 5, .inr 1], 0, 0), (3, [.inr 285, .inl 4, .inl 6], 0, 0), (8, [.inr 4000000000000000000, .inr (-1)], 14, 0), (11, [.inl 7], 0, 0), (8, [.inl 1, .inr 4], 18, 0), (10, [.inl 4, .inr 0], 4, 6), (9, [.inr (-1)], 0, 0),
  (1, [.inr 285, .inl 5], 0, 0), (8, [.inl 6, .inr 1], 0, 0), (3, [.inr 285, .inl 5, .inl 7], 0, 0), (8, [.inr 4000000000000000000, .inr (-1)], 14, 0), (11, [.inl 8], 0, 0), (8, [.inl 2, .inr 0], 18, 0), (10, [.inl 5, .inr 0], 2, 6), (9, [.inr (-2)], 0, 0), (1, [.inr 285, .inl 6], 0, 0), (8, [.inl 7, .inr 1], 0, 0), (3, [.inr 285, .inl 6, .inl 8], 0, 0), (8, [.inr 4000000000000000000, .inr (-2)], 14, 0),
  (11, [.inl 9], 0, 0), (8, [.inl 2, .inr 1], 18, 0), (10, [.inl 6, .inr 0], 4, 6), (9, [.inr (-2)], 0, 0), (1, [.inr 285, .inl 7], 0, 0), (8, [.inl 8, .inr 1], 0, 0), (3, [.inr 285, .inl 7, .inl 9], 0, 0), (8, [.inr 4000000000000000000, .inr (-2)], 14, 0), (11, [.inl 10], 0, 0), (12, [.inl 0, .inl 1, .inl 2, .inr 0, .inr 0], 0, 0)]
def vr_mean_T0 : xT := [(0, [.inl 0], 0, 0), (10, [.inl 4, .inl 5], 3, 3), (0, [.inl 0], 0, 0), (13, [.inl 3, .inl 6, .inl 2], 231, 0), (11, [.inl 7], 0, 0), (8, [.inr 5, .inl 4], 2, 0), (8, [.inl 6, .inl 1], 0, 0), (1, [.inr 277, .inl 7], 0, 0), (8, [.inl 3, .inl 8], 13, 0), (8, [.inl 4, .inr 1], 0, 0), (12, [.inl 0, .inl 1, .inl 2, .inl 9, .inl 10], 0, 0)]
theorem vr_mean_k : x_chk 240 [(44, [(0, 0), (1, 0), (2, 0), (4, 1), (6, 0)])] vr_mean_T [vr_mean_T0] 600 = true := by decide +kernel
theorem vr_mean {a0 a1 a2 v : Int} {h h' : fH} (hs : fS 240 [a0, a1, a2] h v h') (I0 : Int → Int → Int → Int → Int → fH → Prop) (Q : Int → fH → Prop) (h0 : ∀ h1 : fH, h1 = fu h a0 16 0 → ∀ z3 : Int, z3 = xlcmp a1 0 → ((z3 < 0 → ∀ z4 : Int, z4 = wr (-(-1)) → ∀ z5 : Int, z5 = h1 285 z4 → ∀ z6 : Int, z6 = wr (z5 + 1) → ∀ h2 : fH, h2 = fu h1 285 z4 z6 → ∀ z7 : Int, z7 = wl (4000000000000000000 - (-1)) → Q z7 h2) ∧ (0 ≤ z3 → ∀ z4 : Int, z4 = xlcmp a1 4 → ((0 < z4 → ∀ z5 : Int, z5 = wr (-(-1)) → ∀ z6 : Int, z6 = h1 285 z5 → ∀ z7 : Int, z7 = wr (z6 + 1) → ∀ h2 : fH, h2 = fu h1 285 z5 z7 → ∀ z8 : Int, z8 = wl (4000000000000000000 - (-1)) → Q z8 h2) ∧ (z4 ≤ 0 → ∀ z5 : Int, z5 = xlcmp a2 0 → ((z5 < 0 → ∀ z6 : Int, z6 = wr (-(-2)) → ∀ z7 : Int, z7 = h1 285 z6 → ∀ z8 : Int, z8 = wr (z7 + 1) → ∀ h2 : fH, h2 = fu h1 285 z6 z8 → ∀ z9 : Int, z9 = wl (4000000000000000000 - (-2)) → Q z9 h2) ∧ (0 ≤ z5 → ∀ z6 : Int, z6 = xlcmp a2 1 → ((0 < z6 → ∀ z7 : Int, z7 = wr (-(-2)) → ∀ z8 : Int, z8 = h1 285 z7 → ∀ z9 : Int, z9 = wr (z8 + 1) → ∀ h2 : fH, h2 = fu h1 285 z7 z9 → ∀ z10 : Int, z10 = wl (4000000000000000000 - (-2)) → Q z10 h2) ∧ (z6 ≤ 0 → I0 a0 a1 a2 0 0 h1))))))))) (k0 : ∀ (x0 x1 x2 x4 x6 : Int) (h : fH), I0 x0 x1 x2 x4 x6 h → ∀ z5 : Int, z5 = h x0 0 → ((z5 ≤ x6 → ∀ z6 : Int, z6 = h x0 0 → ∀ (v1 : Int) (h1 : fH), fS 231 [x4, z6, x2] h v1 h1 → Q v1 h1) ∧ (x6 < z5 → ∀ z6 : Int, z6 = wr (5 * x6) → ∀ z7 : Int, z7 = wr (z6 + x1) → ∀ z8 : Int, z8 = h 277 z7 → ∀ z9 : Int, z9 = wl (x4 + z8) → ∀ z10 : Int, z10 = wr (x6 + 1) → I0 x0 x1 x2 z9 z10 h))) : Q v h' := by
  refine x_mef vr_mean_k hs (fun k l h => match k with
    | 0 => (match l with | [x0, x1, x2, x4, x6] => I0 x0 x1 x2 x4 x6 h | _ => False)
    | _ => False) Q h0 ?_
  intro i Ti hT vals h hi
  match i, hT, hi with
  | 0, hT, hi =>
    cases hT
    match vals, hi with
    | [x0, x1, x2, x4, x6], hi => exact k0 _ _ _ _ _ _ hi
    | [], hi => exact False.elim hi
    | [_], hi => exact False.elim hi
    | [_, _], hi => exact False.elim hi
    | [_, _, _], hi => exact False.elim hi
    | [_, _, _, _], hi => exact False.elim hi
    | _ :: _ :: _ :: _ :: _ :: _ :: _, hi => exact False.elim hi
  | _ + 1, hT, _ => cases hT
