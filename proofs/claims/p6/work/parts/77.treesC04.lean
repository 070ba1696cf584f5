/-! the trees of the methods (made by a program) -/
def vc_proposes_T : xT := [(13, [.inr 11, .inl 1, .inl 2, .inl 3, .inl 4, .inl 5], 54, 0), (10, [.inl 6, .inr 0], 0, 13), (13, [.inr 80, .inr 11], 87, 0), (0, [.inr 11], 14, 0), (1, [.inr 30, .inl 8], 0, 0), (2, [.inl 9, .inl 1], 0, 0), (2, [.inl 9, .inl 2], 1, 0), (2, [.inl 9, .inl 3], 2, 0), (2, [.inl 9, .inl 4], 3, 0), (2, [.inl 9, .inl 5], 4, 0), (0, [.inr 11], 14, 0), (8, [.inl 10, .inr 1], 0, 0),
  (2, [.inr 11, .inl 11], 14, 0), (0, [.inr 11], 14, 0), (11, [.inl 12], 0, 0), (9, [.inl 6], 0, 0), (1, [.inr 3, .inl 7], 0, 0), (8, [.inl 8, .inr 1], 0, 0), (3, [.inr 3, .inl 7, .inl 9], 0, 0), (11, [.inl 6], 0, 0)]
theorem vc_proposes_k : x_chk 89 [] vc_proposes_T [] 600 = true := by decide +kernel
theorem vc_proposes {a0 a1 a2 a3 a4 a5 v : Int} {h h' : fH} (hs : fS 89 [a0, a1, a2, a3, a4, a5] h v h') (Q : Int → fH → Prop) (h0 : ∀ (v1 : Int) (h1 : fH), fS 54 [11, a1, a2, a3, a4, a5] h v1 h1 → ((v1 = 0 → ∀ (v2 : Int) (h2 : fH), fS 87 [80, 11] h1 v2 h2 → ∀ z8 : Int, z8 = h2 11 14 → ∀ z9 : Int, z9 = h2 30 z8 → ∀ h3 : fH, h3 = fu h2 z9 0 a1 → ∀ h4 : fH, h4 = fu h3 z9 1 a2 → ∀ h5 : fH, h5 = fu h4 z9 2 a3 → ∀ h6 : fH, h6 = fu h5 z9 3 a4 → ∀ h7 : fH, h7 = fu h6 z9 4 a5 → ∀ z10 : Int, z10 = h7 11 14 → ∀ z11 : Int, z11 = wr (z10 + 1) → ∀ h8 : fH, h8 = fu h7 11 14 z11 → ∀ z12 : Int, z12 = h8 11 14 → Q z12 h8) ∧ (v1 ≠ 0 → ∀ z7 : Int, z7 = wr (-v1) → ∀ z8 : Int, z8 = h1 3 z7 → ∀ z9 : Int, z9 = wr (z8 + 1) → ∀ h2 : fH, h2 = fu h1 3 z7 z9 → Q v1 h2))) : Q v h' := by
  exact x_mef vc_proposes_k hs (fun _ _ _ => False) Q h0 (fun i Ti hT => by cases hT)
def vc_days_T : xT := [(10, [.inl 1, .inr 1], 3, 18), (10, [.inl 1, .inr 60], 4, 5), (9, [.inr (-6)], 0, 0), (1, [.inr 3, .inl 2], 0, 0), (8, [.inl 3, .inr 1], 0, 0), (3, [.inr 3, .inl 2, .inl 4], 0, 0), (11, [.inr (-6)], 0, 0), (0, [.inr 11], 15, 0), (8, [.inl 2, .inl 1], 0, 0), (10, [.inl 3, .inr 999], 5, 4), (13, [.inr 80, .inr 11], 87, 0), (13, [.inr 11, .inl 1], 64, 0),
  (13, [.inr 11, .inr 0], 91, 0), (11, [.inl 6], 0, 0), (9, [.inr (-6)], 0, 0), (1, [.inr 3, .inl 4], 0, 0), (8, [.inl 5, .inr 1], 0, 0), (3, [.inr 3, .inl 4, .inl 6], 0, 0), (11, [.inr (-6)], 0, 0), (9, [.inr (-4)], 0, 0), (1, [.inr 3, .inl 2], 0, 0), (8, [.inl 3, .inr 1], 0, 0), (3, [.inr 3, .inl 2, .inl 4], 0, 0), (11, [.inr (-4)], 0, 0)]
theorem vc_days_k : x_chk 90 [] vc_days_T [] 600 = true := by decide +kernel
theorem vc_days {a0 a1 v : Int} {h h' : fH} (hs : fS 90 [a0, a1] h v h') (Q : Int → fH → Prop) (h0 : ((1 ≤ a1 → ((60 < a1 → ∀ z2 : Int, z2 = wr (-(-6)) → ∀ z3 : Int, z3 = h 3 z2 → ∀ z4 : Int, z4 = wr (z3 + 1) → ∀ h1 : fH, h1 = fu h 3 z2 z4 → Q (-6) h1) ∧ (a1 ≤ 60 → ∀ z2 : Int, z2 = h 11 15 → ∀ z3 : Int, z3 = wr (z2 + a1) → ((z3 ≤ 999 → ∀ (v1 : Int) (h1 : fH), fS 87 [80, 11] h v1 h1 → ∀ (v2 : Int) (h2 : fH), fS 64 [11, a1] h1 v2 h2 → ∀ (v3 : Int) (h3 : fH), fS 91 [11, 0] h2 v3 h3 → Q v3 h3) ∧ (999 < z3 → ∀ z4 : Int, z4 = wr (-(-6)) → ∀ z5 : Int, z5 = h 3 z4 → ∀ z6 : Int, z6 = wr (z5 + 1) → ∀ h1 : fH, h1 = fu h 3 z4 z6 → Q (-6) h1))))) ∧ (a1 < 1 → ∀ z2 : Int, z2 = wr (-(-4)) → ∀ z3 : Int, z3 = h 3 z2 → ∀ z4 : Int, z4 = wr (z3 + 1) → ∀ h1 : fH, h1 = fu h 3 z2 z4 → Q (-4) h1))) : Q v h' := by
  exact x_mef vc_days_k hs (fun _ _ _ => False) Q h0 (fun i Ti hT => by cases hT)
def vt_howManyWed_T : xT := [(12, [.inl 0, .inl 1, .inr 0, .inr 0], 0, 0)]
def vt_howManyWed_T0 : xT := [(0, [.inl 0], 1, 0), (10, [.inl 3, .inl 4], 3, 1), (11, [.inl 2], 0, 0), (13, [.inl 0, .inl 3, .inl 1], 82, 0), (10, [.inl 5, .inr 0], 0, 2), (8, [.inl 3, .inr 1], 0, 0), (12, [.inl 0, .inl 1, .inl 2, .inl 6], 0, 0), (8, [.inl 2, .inr 1], 0, 0), (8, [.inl 3, .inr 1], 0, 0), (12, [.inl 0, .inl 1, .inl 6, .inl 7], 0, 0)]
theorem vt_howManyWed_k : x_chk 91 [(4, [(0, 0), (1, 0), (2, 0), (3, 0)])] vt_howManyWed_T [vt_howManyWed_T0] 600 = true := by decide +kernel
theorem vt_howManyWed {a0 a1 v : Int} {h h' : fH} (hs : fS 91 [a0, a1] h v h') (I0 : Int → Int → Int → Int → fH → Prop) (Q : Int → fH → Prop) (h0 : I0 a0 a1 0 0 h) (k0 : ∀ (x0 x1 x2 x3 : Int) (h : fH), I0 x0 x1 x2 x3 h → ∀ z4 : Int, z4 = h x0 1 → ((z4 ≤ x3 → Q x2 h) ∧ (x3 < z4 → ∀ (v1 : Int) (h1 : fH), fS 82 [x0, x3, x1] h v1 h1 → ((v1 = 0 → ∀ z6 : Int, z6 = wr (x3 + 1) → I0 x0 x1 x2 z6 h1) ∧ (v1 ≠ 0 → ∀ z6 : Int, z6 = wr (x2 + 1) → ∀ z7 : Int, z7 = wr (x3 + 1) → I0 x0 x1 z6 z7 h1))))) : Q v h' := by
  refine x_mef vt_howManyWed_k hs (fun k l h => match k with
    | 0 => (match l with | [x0, x1, x2, x3] => I0 x0 x1 x2 x3 h | _ => False)
    | _ => False) Q h0 ?_
  intro i Ti hT vals h hi
  match i, hT, hi with
  | 0, hT, hi =>
    cases hT
    match vals, hi with
    | [x0, x1, x2, x3], hi => exact k0 _ _ _ _ _ hi
    | [], hi => exact False.elim hi
    | [_], hi => exact False.elim hi
    | [_, _], hi => exact False.elim hi
    | [_, _, _], hi => exact False.elim hi
    | _ :: _ :: _ :: _ :: _ :: _, hi => exact False.elim hi
  | _ + 1, hT, _ => cases hT
def vc_back_T : xT := [(0, [.inr 80], 2, 0), (10, [.inl 1, .inr 0], 1, 3), (13, [.inr 80, .inr 11], 93, 0), (0, [.inr 80], 2, 0), (11, [.inl 3], 0, 0), (9, [.inr (-3)], 0, 0), (1, [.inr 3, .inl 2], 0, 0), (8, [.inl 3, .inr 1], 0, 0), (3, [.inr 3, .inl 2, .inl 4], 0, 0), (11, [.inr (-3)], 0, 0)]
theorem vc_back_k : x_chk 92 [] vc_back_T [] 600 = true := by decide +kernel
theorem vc_back {a0 v : Int} {h h' : fH} (hs : fS 92 [a0] h v h') (Q : Int → fH → Prop) (h0 : ∀ z1 : Int, z1 = h 80 2 → ((z1 ≠ 0 → ∀ (v1 : Int) (h1 : fH), fS 93 [80, 11] h v1 h1 → ∀ z3 : Int, z3 = h1 80 2 → Q z3 h1) ∧ (z1 = 0 → ∀ z2 : Int, z2 = wr (-(-3)) → ∀ z3 : Int, z3 = h 3 z2 → ∀ z4 : Int, z4 = wr (z3 + 1) → ∀ h1 : fH, h1 = fu h 3 z2 z4 → Q (-3) h1))) : Q v h' := by
  exact x_mef vc_back_k hs (fun _ _ _ => False) Q h0 (fun i Ti hT => by cases hT)
def vp_putBack_T : xT := [(0, [.inl 0], 1, 0), (5, [.inr 81, .inl 2], 0, 23), (13, [.inl 1, .inl 3], 23, 0), (0, [.inl 0], 1, 0), (8, [.inl 5, .inr 8], 0, 0), (8, [.inl 6, .inr 1], 1, 0), (8, [.inl 7, .inr 8], 10, 0), (2, [.inl 0, .inl 8], 1, 0), (0, [.inl 0], 2, 0), (8, [.inl 9, .inr 1], 1, 0), (2, [.inl 0, .inl 10], 2, 0), (11, [.inr 0], 0, 0)]
theorem vp_putBack_k : x_chk 93 [] vp_putBack_T [] 600 = true := by decide +kernel
theorem vp_putBack {a0 a1 v : Int} {h h' : fH} (hs : fS 93 [a0, a1] h v h') (Q : Int → fH → Prop) (h0 : ∀ z2 : Int, z2 = h a0 1 → ∀ z3 : Int, z3 = 81 + 1 + 23 * z2 → ∀ (v1 : Int) (h1 : fH), fS 23 [a1, z3] h v1 h1 → ∀ z5 : Int, z5 = h1 a0 1 → ∀ z6 : Int, z6 = wr (z5 + 8) → ∀ z7 : Int, z7 = wr (z6 - 1) → ∀ z8 : Int, z8 = xrem z7 8 → ∀ h2 : fH, h2 = fu h1 a0 1 z8 → ∀ z9 : Int, z9 = h2 a0 2 → ∀ z10 : Int, z10 = wr (z9 - 1) → ∀ h3 : fH, h3 = fu h2 a0 2 z10 → Q 0 h3) : Q v h' := by
  exact x_mef vp_putBack_k hs (fun _ _ _ => False) Q h0 (fun i Ti hT => by cases hT)
def vc_image_T : xT := [(13, [.inr 57, .inr 11], 23, 0), (2, [.inl 0, .inr 1], 3, 0), (0, [.inr 11], 15, 0), (11, [.inl 2], 0, 0)]
theorem vc_image_k : x_chk 94 [] vc_image_T [] 600 = true := by decide +kernel
theorem vc_image {a0 v : Int} {h h' : fH} (hs : fS 94 [a0] h v h') (Q : Int → fH → Prop) (h0 : ∀ (v1 : Int) (h1 : fH), fS 23 [57, 11] h v1 h1 → ∀ h2 : fH, h2 = fu h1 a0 3 1 → ∀ z2 : Int, z2 = h2 11 15 → Q z2 h2) : Q v h' := by
  exact x_mef vc_image_k hs (fun _ _ _ => False) Q h0 (fun i Ti hT => by cases hT)
def vc_restore_T : xT := [(0, [.inl 0], 3, 0), (10, [.inl 1, .inr 0], 1, 4), (13, [.inr 11, .inr 57], 23, 0), (2, [.inr 80, .inr 0], 2, 0), (0, [.inr 11], 15, 0), (11, [.inl 3], 0, 0), (9, [.inr (-3)], 0, 0), (1, [.inr 3, .inl 2], 0, 0), (8, [.inl 3, .inr 1], 0, 0), (3, [.inr 3, .inl 2, .inl 4], 0, 0), (11, [.inr (-3)], 0, 0)]
theorem vc_restore_k : x_chk 95 [] vc_restore_T [] 600 = true := by decide +kernel
theorem vc_restore {a0 v : Int} {h h' : fH} (hs : fS 95 [a0] h v h') (Q : Int → fH → Prop) (h0 : ∀ z1 : Int, z1 = h a0 3 → ((z1 ≠ 0 → ∀ (v1 : Int) (h1 : fH), fS 23 [11, 57] h v1 h1 → ∀ h2 : fH, h2 = fu h1 80 2 0 → ∀ z3 : Int, z3 = h2 11 15 → Q z3 h2) ∧ (z1 = 0 → ∀ z2 : Int, z2 = wr (-(-3)) → ∀ z3 : Int, z3 = h 3 z2 → ∀ z4 : Int, z4 = wr (z3 + 1) → ∀ h1 : fH, h1 = fu h 3 z2 z4 → Q (-3) h1))) : Q v h' := by
  exact x_mef vc_restore_k hs (fun _ _ _ => False) Q h0 (fun i Ti hT => by cases hT)
def vc_personIn_T : xT := [(10, [.inl 1, .inr 0], 2, 5), (9, [.inr (-1)], 0, 0), (1, [.inr 3, .inl 4], 0, 0), (8, [.inl 5, .inr 1], 0, 0), (3, [.inr 3, .inl 4, .inl 6], 0, 0), (11, [.inr (-1)], 0, 0), (0, [.inr 11], 1, 0), (10, [.inl 1, .inl 4], 3, 5), (9, [.inr (-1)], 0, 0), (1, [.inr 3, .inl 5], 0, 0), (8, [.inl 6, .inr 1], 0, 0), (3, [.inr 3, .inl 5, .inl 7], 0, 0),
  (11, [.inr (-1)], 0, 0), (10, [.inl 2, .inr 0], 3, 23), (10, [.inl 2, .inr 60], 5, 17), (10, [.inl 3, .inr 0], 2, 5), (9, [.inr (-2)], 0, 0), (1, [.inr 3, .inl 5], 0, 0), (8, [.inl 6, .inr 1], 0, 0), (3, [.inr 3, .inl 5, .inl 7], 0, 0), (11, [.inr (-2)], 0, 0), (10, [.inl 3, .inr 2], 3, 5), (9, [.inr (-2)], 0, 0), (1, [.inr 3, .inl 5], 0, 0),
  (8, [.inl 6, .inr 1], 0, 0), (3, [.inr 3, .inl 5, .inl 7], 0, 0), (11, [.inr (-2)], 0, 0), (10, [.inl 3, .inr 0], 1, 2), (13, [.inr 11, .inl 1, .inl 2], 81, 0), (11, [.inl 5], 0, 0), (13, [.inr 11, .inl 1, .inl 2], 97, 0), (11, [.inl 5], 0, 0), (9, [.inr (-6)], 0, 0), (1, [.inr 3, .inl 5], 0, 0), (8, [.inl 6, .inr 1], 0, 0), (3, [.inr 3, .inl 5, .inl 7], 0, 0),
  (11, [.inr (-6)], 0, 0), (9, [.inr (-4)], 0, 0), (1, [.inr 3, .inl 5], 0, 0), (8, [.inl 6, .inr 1], 0, 0), (3, [.inr 3, .inl 5, .inl 7], 0, 0), (11, [.inr (-4)], 0, 0)]
theorem vc_personIn_k : x_chk 96 [] vc_personIn_T [] 600 = true := by decide +kernel
theorem vc_personIn {a0 a1 a2 a3 v : Int} {h h' : fH} (hs : fS 96 [a0, a1, a2, a3] h v h') (Q : Int → fH → Prop) (h0 : ((a1 < 0 → ∀ z4 : Int, z4 = wr (-(-1)) → ∀ z5 : Int, z5 = h 3 z4 → ∀ z6 : Int, z6 = wr (z5 + 1) → ∀ h1 : fH, h1 = fu h 3 z4 z6 → Q (-1) h1) ∧ (0 ≤ a1 → ∀ z4 : Int, z4 = h 11 1 → ((z4 ≤ a1 → ∀ z5 : Int, z5 = wr (-(-1)) → ∀ z6 : Int, z6 = h 3 z5 → ∀ z7 : Int, z7 = wr (z6 + 1) → ∀ h1 : fH, h1 = fu h 3 z5 z7 → Q (-1) h1) ∧ (a1 < z4 → ((0 ≤ a2 → ((a2 ≤ 60 → ((a3 < 0 → ∀ z5 : Int, z5 = wr (-(-2)) → ∀ z6 : Int, z6 = h 3 z5 → ∀ z7 : Int, z7 = wr (z6 + 1) → ∀ h1 : fH, h1 = fu h 3 z5 z7 → Q (-2) h1) ∧ (0 ≤ a3 → ((2 ≤ a3 → ∀ z5 : Int, z5 = wr (-(-2)) → ∀ z6 : Int, z6 = h 3 z5 → ∀ z7 : Int, z7 = wr (z6 + 1) → ∀ h1 : fH, h1 = fu h 3 z5 z7 → Q (-2) h1) ∧ (a3 < 2 → ((a3 ≠ 0 → ∀ (v1 : Int) (h1 : fH), fS 81 [11, a1, a2] h v1 h1 → Q v1 h1) ∧ (a3 = 0 → ∀ (v1 : Int) (h1 : fH), fS 97 [11, a1, a2] h v1 h1 → Q v1 h1))))))) ∧ (60 < a2 → ∀ z5 : Int, z5 = wr (-(-6)) → ∀ z6 : Int, z6 = h 3 z5 → ∀ z7 : Int, z7 = wr (z6 + 1) → ∀ h1 : fH, h1 = fu h 3 z5 z7 → Q (-6) h1))) ∧ (a2 < 0 → ∀ z5 : Int, z5 = wr (-(-4)) → ∀ z6 : Int, z6 = h 3 z5 → ∀ z7 : Int, z7 = wr (z6 + 1) → ∀ h1 : fH, h1 = fu h 3 z5 z7 → Q (-4) h1))))))) : Q v h' := by
  exact x_mef vc_personIn_k hs (fun _ _ _ => False) Q h0 (fun i Ti hT => by cases hT)
def vt_wedTo_T : xT := [(13, [.inl 0, .inl 1], 59, 0), (10, [.inl 3, .inr 0], 2, 3), (4, [.inl 0], 0, 8), (1, [.inl 4, .inl 1], 0, 0), (11, [.inl 5], 0, 0), (13, [.inl 0, .inl 1, .inl 2], 82, 0), (10, [.inl 4, .inr 0], 1, 12), (4, [.inl 0], 0, 19), (1, [.inl 5, .inl 3], 0, 0), (0, [.inl 6], 0, 0), (10, [.inl 7, .inl 1], 1, 4), (4, [.inl 0], 0, 19),
  (1, [.inl 8, .inl 3], 0, 0), (0, [.inl 9], 0, 0), (11, [.inl 10], 0, 0), (4, [.inl 0], 0, 19), (1, [.inl 8, .inl 3], 0, 0), (0, [.inl 9], 1, 0), (11, [.inl 10], 0, 0), (4, [.inl 0], 0, 8), (1, [.inl 5, .inl 1], 0, 0), (11, [.inl 6], 0, 0)]
theorem vt_wedTo_k : x_chk 97 [] vt_wedTo_T [] 600 = true := by decide +kernel
theorem vt_wedTo {a0 a1 a2 v : Int} {h h' : fH} (hs : fS 97 [a0, a1, a2] h v h') (Q : Int → fH → Prop) (h0 : ∀ (v1 : Int) (h1 : fH), fS 59 [a0, a1] h v1 h1 → ((v1 < 0 → ∀ z4 : Int, z4 = a0 + 8 → ∀ z5 : Int, z5 = h1 z4 a1 → Q z5 h1) ∧ (0 ≤ v1 → ∀ (v2 : Int) (h2 : fH), fS 82 [a0, a1, a2] h1 v2 h2 → ((v2 ≠ 0 → ∀ z5 : Int, z5 = a0 + 19 → ∀ z6 : Int, z6 = h2 z5 v1 → ∀ z7 : Int, z7 = h2 z6 0 → ((z7 ≠ a1 → ∀ z8 : Int, z8 = a0 + 19 → ∀ z9 : Int, z9 = h2 z8 v1 → ∀ z10 : Int, z10 = h2 z9 0 → Q z10 h2) ∧ (z7 = a1 → ∀ z8 : Int, z8 = a0 + 19 → ∀ z9 : Int, z9 = h2 z8 v1 → ∀ z10 : Int, z10 = h2 z9 1 → Q z10 h2))) ∧ (v2 = 0 → ∀ z5 : Int, z5 = a0 + 8 → ∀ z6 : Int, z6 = h2 z5 a1 → Q z6 h2))))) : Q v h' := by
  exact x_mef vt_wedTo_k hs (fun _ _ _ => False) Q h0 (fun i Ti hT => by cases hT)
def vc_beliefIn_T : xT := [(10, [.inl 1, .inr 0], 2, 5), (9, [.inr (-1)], 0, 0), (1, [.inr 3, .inl 4], 0, 0), (8, [.inl 5, .inr 1], 0, 0), (3, [.inr 3, .inl 4, .inl 6], 0, 0), (11, [.inr (-1)], 0, 0), (0, [.inr 11], 1, 0), (10, [.inl 1, .inl 4], 3, 5), (9, [.inr (-1)], 0, 0), (1, [.inr 3, .inl 5], 0, 0), (8, [.inl 6, .inr 1], 0, 0), (3, [.inr 3, .inl 5, .inl 7], 0, 0),
  (11, [.inr (-1)], 0, 0), (10, [.inl 2, .inr 0], 2, 5), (9, [.inr (-1)], 0, 0), (1, [.inr 3, .inl 5], 0, 0), (8, [.inl 6, .inr 1], 0, 0), (3, [.inr 3, .inl 5, .inl 7], 0, 0), (11, [.inr (-1)], 0, 0), (10, [.inl 2, .inr 5], 3, 5), (9, [.inr (-1)], 0, 0), (1, [.inr 3, .inl 5], 0, 0), (8, [.inl 6, .inr 1], 0, 0), (3, [.inr 3, .inl 5, .inl 7], 0, 0),
  (11, [.inr (-1)], 0, 0), (10, [.inl 3, .inr 0], 3, 8), (10, [.inl 3, .inr 60], 5, 2), (13, [.inr 11, .inl 1, .inl 2, .inl 3], 100, 0), (11, [.inl 5], 0, 0), (9, [.inr (-6)], 0, 0), (1, [.inr 3, .inl 5], 0, 0), (8, [.inl 6, .inr 1], 0, 0), (3, [.inr 3, .inl 5, .inl 7], 0, 0), (11, [.inr (-6)], 0, 0), (9, [.inr (-4)], 0, 0), (1, [.inr 3, .inl 5], 0, 0),
  (8, [.inl 6, .inr 1], 0, 0), (3, [.inr 3, .inl 5, .inl 7], 0, 0), (11, [.inr (-4)], 0, 0)]
theorem vc_beliefIn_k : x_chk 98 [] vc_beliefIn_T [] 600 = true := by decide +kernel
theorem vc_beliefIn {a0 a1 a2 a3 v : Int} {h h' : fH} (hs : fS 98 [a0, a1, a2, a3] h v h') (Q : Int → fH → Prop) (h0 : ((a1 < 0 → ∀ z4 : Int, z4 = wr (-(-1)) → ∀ z5 : Int, z5 = h 3 z4 → ∀ z6 : Int, z6 = wr (z5 + 1) → ∀ h1 : fH, h1 = fu h 3 z4 z6 → Q (-1) h1) ∧ (0 ≤ a1 → ∀ z4 : Int, z4 = h 11 1 → ((z4 ≤ a1 → ∀ z5 : Int, z5 = wr (-(-1)) → ∀ z6 : Int, z6 = h 3 z5 → ∀ z7 : Int, z7 = wr (z6 + 1) → ∀ h1 : fH, h1 = fu h 3 z5 z7 → Q (-1) h1) ∧ (a1 < z4 → ((a2 < 0 → ∀ z5 : Int, z5 = wr (-(-1)) → ∀ z6 : Int, z6 = h 3 z5 → ∀ z7 : Int, z7 = wr (z6 + 1) → ∀ h1 : fH, h1 = fu h 3 z5 z7 → Q (-1) h1) ∧ (0 ≤ a2 → ((5 ≤ a2 → ∀ z5 : Int, z5 = wr (-(-1)) → ∀ z6 : Int, z6 = h 3 z5 → ∀ z7 : Int, z7 = wr (z6 + 1) → ∀ h1 : fH, h1 = fu h 3 z5 z7 → Q (-1) h1) ∧ (a2 < 5 → ((0 ≤ a3 → ((a3 ≤ 60 → ∀ (v1 : Int) (h1 : fH), fS 100 [11, a1, a2, a3] h v1 h1 → Q v1 h1) ∧ (60 < a3 → ∀ z5 : Int, z5 = wr (-(-6)) → ∀ z6 : Int, z6 = h 3 z5 → ∀ z7 : Int, z7 = wr (z6 + 1) → ∀ h1 : fH, h1 = fu h 3 z5 z7 → Q (-6) h1))) ∧ (a3 < 0 → ∀ z5 : Int, z5 = wr (-(-4)) → ∀ z6 : Int, z6 = h 3 z5 → ∀ z7 : Int, z7 = wr (z6 + 1) → ∀ h1 : fH, h1 = fu h 3 z5 z7 → Q (-4) h1))))))))))) : Q v h' := by
  exact x_mef vc_beliefIn_k hs (fun _ _ _ => False) Q h0 (fun i Ti hT => by cases hT)
def vt_beliefOf_T : xT := [(4, [.inl 0], 0, 9), (5, [.inl 4, .inl 1], 0, 1), (1, [.inl 5, .inl 2], 0, 0), (12, [.inl 0, .inl 1, .inl 2, .inl 3, .inl 6, .inr 1], 0, 0)]
def vt_beliefOf_T0 : xT := [(10, [.inl 5, .inl 3], 4, 1), (11, [.inl 4], 0, 0), (4, [.inl 0], 0, 5), (1, [.inl 6, .inl 1], 0, 0), (0, [.inl 0], 15, 0), (8, [.inl 8, .inl 5], 0, 0), (4, [.inl 0], 0, 18), (1, [.inl 10, .inl 2], 0, 0), (8, [.inl 9, .inl 11], 0, 0), (4, [.inl 0], 0, 17), (1, [.inl 13, .inl 2], 0, 0), (8, [.inl 12, .inl 14], 10, 0),
  (10, [.inl 15, .inr 0], 1, 3), (13, [.inl 4, .inl 7, .inr 0], 72, 0), (8, [.inl 5, .inr 1], 0, 0), (12, [.inl 0, .inl 1, .inl 2, .inl 3, .inl 16, .inl 17], 0, 0), (13, [.inl 4, .inl 7, .inr 1], 72, 0), (8, [.inl 5, .inr 1], 0, 0), (12, [.inl 0, .inl 1, .inl 2, .inl 3, .inl 16, .inl 17], 0, 0)]
theorem vt_beliefOf_k : x_chk 100 [(13, [(0, 0), (1, 0), (2, 0), (3, 0), (4, 0), (5, 0)])] vt_beliefOf_T [vt_beliefOf_T0] 600 = true := by decide +kernel
theorem vt_beliefOf {a0 a1 a2 a3 v : Int} {h h' : fH} (hs : fS 100 [a0, a1, a2, a3] h v h') (I0 : Int → Int → Int → Int → Int → Int → fH → Prop) (Q : Int → fH → Prop) (h0 : ∀ z4 : Int, z4 = a0 + 9 → ∀ z5 : Int, z5 = z4 + 1 + 1 * a1 → ∀ z6 : Int, z6 = h z5 a2 → I0 a0 a1 a2 a3 z6 1 h) (k0 : ∀ (x0 x1 x2 x3 x4 x5 : Int) (h : fH), I0 x0 x1 x2 x3 x4 x5 h → ((x3 < x5 → Q x4 h) ∧ (x5 ≤ x3 → ∀ z6 : Int, z6 = x0 + 5 → ∀ z7 : Int, z7 = h z6 x1 → ∀ z8 : Int, z8 = h x0 15 → ∀ z9 : Int, z9 = wr (z8 + x5) → ∀ z10 : Int, z10 = x0 + 18 → ∀ z11 : Int, z11 = h z10 x2 → ∀ z12 : Int, z12 = wr (z9 + z11) → ∀ z13 : Int, z13 = x0 + 17 → ∀ z14 : Int, z14 = h z13 x2 → ∀ z15 : Int, z15 = xrem z12 z14 → ((z15 ≠ 0 → ∀ (v1 : Int) (h1 : fH), fS 72 [x4, z7, 0] h v1 h1 → ∀ z17 : Int, z17 = wr (x5 + 1) → I0 x0 x1 x2 x3 v1 z17 h1) ∧ (z15 = 0 → ∀ (v1 : Int) (h1 : fH), fS 72 [x4, z7, 1] h v1 h1 → ∀ z17 : Int, z17 = wr (x5 + 1) → I0 x0 x1 x2 x3 v1 z17 h1))))) : Q v h' := by
  refine x_mef vt_beliefOf_k hs (fun k l h => match k with
    | 0 => (match l with | [x0, x1, x2, x3, x4, x5] => I0 x0 x1 x2 x3 x4 x5 h | _ => False)
    | _ => False) Q h0 ?_
  intro i Ti hT vals h hi
  match i, hT, hi with
  | 0, hT, hi =>
    cases hT
    match vals, hi with
    | [x0, x1, x2, x3, x4, x5], hi => exact k0 _ _ _ _ _ _ _ hi
    | [], hi => exact False.elim hi
    | [_], hi => exact False.elim hi
    | [_, _], hi => exact False.elim hi
    | [_, _, _], hi => exact False.elim hi
    | [_, _, _, _], hi => exact False.elim hi
    | [_, _, _, _, _], hi => exact False.elim hi
    | _ :: _ :: _ :: _ :: _ :: _ :: _ :: _, hi => exact False.elim hi
  | _ + 1, hT, _ => cases hT
def vc_hope_T : xT := [(10, [.inl 1, .inr 0], 2, 6), (9, [.inr (-1)], 0, 0), (1, [.inr 3, .inl 4], 0, 0), (8, [.inl 5, .inr 1], 0, 0), (3, [.inr 3, .inl 4, .inl 6], 0, 0), (8, [.inr 1000000000, .inr (-1)], 1, 0), (11, [.inl 7], 0, 0), (0, [.inr 11], 1, 0), (10, [.inl 1, .inl 4], 3, 6), (9, [.inr (-1)], 0, 0), (1, [.inr 3, .inl 5], 0, 0), (8, [.inl 6, .inr 1], 0, 0),
  (3, [.inr 3, .inl 5, .inl 7], 0, 0), (8, [.inr 1000000000, .inr (-1)], 1, 0), (11, [.inl 8], 0, 0), (10, [.inl 2, .inr 0], 2, 6), (9, [.inr (-1)], 0, 0), (1, [.inr 3, .inl 5], 0, 0), (8, [.inl 6, .inr 1], 0, 0), (3, [.inr 3, .inl 5, .inl 7], 0, 0), (8, [.inr 1000000000, .inr (-1)], 1, 0), (11, [.inl 8], 0, 0), (10, [.inl 2, .inr 5], 3, 6), (9, [.inr (-1)], 0, 0),
  (1, [.inr 3, .inl 5], 0, 0), (8, [.inl 6, .inr 1], 0, 0), (3, [.inr 3, .inl 5, .inl 7], 0, 0), (8, [.inr 1000000000, .inr (-1)], 1, 0), (11, [.inl 8], 0, 0), (10, [.inl 3, .inr 0], 3, 12), (10, [.inl 3, .inr 60], 5, 5), (13, [.inr 11, .inl 1, .inl 2, .inl 3], 100, 0), (5, [.inr 20, .inl 1], 0, 1), (1, [.inl 6, .inl 2], 0, 0), (8, [.inl 5, .inl 7], 1, 0), (11, [.inl 8], 0, 0),
  (9, [.inr (-6)], 0, 0), (1, [.inr 3, .inl 5], 0, 0), (8, [.inl 6, .inr 1], 0, 0), (3, [.inr 3, .inl 5, .inl 7], 0, 0), (8, [.inr 1000000000, .inr (-6)], 1, 0), (11, [.inl 8], 0, 0), (9, [.inr (-4)], 0, 0), (1, [.inr 3, .inl 5], 0, 0), (8, [.inl 6, .inr 1], 0, 0), (3, [.inr 3, .inl 5, .inl 7], 0, 0), (8, [.inr 1000000000, .inr (-4)], 1, 0), (11, [.inl 8], 0, 0)]
theorem vc_hope_k : x_chk 101 [] vc_hope_T [] 600 = true := by decide +kernel
theorem vc_hope {a0 a1 a2 a3 v : Int} {h h' : fH} (hs : fS 101 [a0, a1, a2, a3] h v h') (Q : Int → fH → Prop) (h0 : ((a1 < 0 → ∀ z4 : Int, z4 = wr (-(-1)) → ∀ z5 : Int, z5 = h 3 z4 → ∀ z6 : Int, z6 = wr (z5 + 1) → ∀ h1 : fH, h1 = fu h 3 z4 z6 → ∀ z7 : Int, z7 = wr (1000000000 - (-1)) → Q z7 h1) ∧ (0 ≤ a1 → ∀ z4 : Int, z4 = h 11 1 → ((z4 ≤ a1 → ∀ z5 : Int, z5 = wr (-(-1)) → ∀ z6 : Int, z6 = h 3 z5 → ∀ z7 : Int, z7 = wr (z6 + 1) → ∀ h1 : fH, h1 = fu h 3 z5 z7 → ∀ z8 : Int, z8 = wr (1000000000 - (-1)) → Q z8 h1) ∧ (a1 < z4 → ((a2 < 0 → ∀ z5 : Int, z5 = wr (-(-1)) → ∀ z6 : Int, z6 = h 3 z5 → ∀ z7 : Int, z7 = wr (z6 + 1) → ∀ h1 : fH, h1 = fu h 3 z5 z7 → ∀ z8 : Int, z8 = wr (1000000000 - (-1)) → Q z8 h1) ∧ (0 ≤ a2 → ((5 ≤ a2 → ∀ z5 : Int, z5 = wr (-(-1)) → ∀ z6 : Int, z6 = h 3 z5 → ∀ z7 : Int, z7 = wr (z6 + 1) → ∀ h1 : fH, h1 = fu h 3 z5 z7 → ∀ z8 : Int, z8 = wr (1000000000 - (-1)) → Q z8 h1) ∧ (a2 < 5 → ((0 ≤ a3 → ((a3 ≤ 60 → ∀ (v1 : Int) (h1 : fH), fS 100 [11, a1, a2, a3] h v1 h1 → ∀ z6 : Int, z6 = 20 + 1 + 1 * a1 → ∀ z7 : Int, z7 = h1 z6 a2 → ∀ z8 : Int, z8 = wr (v1 - z7) → Q z8 h1) ∧ (60 < a3 → ∀ z5 : Int, z5 = wr (-(-6)) → ∀ z6 : Int, z6 = h 3 z5 → ∀ z7 : Int, z7 = wr (z6 + 1) → ∀ h1 : fH, h1 = fu h 3 z5 z7 → ∀ z8 : Int, z8 = wr (1000000000 - (-6)) → Q z8 h1))) ∧ (a3 < 0 → ∀ z5 : Int, z5 = wr (-(-4)) → ∀ z6 : Int, z6 = h 3 z5 → ∀ z7 : Int, z7 = wr (z6 + 1) → ∀ h1 : fH, h1 = fu h 3 z5 z7 → ∀ z8 : Int, z8 = wr (1000000000 - (-4)) → Q z8 h1))))))))))) : Q v h' := by
  exact x_mef vc_hope_k hs (fun _ _ _ => False) Q h0 (fun i Ti hT => by cases hT)
def vc_wedIn_T : xT := [(10, [.inl 1, .inr 0], 3, 8), (10, [.inl 1, .inr 60], 5, 2), (13, [.inr 11, .inl 1], 91, 0), (11, [.inl 2], 0, 0), (9, [.inr (-6)], 0, 0), (1, [.inr 3, .inl 2], 0, 0), (8, [.inl 3, .inr 1], 0, 0), (3, [.inr 3, .inl 2, .inl 4], 0, 0), (11, [.inr (-6)], 0, 0), (9, [.inr (-4)], 0, 0), (1, [.inr 3, .inl 2], 0, 0), (8, [.inl 3, .inr 1], 0, 0),
  (3, [.inr 3, .inl 2, .inl 4], 0, 0), (11, [.inr (-4)], 0, 0)]
theorem vc_wedIn_k : x_chk 102 [] vc_wedIn_T [] 600 = true := by decide +kernel
theorem vc_wedIn {a0 a1 v : Int} {h h' : fH} (hs : fS 102 [a0, a1] h v h') (Q : Int → fH → Prop) (h0 : ((0 ≤ a1 → ((a1 ≤ 60 → ∀ (v1 : Int) (h1 : fH), fS 91 [11, a1] h v1 h1 → Q v1 h1) ∧ (60 < a1 → ∀ z2 : Int, z2 = wr (-(-6)) → ∀ z3 : Int, z3 = h 3 z2 → ∀ z4 : Int, z4 = wr (z3 + 1) → ∀ h1 : fH, h1 = fu h 3 z2 z4 → Q (-6) h1))) ∧ (a1 < 0 → ∀ z2 : Int, z2 = wr (-(-4)) → ∀ z3 : Int, z3 = h 3 z2 → ∀ z4 : Int, z4 = wr (z3 + 1) → ∀ h1 : fH, h1 = fu h 3 z2 z4 → Q (-4) h1))) : Q v h' := by
  exact x_mef vc_wedIn_k hs (fun _ _ _ => False) Q h0 (fun i Ti hT => by cases hT)
def vc_wedWhen_T : xT := [(10, [.inl 1, .inr (-1)], 1, 15), (10, [.inl 1, .inr 0], 2, 5), (9, [.inr (-1)], 0, 0), (1, [.inr 3, .inl 2], 0, 0), (8, [.inl 3, .inr 1], 0, 0), (3, [.inr 3, .inl 2, .inl 4], 0, 0), (11, [.inr (-1)], 0, 0), (0, [.inr 11], 1, 0), (10, [.inl 1, .inl 2], 3, 5), (9, [.inr (-1)], 0, 0), (1, [.inr 3, .inl 3], 0, 0), (8, [.inl 4, .inr 1], 0, 0),
  (3, [.inr 3, .inl 3, .inl 5], 0, 0), (11, [.inr (-1)], 0, 0), (13, [.inr 11, .inl 1], 83, 0), (11, [.inl 3], 0, 0), (13, [.inl 0], 104, 0), (11, [.inl 2], 0, 0)]
theorem vc_wedWhen_k : x_chk 103 [] vc_wedWhen_T [] 600 = true := by decide +kernel
theorem vc_wedWhen {a0 a1 v : Int} {h h' : fH} (hs : fS 103 [a0, a1] h v h') (Q : Int → fH → Prop) (h0 : ((a1 ≠ (-1) → ((a1 < 0 → ∀ z2 : Int, z2 = wr (-(-1)) → ∀ z3 : Int, z3 = h 3 z2 → ∀ z4 : Int, z4 = wr (z3 + 1) → ∀ h1 : fH, h1 = fu h 3 z2 z4 → Q (-1) h1) ∧ (0 ≤ a1 → ∀ z2 : Int, z2 = h 11 1 → ((z2 ≤ a1 → ∀ z3 : Int, z3 = wr (-(-1)) → ∀ z4 : Int, z4 = h 3 z3 → ∀ z5 : Int, z5 = wr (z4 + 1) → ∀ h1 : fH, h1 = fu h 3 z3 z5 → Q (-1) h1) ∧ (a1 < z2 → ∀ (v1 : Int) (h1 : fH), fS 83 [11, a1] h v1 h1 → Q v1 h1))))) ∧ (a1 = (-1) → ∀ (v1 : Int) (h1 : fH), fS 104 [a0] h v1 h1 → Q v1 h1))) : Q v h' := by
  exact x_mef vc_wedWhen_k hs (fun _ _ _ => False) Q h0 (fun i Ti hT => by cases hT)
def vc_firstToWed_T : xT := [(12, [.inl 0, .inr (-9), .inr 61, .inr 0], 0, 0)]
def vc_firstToWed_T0 : xT := [(0, [.inr 11], 1, 0), (10, [.inl 3, .inl 4], 3, 1), (11, [.inl 1], 0, 0), (13, [.inr 11, .inl 3], 83, 0), (10, [.inl 5, .inr 0], 5, 2), (8, [.inl 3, .inr 1], 0, 0), (12, [.inl 0, .inl 1, .inl 2, .inl 6], 0, 0), (10, [.inl 5, .inl 2], 3, 2), (8, [.inl 3, .inr 1], 0, 0), (12, [.inl 0, .inl 1, .inl 2, .inl 6], 0, 0), (8, [.inl 3, .inr 1], 0, 0), (12, [.inl 0, .inl 3, .inl 5, .inl 6], 0, 0)]
theorem vc_firstToWed_k : x_chk 104 [(8, [(0, 0), (1, 0), (2, 0), (3, 0)])] vc_firstToWed_T [vc_firstToWed_T0] 600 = true := by decide +kernel
theorem vc_firstToWed {a0 v : Int} {h h' : fH} (hs : fS 104 [a0] h v h') (I0 : Int → Int → Int → Int → fH → Prop) (Q : Int → fH → Prop) (h0 : I0 a0 (-9) 61 0 h) (k0 : ∀ (x0 x1 x2 x3 : Int) (h : fH), I0 x0 x1 x2 x3 h → ∀ z4 : Int, z4 = h 11 1 → ((z4 ≤ x3 → Q x1 h) ∧ (x3 < z4 → ∀ (v1 : Int) (h1 : fH), fS 83 [11, x3] h v1 h1 → ((v1 ≤ 0 → ∀ z6 : Int, z6 = wr (x3 + 1) → I0 x0 x1 x2 z6 h1) ∧ (0 < v1 → ((x2 ≤ v1 → ∀ z6 : Int, z6 = wr (x3 + 1) → I0 x0 x1 x2 z6 h1) ∧ (v1 < x2 → ∀ z6 : Int, z6 = wr (x3 + 1) → I0 x0 x3 v1 z6 h1))))))) : Q v h' := by
  refine x_mef vc_firstToWed_k hs (fun k l h => match k with
    | 0 => (match l with | [x0, x1, x2, x3] => I0 x0 x1 x2 x3 h | _ => False)
    | _ => False) Q h0 ?_
  intro i Ti hT vals h hi
  match i, hT, hi with
  | 0, hT, hi =>
    cases hT
    match vals, hi with
    | [x0, x1, x2, x3], hi => exact k0 _ _ _ _ _ hi
    | [], hi => exact False.elim hi
    | [_], hi => exact False.elim hi
    | [_, _], hi => exact False.elim hi
    | [_, _, _], hi => exact False.elim hi
    | _ :: _ :: _ :: _ :: _ :: _, hi => exact False.elim hi
  | _ + 1, hT, _ => cases hT
def vc_happens_T : xT := [(10, [.inl 1, .inr 0], 2, 5), (9, [.inr (-1)], 0, 0), (1, [.inr 3, .inl 3], 0, 0), (8, [.inl 4, .inr 1], 0, 0), (3, [.inr 3, .inl 3, .inl 5], 0, 0), (11, [.inr (-1)], 0, 0), (10, [.inl 1, .inr 5], 3, 5), (9, [.inr (-1)], 0, 0), (1, [.inr 3, .inl 3], 0, 0), (8, [.inl 4, .inr 1], 0, 0), (3, [.inr 3, .inl 3, .inl 5], 0, 0), (11, [.inr (-1)], 0, 0),
  (10, [.inl 2, .inr 0], 3, 7), (10, [.inl 2, .inr 60], 5, 1), (12, [.inl 0, .inl 1, .inl 2, .inr 0, .inr 1], 0, 0), (9, [.inr (-6)], 0, 0), (1, [.inr 3, .inl 3], 0, 0), (8, [.inl 4, .inr 1], 0, 0), (3, [.inr 3, .inl 3, .inl 5], 0, 0), (11, [.inr (-6)], 0, 0), (9, [.inr (-4)], 0, 0), (1, [.inr 3, .inl 3], 0, 0), (8, [.inl 4, .inr 1], 0, 0), (3, [.inr 3, .inl 3, .inl 5], 0, 0),
  (11, [.inr (-4)], 0, 0)]
def vc_happens_T0 : xT := [(10, [.inl 4, .inl 2], 4, 1), (11, [.inl 3], 0, 0), (0, [.inr 11], 15, 0), (8, [.inl 5, .inl 4], 0, 0), (1, [.inr 29, .inl 1], 0, 0), (8, [.inl 6, .inl 7], 0, 0), (1, [.inr 28, .inl 1], 0, 0), (8, [.inl 8, .inl 9], 10, 0), (10, [.inl 10, .inr 0], 1, 2), (8, [.inl 4, .inr 1], 0, 0), (12, [.inl 0, .inl 1, .inl 2, .inl 3, .inl 11], 0, 0), (8, [.inl 3, .inr 1], 0, 0),
  (8, [.inl 4, .inr 1], 0, 0), (12, [.inl 0, .inl 1, .inl 2, .inl 11, .inl 12], 0, 0)]
theorem vc_happens_k : x_chk 105 [(42, [(0, 0), (1, 0), (2, 0), (3, 0), (4, 0)])] vc_happens_T [vc_happens_T0] 600 = true := by decide +kernel
theorem vc_happens {a0 a1 a2 v : Int} {h h' : fH} (hs : fS 105 [a0, a1, a2] h v h') (I0 : Int → Int → Int → Int → Int → fH → Prop) (Q : Int → fH → Prop) (h0 : ((a1 < 0 → ∀ z3 : Int, z3 = wr (-(-1)) → ∀ z4 : Int, z4 = h 3 z3 → ∀ z5 : Int, z5 = wr (z4 + 1) → ∀ h1 : fH, h1 = fu h 3 z3 z5 → Q (-1) h1) ∧ (0 ≤ a1 → ((5 ≤ a1 → ∀ z3 : Int, z3 = wr (-(-1)) → ∀ z4 : Int, z4 = h 3 z3 → ∀ z5 : Int, z5 = wr (z4 + 1) → ∀ h1 : fH, h1 = fu h 3 z3 z5 → Q (-1) h1) ∧ (a1 < 5 → ((0 ≤ a2 → ((a2 ≤ 60 → I0 a0 a1 a2 0 1 h) ∧ (60 < a2 → ∀ z3 : Int, z3 = wr (-(-6)) → ∀ z4 : Int, z4 = h 3 z3 → ∀ z5 : Int, z5 = wr (z4 + 1) → ∀ h1 : fH, h1 = fu h 3 z3 z5 → Q (-6) h1))) ∧ (a2 < 0 → ∀ z3 : Int, z3 = wr (-(-4)) → ∀ z4 : Int, z4 = h 3 z3 → ∀ z5 : Int, z5 = wr (z4 + 1) → ∀ h1 : fH, h1 = fu h 3 z3 z5 → Q (-4) h1))))))) (k0 : ∀ (x0 x1 x2 x3 x4 : Int) (h : fH), I0 x0 x1 x2 x3 x4 h → ((x2 < x4 → Q x3 h) ∧ (x4 ≤ x2 → ∀ z5 : Int, z5 = h 11 15 → ∀ z6 : Int, z6 = wr (z5 + x4) → ∀ z7 : Int, z7 = h 29 x1 → ∀ z8 : Int, z8 = wr (z6 + z7) → ∀ z9 : Int, z9 = h 28 x1 → ∀ z10 : Int, z10 = xrem z8 z9 → ((z10 ≠ 0 → ∀ z11 : Int, z11 = wr (x4 + 1) → I0 x0 x1 x2 x3 z11 h) ∧ (z10 = 0 → ∀ z11 : Int, z11 = wr (x3 + 1) → ∀ z12 : Int, z12 = wr (x4 + 1) → I0 x0 x1 x2 z11 z12 h))))) : Q v h' := by
  refine x_mef vc_happens_k hs (fun k l h => match k with
    | 0 => (match l with | [x0, x1, x2, x3, x4] => I0 x0 x1 x2 x3 x4 h | _ => False)
    | _ => False) Q h0 ?_
  intro i Ti hT vals h hi
  match i, hT, hi with
  | 0, hT, hi =>
    cases hT
    match vals, hi with
    | [x0, x1, x2, x3, x4], hi => exact k0 _ _ _ _ _ _ hi
    | [], hi => exact False.elim hi
    | [_], hi => exact False.elim hi
    | [_, _], hi => exact False.elim hi
    | [_, _, _], hi => exact False.elim hi
    | [_, _, _, _], hi => exact False.elim hi
    | _ :: _ :: _ :: _ :: _ :: _ :: _, hi => exact False.elim hi
  | _ + 1, hT, _ => cases hT
