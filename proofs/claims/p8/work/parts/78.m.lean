section
/-! the trees of the methods (made by a program) -/
def vr_feed_T : xT := [(2, [.inl 0, .inr 0], 16, 0), (10, [.inl 1, .inr 0], 3, 20), (10, [.inl 1, .inr 255], 4, 5), (9, [.inr (-6)], 0, 0), (1, [.inr 285, .inl 2], 0, 0), (8, [.inl 3, .inr 1], 0, 0), (3, [.inr 285, .inl 2, .inl 4], 0, 0), (11, [.inr (-6)], 0, 0), (0, [.inl 0], 19, 0), (10, [.inl 2, .inr 96], 1, 7), (0, [.inl 0], 19, 0), (3, [.inr 286, .inl 3, .inl 1], 0, 0),
  (0, [.inl 0], 19, 0), (8, [.inl 4, .inr 1], 0, 0), (2, [.inl 0, .inl 5], 19, 0), (0, [.inl 0], 19, 0), (11, [.inl 6], 0, 0), (9, [.inr (-6)], 0, 0), (1, [.inr 285, .inl 3], 0, 0), (8, [.inl 4, .inr 1], 0, 0), (3, [.inr 285, .inl 3, .inl 5], 0, 0), (11, [.inr (-6)], 0, 0), (9, [.inr (-4)], 0, 0), (1, [.inr 285, .inl 2], 0, 0),
  (8, [.inl 3, .inr 1], 0, 0), (3, [.inr 285, .inl 2, .inl 4], 0, 0), (11, [.inr (-4)], 0, 0)]
theorem vr_feed_k : x_chk 150 [] vr_feed_T [] 600 = true := by decide +kernel
theorem vr_feed {a0 a1 v : Int} {h h' : fH} (hs : fS 150 [a0, a1] h v h') (Q : Int → fH → Prop) (h0 : ∀ h1 : fH, h1 = fu h a0 16 0 → ((0 ≤ a1 → ((255 < a1 → ∀ z2 : Int, z2 = wr (-(-6)) → ∀ z3 : Int, z3 = h1 285 z2 → ∀ z4 : Int, z4 = wr (z3 + 1) → ∀ h2 : fH, h2 = fu h1 285 z2 z4 → Q (-6) h2) ∧ (a1 ≤ 255 → ∀ z2 : Int, z2 = h1 a0 19 → ((z2 ≠ 96 → ∀ z3 : Int, z3 = h1 a0 19 → ∀ h2 : fH, h2 = fu h1 286 z3 a1 → ∀ z4 : Int, z4 = h2 a0 19 → ∀ z5 : Int, z5 = wr (z4 + 1) → ∀ h3 : fH, h3 = fu h2 a0 19 z5 → ∀ z6 : Int, z6 = h3 a0 19 → Q z6 h3) ∧ (z2 = 96 → ∀ z3 : Int, z3 = wr (-(-6)) → ∀ z4 : Int, z4 = h1 285 z3 → ∀ z5 : Int, z5 = wr (z4 + 1) → ∀ h2 : fH, h2 = fu h1 285 z3 z5 → Q (-6) h2))))) ∧ (a1 < 0 → ∀ z2 : Int, z2 = wr (-(-4)) → ∀ z3 : Int, z3 = h1 285 z2 → ∀ z4 : Int, z4 = wr (z3 + 1) → ∀ h2 : fH, h2 = fu h1 285 z2 z4 → Q (-4) h2))) : Q v h' := by
  exact x_mef vr_feed_k hs (fun _ _ _ => False) Q h0 (fun i Ti hT => by cases hT)
def vr_town_T : xT := [(2, [.inl 0, .inr 0], 16, 0), (2, [.inl 0, .inr 0], 20, 0), (2, [.inl 0, .inr 0], 21, 0), (2, [.inl 0, .inr 0], 22, 0), (12, [.inl 0], 0, 0)]
def vr_town_T0 : xT := [(0, [.inl 0], 21, 0), (10, [.inl 1, .inr 0], 1, 8), (2, [.inl 0, .inr 0], 19, 0), (0, [.inl 0], 21, 0), (10, [.inl 2, .inr 0], 0, 2), (13, [.inl 0, .inr 290, .inr 1], 159, 0), (12, [.inl 0, .inr 0], 1, 0), (0, [.inl 0], 20, 0), (8, [.inr (-1000), .inl 3], 1, 0), (11, [.inl 4], 0, 0), (0, [.inl 0], 22, 0), (10, [.inl 2, .inr 0], 0, 2),
  (13, [.inl 0], 153, 0), (12, [.inl 0], 0, 0), (0, [.inl 0], 20, 0), (0, [.inl 0], 19, 0), (10, [.inl 3, .inl 4], 3, 8), (2, [.inl 0, .inr 0], 19, 0), (0, [.inl 0], 21, 0), (10, [.inl 5, .inr 0], 0, 2), (13, [.inl 0, .inr 290, .inr 1], 159, 0), (12, [.inl 0, .inr 0], 1, 0), (0, [.inl 0], 20, 0), (8, [.inr (-1000), .inl 6], 1, 0),
  (11, [.inl 7], 0, 0), (13, [.inl 0], 153, 0), (12, [.inl 0], 0, 0)]
def vr_town_T1 : xT := [(0, [.inl 0], 22, 0), (10, [.inl 1, .inl 2], 3, 3), (2, [.inl 0, .inr 0], 34, 0), (0, [.inl 0], 22, 0), (11, [.inl 3], 0, 0), (13, [.inl 0, .inl 1], 161, 0), (10, [.inl 3, .inr 0], 1, 2), (8, [.inl 1, .inr 1], 0, 0), (12, [.inl 0, .inl 4], 1, 0), (13, [.inl 0, .inr 290, .inr 0], 159, 0), (1, [.inr 287, .inl 1], 0, 0), (8, [.inr (-2000), .inl 5], 1, 0),
  (11, [.inl 6], 0, 0)]
theorem vr_town_k : x_chk 152 [(20, [(0, 0)]), (79, [(0, 0), (1, 0)])] vr_town_T [vr_town_T0, vr_town_T1] 600 = true := by decide +kernel
theorem vr_town {a0 v : Int} {h h' : fH} (hs : fS 152 [a0] h v h') (I0 : Int → fH → Prop) (I1 : Int → Int → fH → Prop) (Q : Int → fH → Prop) (h0 : ∀ h1 : fH, h1 = fu h a0 16 0 → ∀ h2 : fH, h2 = fu h1 a0 20 0 → ∀ h3 : fH, h3 = fu h2 a0 21 0 → ∀ h4 : fH, h4 = fu h3 a0 22 0 → I0 a0 h4) (k0 : ∀ (x0 : Int) (h : fH), I0 x0 h → ∀ z1 : Int, z1 = h x0 21 → ((z1 ≠ 0 → ∀ h1 : fH, h1 = fu h x0 19 0 → ∀ z2 : Int, z2 = h1 x0 21 → ((z2 = 0 → ∀ (v2 : Int) (h2 : fH), fS 159 [x0, 290, 1] h1 v2 h2 → I1 x0 0 h2) ∧ (z2 ≠ 0 → ∀ z3 : Int, z3 = h1 x0 20 → ∀ z4 : Int, z4 = wr ((-1000) - z3) → Q z4 h1))) ∧ (z1 = 0 → ∀ z2 : Int, z2 = h x0 22 → ((z2 = 0 → ∀ (v1 : Int) (h1 : fH), fS 153 [x0] h v1 h1 → I0 x0 h1) ∧ (z2 ≠ 0 → ∀ z3 : Int, z3 = h x0 20 → ∀ z4 : Int, z4 = h x0 19 → ((z4 ≤ z3 → ∀ h1 : fH, h1 = fu h x0 19 0 → ∀ z5 : Int, z5 = h1 x0 21 → ((z5 = 0 → ∀ (v2 : Int) (h2 : fH), fS 159 [x0, 290, 1] h1 v2 h2 → I1 x0 0 h2) ∧ (z5 ≠ 0 → ∀ z6 : Int, z6 = h1 x0 20 → ∀ z7 : Int, z7 = wr ((-1000) - z6) → Q z7 h1))) ∧ (z3 < z4 → ∀ (v1 : Int) (h1 : fH), fS 153 [x0] h v1 h1 → I0 x0 h1))))))) (k1 : ∀ (x0 x1 : Int) (h : fH), I1 x0 x1 h → ∀ z2 : Int, z2 = h x0 22 → ((z2 ≤ x1 → ∀ h1 : fH, h1 = fu h x0 34 0 → ∀ z3 : Int, z3 = h1 x0 22 → Q z3 h1) ∧ (x1 < z2 → ∀ (v1 : Int) (h1 : fH), fS 161 [x0, x1] h v1 h1 → ((v1 ≠ 0 → ∀ z4 : Int, z4 = wr (x1 + 1) → I1 x0 z4 h1) ∧ (v1 = 0 → ∀ (v2 : Int) (h2 : fH), fS 159 [x0, 290, 0] h1 v2 h2 → ∀ z5 : Int, z5 = h2 287 x1 → ∀ z6 : Int, z6 = wr ((-2000) - z5) → Q z6 h2))))) : Q v h' := by
  refine x_mef vr_town_k hs (fun k l h => match k with
    | 0 => (match l with | [x0] => I0 x0 h | _ => False)
    | 1 => (match l with | [x0, x1] => I1 x0 x1 h | _ => False)
    | _ => False) Q h0 ?_
  intro i Ti hT vals h hi
  match i, hT, hi with
  | 0, hT, hi =>
    cases hT
    match vals, hi with
    | [x0], hi => exact k0 _ _ hi
    | [], hi => exact False.elim hi
    | _ :: _ :: _, hi => exact False.elim hi
  | 1, hT, hi =>
    cases hT
    match vals, hi with
    | [x0, x1], hi => exact k1 _ _ _ hi
    | [], hi => exact False.elim hi
    | [_], hi => exact False.elim hi
    | _ :: _ :: _ :: _, hi => exact False.elim hi
  | _ + 2, hT, _ => cases hT
def vr_readStatement_T : xT := [(0, [.inl 0], 22, 0), (13, [.inl 0], 154, 0), (0, [.inl 0], 20, 0), (3, [.inr 287, .inl 1, .inl 3], 0, 0), (3, [.inr 288, .inl 1, .inl 2], 0, 0), (0, [.inl 0], 21, 0), (10, [.inl 4, .inr 0], 1, 10), (2, [.inl 0, .inr 1], 21, 0), (0, [.inl 0], 20, 0), (0, [.inl 0], 21, 0), (10, [.inl 6, .inr 0], 0, 3), (8, [.inl 5, .inr 1], 0, 0),
  (2, [.inl 0, .inl 7], 20, 0), (12, [.inl 0, .inl 1, .inl 2, .inr 0], 0, 0), (8, [.inl 5, .inr 0], 0, 0), (2, [.inl 0, .inl 7], 20, 0), (12, [.inl 0, .inl 1, .inl 2, .inr 0], 0, 0), (13, [.inl 2], 155, 0), (10, [.inl 5, .inr 0], 1, 10), (2, [.inl 0, .inr 0], 21, 0), (0, [.inl 0], 20, 0), (0, [.inl 0], 21, 0), (10, [.inl 7, .inr 0], 0, 3), (8, [.inl 6, .inr 1], 0, 0),
  (2, [.inl 0, .inl 8], 20, 0), (12, [.inl 0, .inl 1, .inl 2, .inr 0], 0, 0), (8, [.inl 6, .inr 0], 0, 0), (2, [.inl 0, .inl 8], 20, 0), (12, [.inl 0, .inl 1, .inl 2, .inr 0], 0, 0), (2, [.inl 0, .inr 1], 21, 0), (0, [.inl 0], 20, 0), (0, [.inl 0], 21, 0), (10, [.inl 7, .inr 0], 0, 3), (8, [.inl 6, .inr 1], 0, 0), (2, [.inl 0, .inl 8], 20, 0), (12, [.inl 0, .inl 1, .inl 2, .inr 0], 0, 0),
  (8, [.inl 6, .inr 0], 0, 0), (2, [.inl 0, .inl 8], 20, 0), (12, [.inl 0, .inl 1, .inl 2, .inr 0], 0, 0)]
def vr_readStatement_T0 : xT := [(13, [.inl 2], 155, 0), (10, [.inl 3, .inl 4], 3, 52), (0, [.inl 0], 21, 0), (10, [.inl 5, .inr 0], 1, 16), (2, [.inl 0, .inr 1], 21, 0), (0, [.inl 0], 20, 0), (0, [.inl 0], 21, 0), (10, [.inl 7, .inr 0], 0, 6), (8, [.inl 6, .inr 1], 0, 0), (2, [.inl 0, .inl 8], 20, 0), (0, [.inl 0], 22, 0), (8, [.inl 9, .inr 1], 0, 0),
  (2, [.inl 0, .inl 10], 22, 0), (11, [.inr 0], 0, 0), (8, [.inl 6, .inr 0], 0, 0), (2, [.inl 0, .inl 8], 20, 0), (0, [.inl 0], 22, 0), (8, [.inl 9, .inr 1], 0, 0), (2, [.inl 0, .inl 10], 22, 0), (11, [.inr 0], 0, 0), (13, [.inl 0], 154, 0), (10, [.inl 6, .inr 59], 0, 16), (2, [.inl 0, .inr 0], 21, 0), (0, [.inl 0], 20, 0),
  (0, [.inl 0], 21, 0), (10, [.inl 8, .inr 0], 0, 6), (8, [.inl 7, .inr 1], 0, 0), (2, [.inl 0, .inl 9], 20, 0), (0, [.inl 0], 22, 0), (8, [.inl 10, .inr 1], 0, 0), (2, [.inl 0, .inl 11], 22, 0), (11, [.inr 0], 0, 0), (8, [.inl 7, .inr 0], 0, 0), (2, [.inl 0, .inl 9], 20, 0), (0, [.inl 0], 22, 0), (8, [.inl 10, .inr 1], 0, 0),
  (2, [.inl 0, .inl 11], 22, 0), (11, [.inr 0], 0, 0), (2, [.inl 0, .inr 1], 21, 0), (0, [.inl 0], 20, 0), (0, [.inl 0], 21, 0), (10, [.inl 8, .inr 0], 0, 6), (8, [.inl 7, .inr 1], 0, 0), (2, [.inl 0, .inl 9], 20, 0), (0, [.inl 0], 22, 0), (8, [.inl 10, .inr 1], 0, 0), (2, [.inl 0, .inl 11], 22, 0), (11, [.inr 0], 0, 0),
  (8, [.inl 7, .inr 0], 0, 0), (2, [.inl 0, .inl 9], 20, 0), (0, [.inl 0], 22, 0), (8, [.inl 10, .inr 1], 0, 0), (2, [.inl 0, .inl 11], 22, 0), (11, [.inr 0], 0, 0), (8, [.inr 5, .inl 1], 2, 0), (8, [.inl 5, .inl 3], 0, 0), (13, [.inl 0], 156, 0), (3, [.inr 289, .inl 6, .inl 7], 0, 0), (8, [.inl 3, .inr 1], 0, 0), (12, [.inl 0, .inl 1, .inl 2, .inl 8], 0, 0)]
theorem vr_readStatement_k : x_chk 153 [(73, [(0, 0), (1, 0), (2, 0), (3, 0)])] vr_readStatement_T [vr_readStatement_T0] 600 = true := by decide +kernel
theorem vr_readStatement {a0 v : Int} {h h' : fH} (hs : fS 153 [a0] h v h') (I0 : Int → Int → Int → Int → fH → Prop) (Q : Int → fH → Prop) (h0 : ∀ z1 : Int, z1 = h a0 22 → ∀ (v1 : Int) (h1 : fH), fS 154 [a0] h v1 h1 → ∀ z3 : Int, z3 = h1 a0 20 → ∀ h2 : fH, h2 = fu h1 287 z1 z3 → ∀ h3 : fH, h3 = fu h2 288 z1 v1 → ∀ z4 : Int, z4 = h3 a0 21 → ((z4 ≠ 0 → ∀ h4 : fH, h4 = fu h3 a0 21 1 → ∀ z5 : Int, z5 = h4 a0 20 → ∀ z6 : Int, z6 = h4 a0 21 → ((z6 = 0 → ∀ z7 : Int, z7 = wr (z5 + 1) → ∀ h5 : fH, h5 = fu h4 a0 20 z7 → I0 a0 z1 v1 0 h5) ∧ (z6 ≠ 0 → ∀ z7 : Int, z7 = wr (z5 + 0) → ∀ h5 : fH, h5 = fu h4 a0 20 z7 → I0 a0 z1 v1 0 h5))) ∧ (z4 = 0 → ∀ (v4 : Int) (h4 : fH), fS 155 [v1] h3 v4 h4 → ((v4 ≠ 0 → ∀ h5 : fH, h5 = fu h4 a0 21 0 → ∀ z6 : Int, z6 = h5 a0 20 → ∀ z7 : Int, z7 = h5 a0 21 → ((z7 = 0 → ∀ z8 : Int, z8 = wr (z6 + 1) → ∀ h6 : fH, h6 = fu h5 a0 20 z8 → I0 a0 z1 v1 0 h6) ∧ (z7 ≠ 0 → ∀ z8 : Int, z8 = wr (z6 + 0) → ∀ h6 : fH, h6 = fu h5 a0 20 z8 → I0 a0 z1 v1 0 h6))) ∧ (v4 = 0 → ∀ h5 : fH, h5 = fu h4 a0 21 1 → ∀ z6 : Int, z6 = h5 a0 20 → ∀ z7 : Int, z7 = h5 a0 21 → ((z7 = 0 → ∀ z8 : Int, z8 = wr (z6 + 1) → ∀ h6 : fH, h6 = fu h5 a0 20 z8 → I0 a0 z1 v1 0 h6) ∧ (z7 ≠ 0 → ∀ z8 : Int, z8 = wr (z6 + 0) → ∀ h6 : fH, h6 = fu h5 a0 20 z8 → I0 a0 z1 v1 0 h6))))))) (k0 : ∀ (x0 x1 x2 x3 : Int) (h : fH), I0 x0 x1 x2 x3 h → ∀ (v1 : Int) (h1 : fH), fS 155 [x2] h v1 h1 → ((v1 ≤ x3 → ∀ z5 : Int, z5 = h1 x0 21 → ((z5 ≠ 0 → ∀ h2 : fH, h2 = fu h1 x0 21 1 → ∀ z6 : Int, z6 = h2 x0 20 → ∀ z7 : Int, z7 = h2 x0 21 → ((z7 = 0 → ∀ z8 : Int, z8 = wr (z6 + 1) → ∀ h3 : fH, h3 = fu h2 x0 20 z8 → ∀ z9 : Int, z9 = h3 x0 22 → ∀ z10 : Int, z10 = wr (z9 + 1) → ∀ h4 : fH, h4 = fu h3 x0 22 z10 → Q 0 h4) ∧ (z7 ≠ 0 → ∀ z8 : Int, z8 = wr (z6 + 0) → ∀ h3 : fH, h3 = fu h2 x0 20 z8 → ∀ z9 : Int, z9 = h3 x0 22 → ∀ z10 : Int, z10 = wr (z9 + 1) → ∀ h4 : fH, h4 = fu h3 x0 22 z10 → Q 0 h4))) ∧ (z5 = 0 → ∀ (v2 : Int) (h2 : fH), fS 154 [x0] h1 v2 h2 → ((v2 = 59 → ∀ h3 : fH, h3 = fu h2 x0 21 0 → ∀ z7 : Int, z7 = h3 x0 20 → ∀ z8 : Int, z8 = h3 x0 21 → ((z8 = 0 → ∀ z9 : Int, z9 = wr (z7 + 1) → ∀ h4 : fH, h4 = fu h3 x0 20 z9 → ∀ z10 : Int, z10 = h4 x0 22 → ∀ z11 : Int, z11 = wr (z10 + 1) → ∀ h5 : fH, h5 = fu h4 x0 22 z11 → Q 0 h5) ∧ (z8 ≠ 0 → ∀ z9 : Int, z9 = wr (z7 + 0) → ∀ h4 : fH, h4 = fu h3 x0 20 z9 → ∀ z10 : Int, z10 = h4 x0 22 → ∀ z11 : Int, z11 = wr (z10 + 1) → ∀ h5 : fH, h5 = fu h4 x0 22 z11 → Q 0 h5))) ∧ (v2 ≠ 59 → ∀ h3 : fH, h3 = fu h2 x0 21 1 → ∀ z7 : Int, z7 = h3 x0 20 → ∀ z8 : Int, z8 = h3 x0 21 → ((z8 = 0 → ∀ z9 : Int, z9 = wr (z7 + 1) → ∀ h4 : fH, h4 = fu h3 x0 20 z9 → ∀ z10 : Int, z10 = h4 x0 22 → ∀ z11 : Int, z11 = wr (z10 + 1) → ∀ h5 : fH, h5 = fu h4 x0 22 z11 → Q 0 h5) ∧ (z8 ≠ 0 → ∀ z9 : Int, z9 = wr (z7 + 0) → ∀ h4 : fH, h4 = fu h3 x0 20 z9 → ∀ z10 : Int, z10 = h4 x0 22 → ∀ z11 : Int, z11 = wr (z10 + 1) → ∀ h5 : fH, h5 = fu h4 x0 22 z11 → Q 0 h5))))))) ∧ (x3 < v1 → ∀ z5 : Int, z5 = wr (5 * x1) → ∀ z6 : Int, z6 = wr (z5 + x3) → ∀ (v2 : Int) (h2 : fH), fS 156 [x0] h1 v2 h2 → ∀ h3 : fH, h3 = fu h2 289 z6 v2 → ∀ z8 : Int, z8 = wr (x3 + 1) → I0 x0 x1 x2 z8 h3))) : Q v h' := by
  refine x_mef vr_readStatement_k hs (fun k l h => match k with
    | 0 => (match l with | [x0, x1, x2, x3] => I0 x0 x1 x2 x3 h | _ => False)
    | _ => False) Q h0 ?_
  intro i Ti hT vals h hi
  match i, hT, hi with
  | 0, hT, hi =>
    cases hT
    match vals, hi with
    | [x0, x1, x2, x3], hi => exact k0 _ _ _ _ _ hi
    | [], hi => exact False.elim hi
    | [_], hi => exact False.elim hi
    | [_, _], hi => exact False.elim hi
    | [_, _, _], hi => exact False.elim hi
    | _ :: _ :: _ :: _ :: _ :: _, hi => exact False.elim hi
  | _ + 1, hT, _ => cases hT
def vr_here_T : xT := [(0, [.inl 0], 20, 0), (0, [.inl 0], 19, 0), (10, [.inl 1, .inl 2], 3, 1), (11, [.inr (-1)], 0, 0), (0, [.inl 0], 20, 0), (1, [.inr 286, .inl 3], 0, 0), (11, [.inl 4], 0, 0)]
theorem vr_here_k : x_chk 154 [] vr_here_T [] 600 = true := by decide +kernel
theorem vr_here {a0 v : Int} {h h' : fH} (hs : fS 154 [a0] h v h') (Q : Int → fH → Prop) (h0 : ∀ z1 : Int, z1 = h a0 20 → ∀ z2 : Int, z2 = h a0 19 → ((z2 ≤ z1 → Q (-1) h) ∧ (z1 < z2 → ∀ z3 : Int, z3 = h a0 20 → ∀ z4 : Int, z4 = h 286 z3 → Q z4 h))) : Q v h' := by
  exact x_mef vr_here_k hs (fun _ _ _ => False) Q h0 (fun i Ti hT => by cases hT)
def vr_digitsOf_T : xT := [(10, [.inl 0, .inr 112], 0, 1), (11, [.inr 2], 0, 0), (10, [.inl 0, .inr 119], 0, 1), (11, [.inr 2], 0, 0), (10, [.inl 0, .inr 100], 1, 7), (10, [.inl 0, .inr 101], 0, 1), (11, [.inr 3], 0, 0), (10, [.inl 0, .inr 98], 1, 3), (10, [.inl 0, .inr 97], 1, 1), (11, [.inr 0], 0, 0), (11, [.inr 5], 0, 0), (11, [.inr 3], 0, 0),
  (11, [.inr 2], 0, 0)]
theorem vr_digitsOf_k : x_chk 155 [] vr_digitsOf_T [] 600 = true := by decide +kernel
theorem vr_digitsOf {a0 v : Int} {h h' : fH} (hs : fS 155 [a0] h v h') (Q : Int → fH → Prop) (h0 : ((a0 = 112 → Q 2 h) ∧ (a0 ≠ 112 → ((a0 = 119 → Q 2 h) ∧ (a0 ≠ 119 → ((a0 ≠ 100 → ((a0 = 101 → Q 3 h) ∧ (a0 ≠ 101 → ((a0 ≠ 98 → ((a0 ≠ 97 → Q 0 h) ∧ (a0 = 97 → Q 5 h))) ∧ (a0 = 98 → Q 3 h))))) ∧ (a0 = 100 → Q 2 h))))))) : Q v h' := by
  exact x_mef vr_digitsOf_k hs (fun _ _ _ => False) Q h0 (fun i Ti hT => by cases hT)
def vr_readDigit_T : xT := [(0, [.inl 0], 21, 0), (10, [.inl 1, .inr 0], 1, 24), (2, [.inl 0, .inr 1], 21, 0), (0, [.inl 0], 21, 0), (10, [.inl 2, .inr 0], 0, 12), (0, [.inl 0], 20, 0), (1, [.inr 286, .inl 3], 0, 0), (8, [.inl 4, .inr 48], 1, 0), (0, [.inl 0], 20, 0), (0, [.inl 0], 21, 0), (10, [.inl 7, .inr 0], 0, 3), (8, [.inl 6, .inr 1], 0, 0),
  (2, [.inl 0, .inl 8], 20, 0), (11, [.inl 5], 0, 0), (8, [.inl 6, .inr 0], 0, 0), (2, [.inl 0, .inl 8], 20, 0), (11, [.inl 5], 0, 0), (0, [.inl 0], 20, 0), (0, [.inl 0], 21, 0), (10, [.inl 4, .inr 0], 0, 3), (8, [.inl 3, .inr 1], 0, 0), (2, [.inl 0, .inl 5], 20, 0), (11, [.inr 0], 0, 0), (8, [.inl 3, .inr 0], 0, 0),
  (2, [.inl 0, .inl 5], 20, 0), (11, [.inr 0], 0, 0), (13, [.inl 0], 154, 0), (8, [.inl 2, .inr 48], 18, 0), (10, [.inl 3, .inr 0], 2, 24), (2, [.inl 0, .inr 1], 21, 0), (0, [.inl 0], 21, 0), (10, [.inl 4, .inr 0], 0, 12), (0, [.inl 0], 20, 0), (1, [.inr 286, .inl 5], 0, 0), (8, [.inl 6, .inr 48], 1, 0), (0, [.inl 0], 20, 0),
  (0, [.inl 0], 21, 0), (10, [.inl 9, .inr 0], 0, 3), (8, [.inl 8, .inr 1], 0, 0), (2, [.inl 0, .inl 10], 20, 0), (11, [.inl 7], 0, 0), (8, [.inl 8, .inr 0], 0, 0), (2, [.inl 0, .inl 10], 20, 0), (11, [.inl 7], 0, 0), (0, [.inl 0], 20, 0), (0, [.inl 0], 21, 0), (10, [.inl 6, .inr 0], 0, 3), (8, [.inl 5, .inr 1], 0, 0),
  (2, [.inl 0, .inl 7], 20, 0), (11, [.inr 0], 0, 0), (8, [.inl 5, .inr 0], 0, 0), (2, [.inl 0, .inl 7], 20, 0), (11, [.inr 0], 0, 0), (8, [.inl 2, .inr 57], 18, 0), (10, [.inl 4, .inr 0], 4, 24), (2, [.inl 0, .inr 1], 21, 0), (0, [.inl 0], 21, 0), (10, [.inl 5, .inr 0], 0, 12), (0, [.inl 0], 20, 0), (1, [.inr 286, .inl 6], 0, 0),
  (8, [.inl 7, .inr 48], 1, 0), (0, [.inl 0], 20, 0), (0, [.inl 0], 21, 0), (10, [.inl 10, .inr 0], 0, 3), (8, [.inl 9, .inr 1], 0, 0), (2, [.inl 0, .inl 11], 20, 0), (11, [.inl 8], 0, 0), (8, [.inl 9, .inr 0], 0, 0), (2, [.inl 0, .inl 11], 20, 0), (11, [.inl 8], 0, 0), (0, [.inl 0], 20, 0), (0, [.inl 0], 21, 0),
  (10, [.inl 7, .inr 0], 0, 3), (8, [.inl 6, .inr 1], 0, 0), (2, [.inl 0, .inl 8], 20, 0), (11, [.inr 0], 0, 0), (8, [.inl 6, .inr 0], 0, 0), (2, [.inl 0, .inl 8], 20, 0), (11, [.inr 0], 0, 0), (2, [.inl 0, .inr 0], 21, 0), (0, [.inl 0], 21, 0), (10, [.inl 5, .inr 0], 0, 12), (0, [.inl 0], 20, 0), (1, [.inr 286, .inl 6], 0, 0),
  (8, [.inl 7, .inr 48], 1, 0), (0, [.inl 0], 20, 0), (0, [.inl 0], 21, 0), (10, [.inl 10, .inr 0], 0, 3), (8, [.inl 9, .inr 1], 0, 0), (2, [.inl 0, .inl 11], 20, 0), (11, [.inl 8], 0, 0), (8, [.inl 9, .inr 0], 0, 0), (2, [.inl 0, .inl 11], 20, 0), (11, [.inl 8], 0, 0), (0, [.inl 0], 20, 0), (0, [.inl 0], 21, 0),
  (10, [.inl 7, .inr 0], 0, 3), (8, [.inl 6, .inr 1], 0, 0), (2, [.inl 0, .inl 8], 20, 0), (11, [.inr 0], 0, 0), (8, [.inl 6, .inr 0], 0, 0), (2, [.inl 0, .inl 8], 20, 0), (11, [.inr 0], 0, 0)]
theorem vr_readDigit_k : x_chk 156 [] vr_readDigit_T [] 600 = true := by decide +kernel
theorem vr_readDigit {a0 v : Int} {h h' : fH} (hs : fS 156 [a0] h v h') (Q : Int → fH → Prop) (h0 : ∀ z1 : Int, z1 = h a0 21 → ((z1 ≠ 0 → ∀ h1 : fH, h1 = fu h a0 21 1 → ∀ z2 : Int, z2 = h1 a0 21 → ((z2 = 0 → ∀ z3 : Int, z3 = h1 a0 20 → ∀ z4 : Int, z4 = h1 286 z3 → ∀ z5 : Int, z5 = wr (z4 - 48) → ∀ z6 : Int, z6 = h1 a0 20 → ∀ z7 : Int, z7 = h1 a0 21 → ((z7 = 0 → ∀ z8 : Int, z8 = wr (z6 + 1) → ∀ h2 : fH, h2 = fu h1 a0 20 z8 → Q z5 h2) ∧ (z7 ≠ 0 → ∀ z8 : Int, z8 = wr (z6 + 0) → ∀ h2 : fH, h2 = fu h1 a0 20 z8 → Q z5 h2))) ∧ (z2 ≠ 0 → ∀ z3 : Int, z3 = h1 a0 20 → ∀ z4 : Int, z4 = h1 a0 21 → ((z4 = 0 → ∀ z5 : Int, z5 = wr (z3 + 1) → ∀ h2 : fH, h2 = fu h1 a0 20 z5 → Q 0 h2) ∧ (z4 ≠ 0 → ∀ z5 : Int, z5 = wr (z3 + 0) → ∀ h2 : fH, h2 = fu h1 a0 20 z5 → Q 0 h2))))) ∧ (z1 = 0 → ∀ (v1 : Int) (h1 : fH), fS 154 [a0] h v1 h1 → ∀ z3 : Int, z3 = xlcmp v1 48 → ((z3 < 0 → ∀ h2 : fH, h2 = fu h1 a0 21 1 → ∀ z4 : Int, z4 = h2 a0 21 → ((z4 = 0 → ∀ z5 : Int, z5 = h2 a0 20 → ∀ z6 : Int, z6 = h2 286 z5 → ∀ z7 : Int, z7 = wr (z6 - 48) → ∀ z8 : Int, z8 = h2 a0 20 → ∀ z9 : Int, z9 = h2 a0 21 → ((z9 = 0 → ∀ z10 : Int, z10 = wr (z8 + 1) → ∀ h3 : fH, h3 = fu h2 a0 20 z10 → Q z7 h3) ∧ (z9 ≠ 0 → ∀ z10 : Int, z10 = wr (z8 + 0) → ∀ h3 : fH, h3 = fu h2 a0 20 z10 → Q z7 h3))) ∧ (z4 ≠ 0 → ∀ z5 : Int, z5 = h2 a0 20 → ∀ z6 : Int, z6 = h2 a0 21 → ((z6 = 0 → ∀ z7 : Int, z7 = wr (z5 + 1) → ∀ h3 : fH, h3 = fu h2 a0 20 z7 → Q 0 h3) ∧ (z6 ≠ 0 → ∀ z7 : Int, z7 = wr (z5 + 0) → ∀ h3 : fH, h3 = fu h2 a0 20 z7 → Q 0 h3))))) ∧ (0 ≤ z3 → ∀ z4 : Int, z4 = xlcmp v1 57 → ((0 < z4 → ∀ h2 : fH, h2 = fu h1 a0 21 1 → ∀ z5 : Int, z5 = h2 a0 21 → ((z5 = 0 → ∀ z6 : Int, z6 = h2 a0 20 → ∀ z7 : Int, z7 = h2 286 z6 → ∀ z8 : Int, z8 = wr (z7 - 48) → ∀ z9 : Int, z9 = h2 a0 20 → ∀ z10 : Int, z10 = h2 a0 21 → ((z10 = 0 → ∀ z11 : Int, z11 = wr (z9 + 1) → ∀ h3 : fH, h3 = fu h2 a0 20 z11 → Q z8 h3) ∧ (z10 ≠ 0 → ∀ z11 : Int, z11 = wr (z9 + 0) → ∀ h3 : fH, h3 = fu h2 a0 20 z11 → Q z8 h3))) ∧ (z5 ≠ 0 → ∀ z6 : Int, z6 = h2 a0 20 → ∀ z7 : Int, z7 = h2 a0 21 → ((z7 = 0 → ∀ z8 : Int, z8 = wr (z6 + 1) → ∀ h3 : fH, h3 = fu h2 a0 20 z8 → Q 0 h3) ∧ (z7 ≠ 0 → ∀ z8 : Int, z8 = wr (z6 + 0) → ∀ h3 : fH, h3 = fu h2 a0 20 z8 → Q 0 h3))))) ∧ (z4 ≤ 0 → ∀ h2 : fH, h2 = fu h1 a0 21 0 → ∀ z5 : Int, z5 = h2 a0 21 → ((z5 = 0 → ∀ z6 : Int, z6 = h2 a0 20 → ∀ z7 : Int, z7 = h2 286 z6 → ∀ z8 : Int, z8 = wr (z7 - 48) → ∀ z9 : Int, z9 = h2 a0 20 → ∀ z10 : Int, z10 = h2 a0 21 → ((z10 = 0 → ∀ z11 : Int, z11 = wr (z9 + 1) → ∀ h3 : fH, h3 = fu h2 a0 20 z11 → Q z8 h3) ∧ (z10 ≠ 0 → ∀ z11 : Int, z11 = wr (z9 + 0) → ∀ h3 : fH, h3 = fu h2 a0 20 z11 → Q z8 h3))) ∧ (z5 ≠ 0 → ∀ z6 : Int, z6 = h2 a0 20 → ∀ z7 : Int, z7 = h2 a0 21 → ((z7 = 0 → ∀ z8 : Int, z8 = wr (z6 + 1) → ∀ h3 : fH, h3 = fu h2 a0 20 z8 → Q 0 h3) ∧ (z7 ≠ 0 → ∀ z8 : Int, z8 = wr (z6 + 0) → ∀ h3 : fH, h3 = fu h2 a0 20 z8 → Q 0 h3))))))))))) : Q v h' := by
  exact x_mef vr_readDigit_k hs (fun _ _ _ => False) Q h0 (fun i Ti hT => by cases hT)
def vr_carryAll_T : xT := [(2, [.inl 0, .inl 1], 31, 0), (2, [.inl 0, .inl 2], 30, 0), (2, [.inl 0, .inr 0], 29, 0), (0, [.inl 0], 0, 0), (13, [.inl 0, .inl 3], 160, 0), (2, [.inl 0, .inl 4], 0, 0), (0, [.inl 0], 15, 0), (13, [.inl 0, .inl 5], 160, 0), (2, [.inl 0, .inl 6], 15, 0), (0, [.inl 0], 9, 0), (13, [.inl 0, .inl 7], 160, 0), (2, [.inl 0, .inl 8], 9, 0),
  (12, [.inl 0, .inr 0], 0, 0)]
def vr_carryAll_T0 : xT := [(10, [.inl 1, .inr 7], 3, 1), (12, [.inl 0, .inr 0], 1, 0), (1, [.inr 272, .inl 1], 0, 0), (13, [.inl 0, .inl 2], 160, 0), (3, [.inr 272, .inl 1, .inl 3], 0, 0), (1, [.inr 273, .inl 1], 0, 0), (13, [.inl 0, .inl 4], 160, 0), (3, [.inr 273, .inl 1, .inl 5], 0, 0), (1, [.inr 274, .inl 1], 0, 0), (13, [.inl 0, .inl 6], 160, 0), (3, [.inr 274, .inl 1, .inl 7], 0, 0), (1, [.inr 275, .inl 1], 0, 0),
  (13, [.inl 0, .inl 8], 160, 0), (3, [.inr 275, .inl 1, .inl 9], 0, 0), (1, [.inr 276, .inl 1], 0, 0), (13, [.inl 0, .inl 10], 160, 0), (3, [.inr 276, .inl 1, .inl 11], 0, 0), (8, [.inl 1, .inr 1], 0, 0), (12, [.inl 0, .inl 12], 0, 0)]
def vr_carryAll_T1 : xT := [(10, [.inl 1, .inr 35], 3, 1), (12, [.inl 0, .inr 0], 2, 0), (1, [.inr 277, .inl 1], 0, 0), (13, [.inl 0, .inl 2], 160, 0), (3, [.inr 277, .inl 1, .inl 3], 0, 0), (8, [.inl 1, .inr 1], 0, 0), (12, [.inl 0, .inl 4], 1, 0)]
def vr_carryAll_T2 : xT := [(10, [.inl 1, .inr 5], 3, 1), (12, [.inl 0, .inr 0], 3, 0), (1, [.inr 278, .inl 1], 0, 0), (13, [.inl 0, .inl 2], 160, 0), (3, [.inr 278, .inl 1, .inl 3], 0, 0), (1, [.inr 279, .inl 1], 0, 0), (13, [.inl 0, .inl 4], 160, 0), (3, [.inr 279, .inl 1, .inl 5], 0, 0), (8, [.inl 1, .inr 1], 0, 0), (12, [.inl 0, .inl 6], 2, 0)]
def vr_carryAll_T3 : xT := [(10, [.inl 1, .inr 6], 3, 1), (11, [.inr 0], 0, 0), (1, [.inr 280, .inl 1], 0, 0), (13, [.inl 0, .inl 2], 160, 0), (3, [.inr 280, .inl 1, .inl 3], 0, 0), (1, [.inr 281, .inl 1], 0, 0), (13, [.inl 0, .inl 4], 160, 0), (3, [.inr 281, .inl 1, .inl 5], 0, 0), (1, [.inr 282, .inl 1], 0, 0), (13, [.inl 0, .inl 6], 160, 0), (3, [.inr 282, .inl 1, .inl 7], 0, 0), (1, [.inr 283, .inl 1], 0, 0),
  (13, [.inl 0, .inl 8], 160, 0), (3, [.inr 283, .inl 1, .inl 9], 0, 0), (1, [.inr 284, .inl 1], 0, 0), (13, [.inl 0, .inl 10], 160, 0), (3, [.inr 284, .inl 1, .inl 11], 0, 0), (8, [.inl 1, .inr 1], 0, 0), (12, [.inl 0, .inl 12], 3, 0)]
theorem vr_carryAll_k : x_chk 159 [(53, [(0, 0), (3, 0)]), (147, [(0, 0), (3, 0)]), (177, [(0, 0), (3, 0)]), (222, [(0, 0), (3, 0)])] vr_carryAll_T [vr_carryAll_T0, vr_carryAll_T1, vr_carryAll_T2, vr_carryAll_T3] 600 = true := by decide +kernel
theorem vr_carryAll {a0 a1 a2 v : Int} {h h' : fH} (hs : fS 159 [a0, a1, a2] h v h') (I0 : Int → Int → fH → Prop) (I1 : Int → Int → fH → Prop) (I2 : Int → Int → fH → Prop) (I3 : Int → Int → fH → Prop) (Q : Int → fH → Prop) (h0 : ∀ h1 : fH, h1 = fu h a0 31 a1 → ∀ h2 : fH, h2 = fu h1 a0 30 a2 → ∀ h3 : fH, h3 = fu h2 a0 29 0 → ∀ z3 : Int, z3 = h3 a0 0 → ∀ (v4 : Int) (h4 : fH), fS 160 [a0, z3] h3 v4 h4 → ∀ h5 : fH, h5 = fu h4 a0 0 v4 → ∀ z5 : Int, z5 = h5 a0 15 → ∀ (v6 : Int) (h6 : fH), fS 160 [a0, z5] h5 v6 h6 → ∀ h7 : fH, h7 = fu h6 a0 15 v6 → ∀ z7 : Int, z7 = h7 a0 9 → ∀ (v8 : Int) (h8 : fH), fS 160 [a0, z7] h7 v8 h8 → ∀ h9 : fH, h9 = fu h8 a0 9 v8 → I0 a0 0 h9) (k0 : ∀ (x0 x3 : Int) (h : fH), I0 x0 x3 h → ((7 ≤ x3 → I1 x0 0 h) ∧ (x3 < 7 → ∀ z2 : Int, z2 = h 272 x3 → ∀ (v1 : Int) (h1 : fH), fS 160 [x0, z2] h v1 h1 → ∀ h2 : fH, h2 = fu h1 272 x3 v1 → ∀ z4 : Int, z4 = h2 273 x3 → ∀ (v3 : Int) (h3 : fH), fS 160 [x0, z4] h2 v3 h3 → ∀ h4 : fH, h4 = fu h3 273 x3 v3 → ∀ z6 : Int, z6 = h4 274 x3 → ∀ (v5 : Int) (h5 : fH), fS 160 [x0, z6] h4 v5 h5 → ∀ h6 : fH, h6 = fu h5 274 x3 v5 → ∀ z8 : Int, z8 = h6 275 x3 → ∀ (v7 : Int) (h7 : fH), fS 160 [x0, z8] h6 v7 h7 → ∀ h8 : fH, h8 = fu h7 275 x3 v7 → ∀ z10 : Int, z10 = h8 276 x3 → ∀ (v9 : Int) (h9 : fH), fS 160 [x0, z10] h8 v9 h9 → ∀ h10 : fH, h10 = fu h9 276 x3 v9 → ∀ z12 : Int, z12 = wr (x3 + 1) → I0 x0 z12 h10))) (k1 : ∀ (x0 x3 : Int) (h : fH), I1 x0 x3 h → ((35 ≤ x3 → I2 x0 0 h) ∧ (x3 < 35 → ∀ z2 : Int, z2 = h 277 x3 → ∀ (v1 : Int) (h1 : fH), fS 160 [x0, z2] h v1 h1 → ∀ h2 : fH, h2 = fu h1 277 x3 v1 → ∀ z4 : Int, z4 = wr (x3 + 1) → I1 x0 z4 h2))) (k2 : ∀ (x0 x3 : Int) (h : fH), I2 x0 x3 h → ((5 ≤ x3 → I3 x0 0 h) ∧ (x3 < 5 → ∀ z2 : Int, z2 = h 278 x3 → ∀ (v1 : Int) (h1 : fH), fS 160 [x0, z2] h v1 h1 → ∀ h2 : fH, h2 = fu h1 278 x3 v1 → ∀ z4 : Int, z4 = h2 279 x3 → ∀ (v3 : Int) (h3 : fH), fS 160 [x0, z4] h2 v3 h3 → ∀ h4 : fH, h4 = fu h3 279 x3 v3 → ∀ z6 : Int, z6 = wr (x3 + 1) → I2 x0 z6 h4))) (k3 : ∀ (x0 x3 : Int) (h : fH), I3 x0 x3 h → ((6 ≤ x3 → Q 0 h) ∧ (x3 < 6 → ∀ z2 : Int, z2 = h 280 x3 → ∀ (v1 : Int) (h1 : fH), fS 160 [x0, z2] h v1 h1 → ∀ h2 : fH, h2 = fu h1 280 x3 v1 → ∀ z4 : Int, z4 = h2 281 x3 → ∀ (v3 : Int) (h3 : fH), fS 160 [x0, z4] h2 v3 h3 → ∀ h4 : fH, h4 = fu h3 281 x3 v3 → ∀ z6 : Int, z6 = h4 282 x3 → ∀ (v5 : Int) (h5 : fH), fS 160 [x0, z6] h4 v5 h5 → ∀ h6 : fH, h6 = fu h5 282 x3 v5 → ∀ z8 : Int, z8 = h6 283 x3 → ∀ (v7 : Int) (h7 : fH), fS 160 [x0, z8] h6 v7 h7 → ∀ h8 : fH, h8 = fu h7 283 x3 v7 → ∀ z10 : Int, z10 = h8 284 x3 → ∀ (v9 : Int) (h9 : fH), fS 160 [x0, z10] h8 v9 h9 → ∀ h10 : fH, h10 = fu h9 284 x3 v9 → ∀ z12 : Int, z12 = wr (x3 + 1) → I3 x0 z12 h10))) : Q v h' := by
  refine x_mef vr_carryAll_k hs (fun k l h => match k with
    | 0 => (match l with | [x0, x3] => I0 x0 x3 h | _ => False)
    | 1 => (match l with | [x0, x3] => I1 x0 x3 h | _ => False)
    | 2 => (match l with | [x0, x3] => I2 x0 x3 h | _ => False)
    | 3 => (match l with | [x0, x3] => I3 x0 x3 h | _ => False)
    | _ => False) Q h0 ?_
  intro i Ti hT vals h hi
  match i, hT, hi with
  | 0, hT, hi =>
    cases hT
    match vals, hi with
    | [x0, x3], hi => exact k0 _ _ _ hi
    | [], hi => exact False.elim hi
    | [_], hi => exact False.elim hi
    | _ :: _ :: _ :: _, hi => exact False.elim hi
  | 1, hT, hi =>
    cases hT
    match vals, hi with
    | [x0, x3], hi => exact k1 _ _ _ hi
    | [], hi => exact False.elim hi
    | [_], hi => exact False.elim hi
    | _ :: _ :: _ :: _, hi => exact False.elim hi
  | 2, hT, hi =>
    cases hT
    match vals, hi with
    | [x0, x3], hi => exact k2 _ _ _ hi
    | [], hi => exact False.elim hi
    | [_], hi => exact False.elim hi
    | _ :: _ :: _ :: _, hi => exact False.elim hi
  | 3, hT, hi =>
    cases hT
    match vals, hi with
    | [x0, x3], hi => exact k3 _ _ _ hi
    | [], hi => exact False.elim hi
    | [_], hi => exact False.elim hi
    | _ :: _ :: _ :: _, hi => exact False.elim hi
  | _ + 4, hT, _ => cases hT
end
section
/-! the trees of the methods (made by a program) -/
def vr_carry_T : xT := [(0, [.inl 0], 30, 0), (10, [.inl 2, .inr 0], 0, 8), (0, [.inl 0], 29, 0), (8, [.inl 3, .inr 1], 0, 0), (2, [.inl 0, .inl 4], 29, 0), (0, [.inl 0], 31, 0), (0, [.inl 0], 29, 0), (8, [.inl 6, .inr 1], 1, 0), (1, [.inl 5, .inl 7], 0, 0), (11, [.inl 8], 0, 0), (0, [.inl 0], 31, 0), (0, [.inl 0], 29, 0),
  (3, [.inl 3, .inl 4, .inl 1], 0, 0), (0, [.inl 0], 29, 0), (8, [.inl 5, .inr 1], 0, 0), (2, [.inl 0, .inl 6], 29, 0), (0, [.inl 0], 31, 0), (0, [.inl 0], 29, 0), (8, [.inl 8, .inr 1], 1, 0), (1, [.inl 7, .inl 9], 0, 0), (11, [.inl 10], 0, 0)]
theorem vr_carry_k : x_chk 160 [] vr_carry_T [] 600 = true := by decide +kernel
theorem vr_carry {a0 a1 v : Int} {h h' : fH} (hs : fS 160 [a0, a1] h v h') (Q : Int → fH → Prop) (h0 : ∀ z2 : Int, z2 = h a0 30 → ((z2 = 0 → ∀ z3 : Int, z3 = h a0 29 → ∀ z4 : Int, z4 = wr (z3 + 1) → ∀ h1 : fH, h1 = fu h a0 29 z4 → ∀ z5 : Int, z5 = h1 a0 31 → ∀ z6 : Int, z6 = h1 a0 29 → ∀ z7 : Int, z7 = wr (z6 - 1) → ∀ z8 : Int, z8 = h1 z5 z7 → Q z8 h1) ∧ (z2 ≠ 0 → ∀ z3 : Int, z3 = h a0 31 → ∀ z4 : Int, z4 = h a0 29 → ∀ h1 : fH, h1 = fu h z3 z4 a1 → ∀ z5 : Int, z5 = h1 a0 29 → ∀ z6 : Int, z6 = wr (z5 + 1) → ∀ h2 : fH, h2 = fu h1 a0 29 z6 → ∀ z7 : Int, z7 = h2 a0 31 → ∀ z8 : Int, z8 = h2 a0 29 → ∀ z9 : Int, z9 = wr (z8 - 1) → ∀ z10 : Int, z10 = h2 z7 z9 → Q z10 h2))) : Q v h' := by
  exact x_mef vr_carry_k hs (fun _ _ _ => False) Q h0 (fun i Ti hT => by cases hT)
def vr_comesTold_T : xT := [(8, [.inr 5, .inl 1], 2, 0), (1, [.inr 289, .inl 2], 0, 0), (8, [.inr 5, .inl 1], 2, 0), (8, [.inl 4, .inr 1], 0, 0), (1, [.inr 289, .inl 5], 0, 0), (8, [.inr 5, .inl 1], 2, 0), (8, [.inl 7, .inr 2], 0, 0), (1, [.inr 289, .inl 8], 0, 0), (1, [.inr 288, .inl 1], 0, 0), (10, [.inl 10, .inr 97], 0, 8), (8, [.inr 5, .inl 1], 2, 0), (8, [.inl 11, .inr 3], 0, 0),
  (1, [.inr 289, .inl 12], 0, 0), (8, [.inr 5, .inl 1], 2, 0), (8, [.inl 14, .inr 4], 0, 0), (1, [.inr 289, .inl 15], 0, 0), (13, [.inl 0, .inl 3, .inl 6, .inl 9, .inl 13, .inl 16], 165, 0), (11, [.inl 17], 0, 0), (10, [.inl 10, .inr 98], 0, 18), (0, [.inl 0], 0, 0), (8, [.inl 11, .inr 1], 1, 0), (8, [.inl 3, .inr 0], 18, 0), (10, [.inl 13, .inr 0], 2, 1), (11, [.inr 0], 0, 0),
  (8, [.inl 3, .inl 12], 18, 0), (10, [.inl 14, .inr 0], 4, 1), (11, [.inr 0], 0, 0), (8, [.inl 6, .inr 0], 18, 0), (10, [.inl 15, .inr 0], 2, 1), (11, [.inr 0], 0, 0), (8, [.inl 6, .inr 4], 18, 0), (10, [.inl 16, .inr 0], 4, 1), (11, [.inr 0], 0, 0), (8, [.inr 5, .inl 3], 2, 0), (8, [.inl 17, .inl 6], 0, 0), (3, [.inr 277, .inl 18, .inl 9], 0, 0),
  (11, [.inr 1], 0, 0), (10, [.inl 10, .inr 101], 0, 17), (8, [.inl 3, .inr 0], 18, 0), (10, [.inl 11, .inr 0], 2, 1), (11, [.inr 0], 0, 0), (8, [.inl 3, .inr 4], 18, 0), (10, [.inl 12, .inr 0], 4, 1), (11, [.inr 0], 0, 0), (8, [.inl 6, .inr 1], 18, 0), (10, [.inl 13, .inr 0], 2, 1), (11, [.inr 0], 0, 0), (8, [.inl 6, .inr 9], 18, 0),
  (10, [.inl 14, .inr 0], 4, 1), (11, [.inr 0], 0, 0), (10, [.inl 9, .inr 8], 4, 1), (11, [.inr 0], 0, 0), (3, [.inr 278, .inl 3, .inl 6], 0, 0), (3, [.inr 279, .inl 3, .inl 9], 0, 0), (11, [.inr 1], 0, 0), (10, [.inl 10, .inr 112], 0, 2), (13, [.inl 0, .inl 3, .inl 6], 162, 0), (11, [.inl 11], 0, 0), (10, [.inl 10, .inr 119], 0, 12), (0, [.inl 0], 0, 0),
  (8, [.inl 11, .inr 1], 1, 0), (8, [.inl 3, .inr 0], 18, 0), (10, [.inl 13, .inr 0], 2, 1), (11, [.inr 0], 0, 0), (8, [.inl 3, .inl 12], 18, 0), (10, [.inl 14, .inr 0], 4, 1), (11, [.inr 0], 0, 0), (10, [.inl 6, .inr 7], 3, 1), (11, [.inr 0], 0, 0), (3, [.inr 274, .inl 3, .inl 6], 0, 0), (11, [.inr 1], 0, 0), (8, [.inr 10, .inl 3], 2, 0),
  (8, [.inl 11, .inl 6], 0, 0), (8, [.inl 12, .inr 1], 18, 0), (10, [.inl 13, .inr 0], 2, 1), (11, [.inr 0], 0, 0), (8, [.inl 12, .inr 60], 18, 0), (10, [.inl 14, .inr 0], 4, 1), (11, [.inr 0], 0, 0), (0, [.inl 0], 15, 0), (8, [.inr 10, .inl 3], 2, 0), (8, [.inl 15, .inl 16], 0, 0), (8, [.inl 17, .inl 6], 0, 0), (10, [.inl 18, .inr 999], 4, 1),
  (11, [.inr 0], 0, 0), (8, [.inr 10, .inl 3], 2, 0), (8, [.inl 19, .inl 6], 0, 0), (13, [.inl 0, .inl 20], 172, 0), (11, [.inr 1], 0, 0)]
theorem vr_comesTold_k : x_chk 161 [] vr_comesTold_T [] 600 = true := by decide +kernel
theorem vr_comesTold {a0 a1 v : Int} {h h' : fH} (hs : fS 161 [a0, a1] h v h') (Q : Int → fH → Prop) (h0 : ∀ z2 : Int, z2 = wr (5 * a1) → ∀ z3 : Int, z3 = h 289 z2 → ∀ z4 : Int, z4 = wr (5 * a1) → ∀ z5 : Int, z5 = wr (z4 + 1) → ∀ z6 : Int, z6 = h 289 z5 → ∀ z7 : Int, z7 = wr (5 * a1) → ∀ z8 : Int, z8 = wr (z7 + 2) → ∀ z9 : Int, z9 = h 289 z8 → ∀ z10 : Int, z10 = h 288 a1 → ((z10 = 97 → ∀ z11 : Int, z11 = wr (5 * a1) → ∀ z12 : Int, z12 = wr (z11 + 3) → ∀ z13 : Int, z13 = h 289 z12 → ∀ z14 : Int, z14 = wr (5 * a1) → ∀ z15 : Int, z15 = wr (z14 + 4) → ∀ z16 : Int, z16 = h 289 z15 → ∀ (v1 : Int) (h1 : fH), fS 165 [a0, z3, z6, z9, z13, z16] h v1 h1 → Q v1 h1) ∧ (z10 ≠ 97 → ((z10 = 98 → ∀ z11 : Int, z11 = h a0 0 → ∀ z12 : Int, z12 = wr (z11 - 1) → ∀ z13 : Int, z13 = xlcmp z3 0 → ((z13 < 0 → Q 0 h) ∧ (0 ≤ z13 → ∀ z14 : Int, z14 = xlcmp z3 z12 → ((0 < z14 → Q 0 h) ∧ (z14 ≤ 0 → ∀ z15 : Int, z15 = xlcmp z6 0 → ((z15 < 0 → Q 0 h) ∧ (0 ≤ z15 → ∀ z16 : Int, z16 = xlcmp z6 4 → ((0 < z16 → Q 0 h) ∧ (z16 ≤ 0 → ∀ z17 : Int, z17 = wr (5 * z3) → ∀ z18 : Int, z18 = wr (z17 + z6) → ∀ h1 : fH, h1 = fu h 277 z18 z9 → Q 1 h1))))))))) ∧ (z10 ≠ 98 → ((z10 = 101 → ∀ z11 : Int, z11 = xlcmp z3 0 → ((z11 < 0 → Q 0 h) ∧ (0 ≤ z11 → ∀ z12 : Int, z12 = xlcmp z3 4 → ((0 < z12 → Q 0 h) ∧ (z12 ≤ 0 → ∀ z13 : Int, z13 = xlcmp z6 1 → ((z13 < 0 → Q 0 h) ∧ (0 ≤ z13 → ∀ z14 : Int, z14 = xlcmp z6 9 → ((0 < z14 → Q 0 h) ∧ (z14 ≤ 0 → ((8 < z9 → Q 0 h) ∧ (z9 ≤ 8 → ∀ h1 : fH, h1 = fu h 278 z3 z6 → ∀ h2 : fH, h2 = fu h1 279 z3 z9 → Q 1 h2))))))))))) ∧ (z10 ≠ 101 → ((z10 = 112 → ∀ (v1 : Int) (h1 : fH), fS 162 [a0, z3, z6] h v1 h1 → Q v1 h1) ∧ (z10 ≠ 112 → ((z10 = 119 → ∀ z11 : Int, z11 = h a0 0 → ∀ z12 : Int, z12 = wr (z11 - 1) → ∀ z13 : Int, z13 = xlcmp z3 0 → ((z13 < 0 → Q 0 h) ∧ (0 ≤ z13 → ∀ z14 : Int, z14 = xlcmp z3 z12 → ((0 < z14 → Q 0 h) ∧ (z14 ≤ 0 → ((7 ≤ z6 → Q 0 h) ∧ (z6 < 7 → ∀ h1 : fH, h1 = fu h 274 z3 z6 → Q 1 h1))))))) ∧ (z10 ≠ 119 → ∀ z11 : Int, z11 = wr (10 * z3) → ∀ z12 : Int, z12 = wr (z11 + z6) → ∀ z13 : Int, z13 = xlcmp z12 1 → ((z13 < 0 → Q 0 h) ∧ (0 ≤ z13 → ∀ z14 : Int, z14 = xlcmp z12 60 → ((0 < z14 → Q 0 h) ∧ (z14 ≤ 0 → ∀ z15 : Int, z15 = h a0 15 → ∀ z16 : Int, z16 = wr (10 * z3) → ∀ z17 : Int, z17 = wr (z15 + z16) → ∀ z18 : Int, z18 = wr (z17 + z6) → ((999 < z18 → Q 0 h) ∧ (z18 ≤ 999 → ∀ z19 : Int, z19 = wr (10 * z3) → ∀ z20 : Int, z20 = wr (z19 + z6) → ∀ (v1 : Int) (h1 : fH), fS 172 [a0, z20] h v1 h1 → Q 1 h1))))))))))))))))) : Q v h' := by
  exact x_mef vr_comesTold_k hs (fun _ _ _ => False) Q h0 (fun i Ti hT => by cases hT)
def vr_personComes_T : xT := [(10, [.inl 1, .inr 6], 3, 1), (11, [.inr 0], 0, 0), (0, [.inl 0], 0, 0), (10, [.inl 3, .inr 7], 3, 1), (11, [.inr 0], 0, 0), (0, [.inl 0], 0, 0), (3, [.inr 272, .inl 4, .inl 1], 0, 0), (0, [.inl 0], 0, 0), (3, [.inr 273, .inl 5, .inl 2], 0, 0), (0, [.inl 0], 0, 0), (0, [.inl 0], 0, 0), (3, [.inr 274, .inl 6, .inl 7], 0, 0),
  (0, [.inl 0], 0, 0), (3, [.inr 275, .inl 8, .inr 0], 0, 0), (0, [.inl 0], 0, 0), (3, [.inr 276, .inl 9, .inr 0], 0, 0), (12, [.inl 0, .inr 1, .inr 0], 0, 0)]
def vr_personComes_T0 : xT := [(10, [.inl 2, .inr 5], 3, 4), (0, [.inl 0], 0, 0), (8, [.inl 3, .inr 1], 0, 0), (2, [.inl 0, .inl 4], 0, 0), (11, [.inl 1], 0, 0), (0, [.inl 0], 0, 0), (8, [.inr 5, .inl 3], 2, 0), (8, [.inl 4, .inl 2], 0, 0), (3, [.inr 277, .inl 5, .inr 5], 0, 0), (8, [.inl 2, .inr 1], 0, 0), (12, [.inl 0, .inl 1, .inl 6], 0, 0)]
theorem vr_personComes_k : x_chk 162 [(81, [(0, 0), (3, 0), (4, 0)])] vr_personComes_T [vr_personComes_T0] 600 = true := by decide +kernel
theorem vr_personComes {a0 a1 a2 v : Int} {h h' : fH} (hs : fS 162 [a0, a1, a2] h v h') (I0 : Int → Int → Int → fH → Prop) (Q : Int → fH → Prop) (h0 : ((6 ≤ a1 → Q 0 h) ∧ (a1 < 6 → ∀ z3 : Int, z3 = h a0 0 → ((7 ≤ z3 → Q 0 h) ∧ (z3 < 7 → ∀ z4 : Int, z4 = h a0 0 → ∀ h1 : fH, h1 = fu h 272 z4 a1 → ∀ z5 : Int, z5 = h1 a0 0 → ∀ h2 : fH, h2 = fu h1 273 z5 a2 → ∀ z6 : Int, z6 = h2 a0 0 → ∀ z7 : Int, z7 = h2 a0 0 → ∀ h3 : fH, h3 = fu h2 274 z6 z7 → ∀ z8 : Int, z8 = h3 a0 0 → ∀ h4 : fH, h4 = fu h3 275 z8 0 → ∀ z9 : Int, z9 = h4 a0 0 → ∀ h5 : fH, h5 = fu h4 276 z9 0 → I0 a0 1 0 h5))))) (k0 : ∀ (x0 x3 x4 : Int) (h : fH), I0 x0 x3 x4 h → ((5 ≤ x4 → ∀ z3 : Int, z3 = h x0 0 → ∀ z4 : Int, z4 = wr (z3 + 1) → ∀ h1 : fH, h1 = fu h x0 0 z4 → Q x3 h1) ∧ (x4 < 5 → ∀ z3 : Int, z3 = h x0 0 → ∀ z4 : Int, z4 = wr (5 * z3) → ∀ z5 : Int, z5 = wr (z4 + x4) → ∀ h1 : fH, h1 = fu h 277 z5 5 → ∀ z6 : Int, z6 = wr (x4 + 1) → I0 x0 x3 z6 h1))) : Q v h' := by
  refine x_mef vr_personComes_k hs (fun k l h => match k with
    | 0 => (match l with | [x0, x3, x4] => I0 x0 x3 x4 h | _ => False)
    | _ => False) Q h0 ?_
  intro i Ti hT vals h hi
  match i, hT, hi with
  | 0, hT, hi =>
    cases hT
    match vals, hi with
    | [x0, x3, x4], hi => exact k0 _ _ _ _ hi
    | [], hi => exact False.elim hi
    | [_], hi => exact False.elim hi
    | [_, _], hi => exact False.elim hi
    | _ :: _ :: _ :: _ :: _, hi => exact False.elim hi
  | _ + 1, hT, _ => cases hT
def vr_wagerTold_T : xT := [(0, [.inl 0], 0, 0), (8, [.inl 6, .inr 1], 1, 0), (8, [.inl 1, .inr 0], 18, 0), (10, [.inl 8, .inr 0], 2, 1), (11, [.inr 0], 0, 0), (8, [.inl 1, .inl 7], 18, 0), (10, [.inl 9, .inr 0], 4, 1), (11, [.inr 0], 0, 0), (0, [.inl 0], 0, 0), (8, [.inl 10, .inr 1], 1, 0), (8, [.inl 2, .inr 0], 18, 0), (10, [.inl 12, .inr 0], 2, 1),
  (11, [.inr 0], 0, 0), (8, [.inl 2, .inl 11], 18, 0), (10, [.inl 13, .inr 0], 4, 1), (11, [.inr 0], 0, 0), (10, [.inl 1, .inl 2], 0, 1), (11, [.inr 0], 0, 0), (8, [.inl 3, .inr 0], 18, 0), (10, [.inl 14, .inr 0], 2, 1), (11, [.inr 0], 0, 0), (8, [.inl 3, .inr 4], 18, 0), (10, [.inl 15, .inr 0], 4, 1), (11, [.inr 0], 0, 0),
  (10, [.inl 4, .inr 2], 3, 1), (11, [.inr 0], 0, 0), (10, [.inl 5, .inr 0], 5, 1), (11, [.inr 0], 0, 0), (0, [.inl 0], 9, 0), (10, [.inl 16, .inr 6], 3, 1), (11, [.inr 0], 0, 0), (13, [.inl 0, .inl 1, .inl 2, .inl 3, .inl 4], 166, 0), (10, [.inl 17, .inr 0], 0, 1), (11, [.inr 0], 0, 0), (0, [.inl 0], 9, 0), (3, [.inr 280, .inl 18, .inl 1], 0, 0),
  (0, [.inl 0], 9, 0), (3, [.inr 281, .inl 19, .inl 2], 0, 0), (0, [.inl 0], 9, 0), (3, [.inr 282, .inl 20, .inl 3], 0, 0), (0, [.inl 0], 9, 0), (3, [.inr 283, .inl 21, .inl 4], 0, 0), (0, [.inl 0], 9, 0), (3, [.inr 284, .inl 22, .inl 5], 0, 0), (0, [.inl 0], 9, 0), (8, [.inl 23, .inr 1], 0, 0), (2, [.inl 0, .inl 24], 9, 0), (11, [.inr 1], 0, 0)]
theorem vr_wagerTold_k : x_chk 165 [] vr_wagerTold_T [] 600 = true := by decide +kernel
theorem vr_wagerTold {a0 a1 a2 a3 a4 a5 v : Int} {h h' : fH} (hs : fS 165 [a0, a1, a2, a3, a4, a5] h v h') (Q : Int → fH → Prop) (h0 : ∀ z6 : Int, z6 = h a0 0 → ∀ z7 : Int, z7 = wr (z6 - 1) → ∀ z8 : Int, z8 = xlcmp a1 0 → ((z8 < 0 → Q 0 h) ∧ (0 ≤ z8 → ∀ z9 : Int, z9 = xlcmp a1 z7 → ((0 < z9 → Q 0 h) ∧ (z9 ≤ 0 → ∀ z10 : Int, z10 = h a0 0 → ∀ z11 : Int, z11 = wr (z10 - 1) → ∀ z12 : Int, z12 = xlcmp a2 0 → ((z12 < 0 → Q 0 h) ∧ (0 ≤ z12 → ∀ z13 : Int, z13 = xlcmp a2 z11 → ((0 < z13 → Q 0 h) ∧ (z13 ≤ 0 → ((a1 = a2 → Q 0 h) ∧ (a1 ≠ a2 → ∀ z14 : Int, z14 = xlcmp a3 0 → ((z14 < 0 → Q 0 h) ∧ (0 ≤ z14 → ∀ z15 : Int, z15 = xlcmp a3 4 → ((0 < z15 → Q 0 h) ∧ (z15 ≤ 0 → ((2 ≤ a4 → Q 0 h) ∧ (a4 < 2 → ((a5 ≤ 0 → Q 0 h) ∧ (0 < a5 → ∀ z16 : Int, z16 = h a0 9 → ((6 ≤ z16 → Q 0 h) ∧ (z16 < 6 → ∀ (v1 : Int) (h1 : fH), fS 166 [a0, a1, a2, a3, a4] h v1 h1 → ((v1 = 0 → Q 0 h1) ∧ (v1 ≠ 0 → ∀ z18 : Int, z18 = h1 a0 9 → ∀ h2 : fH, h2 = fu h1 280 z18 a1 → ∀ z19 : Int, z19 = h2 a0 9 → ∀ h3 : fH, h3 = fu h2 281 z19 a2 → ∀ z20 : Int, z20 = h3 a0 9 → ∀ h4 : fH, h4 = fu h3 282 z20 a3 → ∀ z21 : Int, z21 = h4 a0 9 → ∀ h5 : fH, h5 = fu h4 283 z21 a4 → ∀ z22 : Int, z22 = h5 a0 9 → ∀ h6 : fH, h6 = fu h5 284 z22 a5 → ∀ z23 : Int, z23 = h6 a0 9 → ∀ z24 : Int, z24 = wr (z23 + 1) → ∀ h7 : fH, h7 = fu h6 a0 9 z24 → Q 1 h7))))))))))))))))))))))) : Q v h' := by
  exact x_mef vr_wagerTold_k hs (fun _ _ _ => False) Q h0 (fun i Ti hT => by cases hT)
def vr_couldBe_T : xT := [(13, [.inl 0, .inl 1], 167, 0), (10, [.inl 5, .inr 0], 0, 1), (11, [.inr 0], 0, 0), (13, [.inl 0, .inl 2], 167, 0), (10, [.inl 6, .inr 0], 0, 1), (11, [.inr 0], 0, 0), (13, [.inl 0, .inl 1, .inl 3, .inl 4], 168, 0), (10, [.inl 7, .inr 4], 4, 1), (11, [.inr 0], 0, 0), (13, [.inl 0, .inl 2, .inl 1, .inl 3, .inl 4], 169, 0), (10, [.inl 8, .inr 0], 0, 1), (11, [.inr 0], 0, 0),
  (11, [.inr 1], 0, 0)]
theorem vr_couldBe_k : x_chk 166 [] vr_couldBe_T [] 600 = true := by decide +kernel
theorem vr_couldBe {a0 a1 a2 a3 a4 v : Int} {h h' : fH} (hs : fS 166 [a0, a1, a2, a3, a4] h v h') (Q : Int → fH → Prop) (h0 : ∀ (v1 : Int) (h1 : fH), fS 167 [a0, a1] h v1 h1 → ((v1 = 0 → Q 0 h1) ∧ (v1 ≠ 0 → ∀ (v2 : Int) (h2 : fH), fS 167 [a0, a2] h1 v2 h2 → ((v2 = 0 → Q 0 h2) ∧ (v2 ≠ 0 → ∀ (v3 : Int) (h3 : fH), fS 168 [a0, a1, a3, a4] h2 v3 h3 → ((4 < v3 → Q 0 h3) ∧ (v3 ≤ 4 → ∀ (v4 : Int) (h4 : fH), fS 169 [a0, a2, a1, a3, a4] h3 v4 h4 → ((v4 = 0 → Q 0 h4) ∧ (v4 ≠ 0 → Q 1 h4))))))))) : Q v h' := by
  exact x_mef vr_couldBe_k hs (fun _ _ _ => False) Q h0 (fun i Ti hT => by cases hT)
def vr_isFree_T : xT := [(1, [.inr 276, .inl 1], 0, 0), (10, [.inl 2, .inr 0], 1, 1), (12, [.inl 0, .inl 1, .inr 0, .inr 0], 0, 0), (12, [.inl 0, .inl 1, .inr 1, .inr 0], 0, 0)]
def vr_isFree_T0 : xT := [(0, [.inl 0], 9, 0), (10, [.inl 3, .inl 4], 3, 1), (11, [.inl 2], 0, 0), (10, [.inl 2, .inr 0], 0, 2), (8, [.inl 3, .inr 1], 0, 0), (12, [.inl 0, .inl 1, .inr 0, .inl 5], 0, 0), (1, [.inr 280, .inl 3], 0, 0), (10, [.inl 5, .inl 1], 0, 2), (8, [.inl 3, .inr 1], 0, 0), (12, [.inl 0, .inl 1, .inr 0, .inl 6], 0, 0), (1, [.inr 281, .inl 3], 0, 0), (10, [.inl 6, .inl 1], 0, 2),
  (8, [.inl 3, .inr 1], 0, 0), (12, [.inl 0, .inl 1, .inr 0, .inl 7], 0, 0), (8, [.inl 3, .inr 1], 0, 0), (12, [.inl 0, .inl 1, .inr 1, .inl 7], 0, 0)]
theorem vr_isFree_k : x_chk 167 [(17, [(0, 0), (1, 0), (2, 0), (3, 0)])] vr_isFree_T [vr_isFree_T0] 600 = true := by decide +kernel
theorem vr_isFree {a0 a1 v : Int} {h h' : fH} (hs : fS 167 [a0, a1] h v h') (I0 : Int → Int → Int → Int → fH → Prop) (Q : Int → fH → Prop) (h0 : ∀ z2 : Int, z2 = h 276 a1 → ((z2 ≠ 0 → I0 a0 a1 0 0 h) ∧ (z2 = 0 → I0 a0 a1 1 0 h))) (k0 : ∀ (x0 x1 x2 x3 : Int) (h : fH), I0 x0 x1 x2 x3 h → ∀ z4 : Int, z4 = h x0 9 → ((z4 ≤ x3 → Q x2 h) ∧ (x3 < z4 → ((x2 = 0 → ∀ z5 : Int, z5 = wr (x3 + 1) → I0 x0 x1 0 z5 h) ∧ (x2 ≠ 0 → ∀ z5 : Int, z5 = h 280 x3 → ((z5 = x1 → ∀ z6 : Int, z6 = wr (x3 + 1) → I0 x0 x1 0 z6 h) ∧ (z5 ≠ x1 → ∀ z6 : Int, z6 = h 281 x3 → ((z6 = x1 → ∀ z7 : Int, z7 = wr (x3 + 1) → I0 x0 x1 0 z7 h) ∧ (z6 ≠ x1 → ∀ z7 : Int, z7 = wr (x3 + 1) → I0 x0 x1 1 z7 h))))))))) : Q v h' := by
  refine x_mef vr_isFree_k hs (fun k l h => match k with
    | 0 => (match l with | [x0, x1, x2, x3] => I0 x0 x1 x2 x3 h | _ => False)
    | _ => False) Q h0 ?_
  intro i Ti hT vals h hi
  match i, hT, hi with
  | 0, hT, hi =>
    cases hT
    match vals, hi with
    | [x0, x1, x2, x3], hi => exact k0 _ _ _ _ _ hi
    | [], hi => exact False.elim hi
    | [_], hi => exact False.elim hi
    | [_, _], hi => exact False.elim hi
    | [_, _, _], hi => exact False.elim hi
    | _ :: _ :: _ :: _ :: _ :: _, hi => exact False.elim hi
  | _ + 1, hT, _ => cases hT
def vr_trustOf_T : xT := [(10, [.inl 3, .inr 1], 1, 5), (8, [.inr 5, .inl 1], 2, 0), (8, [.inl 4, .inl 2], 0, 0), (1, [.inr 277, .inl 5], 0, 0), (8, [.inr 9, .inl 6], 1, 0), (11, [.inl 7], 0, 0), (8, [.inr 5, .inl 1], 2, 0), (8, [.inl 4, .inl 2], 0, 0), (1, [.inr 277, .inl 5], 0, 0), (11, [.inl 6], 0, 0)]
theorem vr_trustOf_k : x_chk 168 [] vr_trustOf_T [] 600 = true := by decide +kernel
theorem vr_trustOf {a0 a1 a2 a3 v : Int} {h h' : fH} (hs : fS 168 [a0, a1, a2, a3] h v h') (Q : Int → fH → Prop) (h0 : ((a3 ≠ 1 → ∀ z4 : Int, z4 = wr (5 * a1) → ∀ z5 : Int, z5 = wr (z4 + a2) → ∀ z6 : Int, z6 = h 277 z5 → ∀ z7 : Int, z7 = wr (9 - z6) → Q z7 h) ∧ (a3 = 1 → ∀ z4 : Int, z4 = wr (5 * a1) → ∀ z5 : Int, z5 = wr (z4 + a2) → ∀ z6 : Int, z6 = h 277 z5 → Q z6 h))) : Q v h' := by
  exact x_mef vr_trustOf_k hs (fun _ _ _ => False) Q h0 (fun i Ti hT => by cases hT)
def vr_isTaking_T : xT := [(1, [.inr 274, .inl 1], 0, 0), (10, [.inl 5, .inl 2], 0, 1), (11, [.inr 1], 0, 0), (13, [.inl 0, .inl 1, .inl 3, .inl 4], 168, 0), (13, [.inl 0, .inl 1], 170, 0), (10, [.inl 6, .inl 7], 2, 1), (11, [.inr 0], 0, 0), (11, [.inr 1], 0, 0)]
theorem vr_isTaking_k : x_chk 169 [] vr_isTaking_T [] 600 = true := by decide +kernel
theorem vr_isTaking {a0 a1 a2 a3 a4 v : Int} {h h' : fH} (hs : fS 169 [a0, a1, a2, a3, a4] h v h') (Q : Int → fH → Prop) (h0 : ∀ z5 : Int, z5 = h 274 a1 → ((z5 = a2 → Q 1 h) ∧ (z5 ≠ a2 → ∀ (v1 : Int) (h1 : fH), fS 168 [a0, a1, a3, a4] h v1 h1 → ∀ (v2 : Int) (h2 : fH), fS 170 [a0, a1] h1 v2 h2 → ((v1 < v2 → Q 0 h2) ∧ (v2 ≤ v1 → Q 1 h2))))) : Q v h' := by
  exact x_mef vr_isTaking_k hs (fun _ _ _ => False) Q h0 (fun i Ti hT => by cases hT)
def vr_asksOf_T : xT := [(1, [.inr 272, .inl 1], 0, 0), (10, [.inl 2, .inr 1], 0, 1), (11, [.inr 6], 0, 0), (10, [.inl 2, .inr 2], 0, 2), (1, [.inr 273, .inl 1], 0, 0), (11, [.inl 3], 0, 0), (10, [.inl 2, .inr 3], 0, 1), (11, [.inr 0], 0, 0), (10, [.inl 2, .inr 4], 0, 4), (1, [.inr 273, .inl 1], 0, 0), (8, [.inl 3, .inr 3], 9, 0), (8, [.inr 6, .inl 4], 0, 0),
  (11, [.inl 5], 0, 0), (10, [.inl 2, .inr 5], 0, 1), (11, [.inr 3], 0, 0), (11, [.inr 5], 0, 0)]
theorem vr_asksOf_k : x_chk 170 [] vr_asksOf_T [] 600 = true := by decide +kernel
theorem vr_asksOf {a0 a1 v : Int} {h h' : fH} (hs : fS 170 [a0, a1] h v h') (Q : Int → fH → Prop) (h0 : ∀ z2 : Int, z2 = h 272 a1 → ((z2 = 1 → Q 6 h) ∧ (z2 ≠ 1 → ((z2 = 2 → ∀ z3 : Int, z3 = h 273 a1 → Q z3 h) ∧ (z2 ≠ 2 → ((z2 = 3 → Q 0 h) ∧ (z2 ≠ 3 → ((z2 = 4 → ∀ z3 : Int, z3 = h 273 a1 → ∀ z4 : Int, z4 = xdiv z3 3 → ∀ z5 : Int, z5 = wr (6 + z4) → Q z5 h) ∧ (z2 ≠ 4 → ((z2 = 5 → Q 3 h) ∧ (z2 ≠ 5 → Q 5 h))))))))))) : Q v h' := by
  exact x_mef vr_asksOf_k hs (fun _ _ _ => False) Q h0 (fun i Ti hT => by cases hT)
def vr_goDays_T : xT := [(12, [.inl 0, .inl 1, .inr 0], 0, 0)]
def vr_goDays_T0 : xT := [(10, [.inl 2, .inl 1], 3, 1), (11, [.inr 0], 0, 0), (13, [.inl 0, .inr 0], 173, 0), (8, [.inl 2, .inr 1], 0, 0), (12, [.inl 0, .inl 1, .inl 4], 0, 0)]
theorem vr_goDays_k : x_chk 172 [(2, [(0, 0), (1, 0), (2, 0)])] vr_goDays_T [vr_goDays_T0] 600 = true := by decide +kernel
theorem vr_goDays {a0 a1 v : Int} {h h' : fH} (hs : fS 172 [a0, a1] h v h') (I0 : Int → Int → Int → fH → Prop) (Q : Int → fH → Prop) (h0 : I0 a0 a1 0 h) (k0 : ∀ (x0 x1 x2 : Int) (h : fH), I0 x0 x1 x2 h → ((x1 ≤ x2 → Q 0 h) ∧ (x2 < x1 → ∀ (v1 : Int) (h1 : fH), fS 173 [x0, 0] h v1 h1 → ∀ z4 : Int, z4 = wr (x2 + 1) → I0 x0 x1 z4 h1))) : Q v h' := by
  refine x_mef vr_goDays_k hs (fun k l h => match k with
    | 0 => (match l with | [x0, x1, x2] => I0 x0 x1 x2 h | _ => False)
    | _ => False) Q h0 ?_
  intro i Ti hT vals h hi
  match i, hT, hi with
  | 0, hT, hi =>
    cases hT
    match vals, hi with
    | [x0, x1, x2], hi => exact k0 _ _ _ _ hi
    | [], hi => exact False.elim hi
    | [_], hi => exact False.elim hi
    | [_, _], hi => exact False.elim hi
    | _ :: _ :: _ :: _ :: _, hi => exact False.elim hi
  | _ + 1, hT, _ => cases hT
def vr_dayBy_T : xT := [(0, [.inl 0], 15, 0), (8, [.inl 2, .inr 1], 0, 0), (2, [.inl 0, .inl 3], 15, 0), (12, [.inl 0, .inl 1, .inr 0], 0, 0)]
def vr_dayBy_T0 : xT := [(0, [.inl 0], 9, 0), (10, [.inl 2, .inl 3], 3, 1), (12, [.inl 0, .inl 1, .inr 0], 1, 0), (1, [.inr 284, .inl 2], 0, 0), (8, [.inl 4, .inr 1], 1, 0), (3, [.inr 284, .inl 2, .inl 5], 0, 0), (1, [.inr 284, .inl 2], 0, 0), (10, [.inl 6, .inr 0], 5, 35), (10, [.inl 1, .inr 0], 1, 9), (1, [.inr 283, .inl 2], 0, 0), (10, [.inl 7, .inr 1], 1, 5), (1, [.inr 280, .inl 2], 0, 0),
  (1, [.inr 281, .inl 2], 0, 0), (13, [.inl 0, .inl 8, .inl 9], 175, 0), (13, [.inl 0, .inl 2], 178, 0), (12, [.inl 0, .inl 1, .inl 2], 0, 0), (13, [.inl 0, .inl 2], 178, 0), (12, [.inl 0, .inl 1, .inl 2], 0, 0), (1, [.inr 282, .inl 2], 0, 0), (0, [.inl 0], 15, 0), (1, [.inr 279, .inl 7], 0, 0), (8, [.inl 8, .inl 9], 0, 0), (1, [.inr 278, .inl 7], 0, 0), (8, [.inl 10, .inl 11], 10, 0),
  (10, [.inl 12, .inr 0], 1, 9), (1, [.inr 283, .inl 2], 0, 0), (10, [.inl 13, .inr 1], 1, 2), (13, [.inl 0, .inl 2], 178, 0), (12, [.inl 0, .inl 1, .inl 2], 0, 0), (1, [.inr 280, .inl 2], 0, 0), (1, [.inr 281, .inl 2], 0, 0), (13, [.inl 0, .inl 14, .inl 15], 175, 0), (13, [.inl 0, .inl 2], 178, 0), (12, [.inl 0, .inl 1, .inl 2], 0, 0), (1, [.inr 283, .inl 2], 0, 0), (10, [.inl 13, .inr 1], 1, 5),
  (1, [.inr 280, .inl 2], 0, 0), (1, [.inr 281, .inl 2], 0, 0), (13, [.inl 0, .inl 14, .inl 15], 175, 0), (13, [.inl 0, .inl 2], 178, 0), (12, [.inl 0, .inl 1, .inl 2], 0, 0), (13, [.inl 0, .inl 2], 178, 0), (12, [.inl 0, .inl 1, .inl 2], 0, 0), (8, [.inl 2, .inr 1], 0, 0), (12, [.inl 0, .inl 1, .inl 7], 0, 0)]
def vr_dayBy_T1 : xT := [(0, [.inl 0], 0, 0), (8, [.inr 5, .inl 3], 2, 0), (10, [.inl 2, .inl 4], 3, 1), (11, [.inr 0], 0, 0), (8, [.inl 2, .inr 5], 9, 0), (13, [.inl 0, .inl 5], 179, 0), (1, [.inr 277, .inl 2], 0, 0), (10, [.inl 1, .inr 0], 1, 5), (8, [.inl 7, .inl 6], 0, 0), (13, [.inl 8, .inr 9], 177, 0), (3, [.inr 277, .inl 2, .inl 9], 0, 0), (8, [.inl 2, .inr 1], 0, 0),
  (12, [.inl 0, .inl 1, .inl 10], 1, 0), (8, [.inl 2, .inr 5], 10, 0), (0, [.inl 0], 15, 0), (1, [.inr 279, .inl 8], 0, 0), (8, [.inl 9, .inl 10], 0, 0), (1, [.inr 278, .inl 8], 0, 0), (8, [.inl 11, .inl 12], 10, 0), (10, [.inl 13, .inr 0], 1, 6), (9, [.inl 6], 0, 0), (8, [.inl 7, .inl 14], 0, 0), (13, [.inl 15, .inr 9], 177, 0), (3, [.inr 277, .inl 2, .inl 16], 0, 0),
  (8, [.inl 2, .inr 1], 0, 0), (12, [.inl 0, .inl 1, .inl 17], 1, 0), (8, [.inl 7, .inl 6], 0, 0), (13, [.inl 14, .inr 9], 177, 0), (3, [.inr 277, .inl 2, .inl 15], 0, 0), (8, [.inl 2, .inr 1], 0, 0), (12, [.inl 0, .inl 1, .inl 16], 1, 0)]
theorem vr_dayBy_k : x_chk 173 [(12, [(0, 0), (1, 0), (2, 0)]), (117, [(0, 0), (1, 0), (3, 0)])] vr_dayBy_T [vr_dayBy_T0, vr_dayBy_T1] 600 = true := by decide +kernel
theorem vr_dayBy {a0 a1 v : Int} {h h' : fH} (hs : fS 173 [a0, a1] h v h') (I0 : Int → Int → Int → fH → Prop) (I1 : Int → Int → Int → fH → Prop) (Q : Int → fH → Prop) (h0 : ∀ z2 : Int, z2 = h a0 15 → ∀ z3 : Int, z3 = wr (z2 + 1) → ∀ h1 : fH, h1 = fu h a0 15 z3 → I0 a0 a1 0 h1) (k0 : ∀ (x0 x1 x2 : Int) (h : fH), I0 x0 x1 x2 h → ∀ z3 : Int, z3 = h x0 9 → ((z3 ≤ x2 → I1 x0 x1 0 h) ∧ (x2 < z3 → ∀ z4 : Int, z4 = h 284 x2 → ∀ z5 : Int, z5 = wr (z4 - 1) → ∀ h1 : fH, h1 = fu h 284 x2 z5 → ∀ z6 : Int, z6 = h1 284 x2 → ((z6 ≤ 0 → ((x1 ≠ 0 → ∀ z7 : Int, z7 = h1 283 x2 → ((z7 ≠ 1 → ∀ z8 : Int, z8 = h1 280 x2 → ∀ z9 : Int, z9 = h1 281 x2 → ∀ (v2 : Int) (h2 : fH), fS 175 [x0, z8, z9] h1 v2 h2 → ∀ (v3 : Int) (h3 : fH), fS 178 [x0, x2] h2 v3 h3 → I0 x0 x1 x2 h3) ∧ (z7 = 1 → ∀ (v2 : Int) (h2 : fH), fS 178 [x0, x2] h1 v2 h2 → I0 x0 x1 x2 h2))) ∧ (x1 = 0 → ∀ z7 : Int, z7 = h1 282 x2 → ∀ z8 : Int, z8 = h1 x0 15 → ∀ z9 : Int, z9 = h1 279 z7 → ∀ z10 : Int, z10 = wr (z8 + z9) → ∀ z11 : Int, z11 = h1 278 z7 → ∀ z12 : Int, z12 = xrem z10 z11 → ((z12 ≠ 0 → ∀ z13 : Int, z13 = h1 283 x2 → ((z13 ≠ 1 → ∀ (v2 : Int) (h2 : fH), fS 178 [x0, x2] h1 v2 h2 → I0 x0 x1 x2 h2) ∧ (z13 = 1 → ∀ z14 : Int, z14 = h1 280 x2 → ∀ z15 : Int, z15 = h1 281 x2 → ∀ (v2 : Int) (h2 : fH), fS 175 [x0, z14, z15] h1 v2 h2 → ∀ (v3 : Int) (h3 : fH), fS 178 [x0, x2] h2 v3 h3 → I0 x0 x1 x2 h3))) ∧ (z12 = 0 → ∀ z13 : Int, z13 = h1 283 x2 → ((z13 ≠ 1 → ∀ z14 : Int, z14 = h1 280 x2 → ∀ z15 : Int, z15 = h1 281 x2 → ∀ (v2 : Int) (h2 : fH), fS 175 [x0, z14, z15] h1 v2 h2 → ∀ (v3 : Int) (h3 : fH), fS 178 [x0, x2] h2 v3 h3 → I0 x0 x1 x2 h3) ∧ (z13 = 1 → ∀ (v2 : Int) (h2 : fH), fS 178 [x0, x2] h1 v2 h2 → I0 x0 x1 x2 h2))))))) ∧ (0 < z6 → ∀ z7 : Int, z7 = wr (x2 + 1) → I0 x0 x1 z7 h1))))) (k1 : ∀ (x0 x1 x3 : Int) (h : fH), I1 x0 x1 x3 h → ∀ z3 : Int, z3 = h x0 0 → ∀ z4 : Int, z4 = wr (5 * z3) → ((z4 ≤ x3 → Q 0 h) ∧ (x3 < z4 → ∀ z5 : Int, z5 = xdiv x3 5 → ∀ (v1 : Int) (h1 : fH), fS 179 [x0, z5] h v1 h1 → ∀ z7 : Int, z7 = h1 277 x3 → ((x1 ≠ 0 → ∀ z8 : Int, z8 = wr (z7 + v1) → ∀ (v2 : Int) (h2 : fH), fS 177 [z8, 9] h1 v2 h2 → ∀ h3 : fH, h3 = fu h2 277 x3 v2 → ∀ z10 : Int, z10 = wr (x3 + 1) → I1 x0 x1 z10 h3) ∧ (x1 = 0 → ∀ z8 : Int, z8 = xrem x3 5 → ∀ z9 : Int, z9 = h1 x0 15 → ∀ z10 : Int, z10 = h1 279 z8 → ∀ z11 : Int, z11 = wr (z9 + z10) → ∀ z12 : Int, z12 = h1 278 z8 → ∀ z13 : Int, z13 = xrem z11 z12 → ((z13 ≠ 0 → ∀ z14 : Int, z14 = wr (-v1) → ∀ z15 : Int, z15 = wr (z7 + z14) → ∀ (v2 : Int) (h2 : fH), fS 177 [z15, 9] h1 v2 h2 → ∀ h3 : fH, h3 = fu h2 277 x3 v2 → ∀ z17 : Int, z17 = wr (x3 + 1) → I1 x0 x1 z17 h3) ∧ (z13 = 0 → ∀ z14 : Int, z14 = wr (z7 + v1) → ∀ (v2 : Int) (h2 : fH), fS 177 [z14, 9] h1 v2 h2 → ∀ h3 : fH, h3 = fu h2 277 x3 v2 → ∀ z16 : Int, z16 = wr (x3 + 1) → I1 x0 x1 z16 h3))))))) : Q v h' := by
  refine x_mef vr_dayBy_k hs (fun k l h => match k with
    | 0 => (match l with | [x0, x1, x2] => I0 x0 x1 x2 h | _ => False)
    | 1 => (match l with | [x0, x1, x3] => I1 x0 x1 x3 h | _ => False)
    | _ => False) Q h0 ?_
  intro i Ti hT vals h hi
  match i, hT, hi with
  | 0, hT, hi =>
    cases hT
    match vals, hi with
    | [x0, x1, x2], hi => exact k0 _ _ _ _ hi
    | [], hi => exact False.elim hi
    | [_], hi => exact False.elim hi
    | [_, _], hi => exact False.elim hi
    | _ :: _ :: _ :: _ :: _, hi => exact False.elim hi
  | 1, hT, hi =>
    cases hT
    match vals, hi with
    | [x0, x1, x3], hi => exact k1 _ _ _ _ hi
    | [], hi => exact False.elim hi
    | [_], hi => exact False.elim hi
    | [_, _], hi => exact False.elim hi
    | _ :: _ :: _ :: _ :: _, hi => exact False.elim hi
  | _ + 2, hT, _ => cases hT
end
section
/-! the trees of the methods (made by a program) -/
def vr_wed_T : xT := [(8, [.inl 2, .inr 1], 0, 0), (3, [.inr 276, .inl 1, .inl 3], 0, 0), (8, [.inl 1, .inr 1], 0, 0), (3, [.inr 276, .inl 2, .inl 4], 0, 0), (1, [.inr 275, .inl 1], 0, 0), (13, [.inl 0, .inl 1], 176, 0), (8, [.inl 5, .inl 6], 0, 0), (13, [.inl 7, .inr 99], 177, 0), (3, [.inr 275, .inl 1, .inl 8], 0, 0), (1, [.inr 275, .inl 2], 0, 0), (13, [.inl 0, .inl 2], 176, 0), (8, [.inl 9, .inl 10], 0, 0),
  (13, [.inl 11, .inr 99], 177, 0), (3, [.inr 275, .inl 2, .inl 12], 0, 0), (11, [.inr 0], 0, 0)]
theorem vr_wed_k : x_chk 175 [] vr_wed_T [] 600 = true := by decide +kernel
theorem vr_wed {a0 a1 a2 v : Int} {h h' : fH} (hs : fS 175 [a0, a1, a2] h v h') (Q : Int → fH → Prop) (h0 : ∀ z3 : Int, z3 = wr (a2 + 1) → ∀ h1 : fH, h1 = fu h 276 a1 z3 → ∀ z4 : Int, z4 = wr (a1 + 1) → ∀ h2 : fH, h2 = fu h1 276 a2 z4 → ∀ z5 : Int, z5 = h2 275 a1 → ∀ (v3 : Int) (h3 : fH), fS 176 [a0, a1] h2 v3 h3 → ∀ z7 : Int, z7 = wr (z5 + v3) → ∀ (v4 : Int) (h4 : fH), fS 177 [z7, 99] h3 v4 h4 → ∀ h5 : fH, h5 = fu h4 275 a1 v4 → ∀ z9 : Int, z9 = h5 275 a2 → ∀ (v6 : Int) (h6 : fH), fS 176 [a0, a2] h5 v6 h6 → ∀ z11 : Int, z11 = wr (z9 + v6) → ∀ (v7 : Int) (h7 : fH), fS 177 [z11, 99] h6 v7 h7 → ∀ h8 : fH, h8 = fu h7 275 a2 v7 → Q 0 h8) : Q v h' := by
  exact x_mef vr_wed_k hs (fun _ _ _ => False) Q h0 (fun i Ti hT => by cases hT)
def vr_weepsOf_T : xT := [(1, [.inr 272, .inl 1], 0, 0), (10, [.inl 2, .inr 1], 0, 1), (11, [.inr 2], 0, 0), (10, [.inl 2, .inr 2], 0, 1), (11, [.inr 10], 0, 0), (10, [.inl 2, .inr 3], 0, 1), (11, [.inr 0], 0, 0), (10, [.inl 2, .inr 4], 0, 1), (11, [.inr 3], 0, 0), (10, [.inl 2, .inr 5], 0, 2), (1, [.inr 273, .inl 1], 0, 0), (11, [.inl 3], 0, 0),
  (11, [.inr 5], 0, 0)]
theorem vr_weepsOf_k : x_chk 176 [] vr_weepsOf_T [] 600 = true := by decide +kernel
theorem vr_weepsOf {a0 a1 v : Int} {h h' : fH} (hs : fS 176 [a0, a1] h v h') (Q : Int → fH → Prop) (h0 : ∀ z2 : Int, z2 = h 272 a1 → ((z2 = 1 → Q 2 h) ∧ (z2 ≠ 1 → ((z2 = 2 → Q 10 h) ∧ (z2 ≠ 2 → ((z2 = 3 → Q 0 h) ∧ (z2 ≠ 3 → ((z2 = 4 → Q 3 h) ∧ (z2 ≠ 4 → ((z2 = 5 → ∀ z3 : Int, z3 = h 273 a1 → Q z3 h) ∧ (z2 ≠ 5 → Q 5 h))))))))))) : Q v h' := by
  exact x_mef vr_weepsOf_k hs (fun _ _ _ => False) Q h0 (fun i Ti hT => by cases hT)
def vr_held_T : xT := [(10, [.inl 0, .inr 0], 3, 3), (10, [.inl 0, .inl 1], 5, 1), (11, [.inl 0], 0, 0), (11, [.inl 1], 0, 0), (11, [.inr 0], 0, 0)]
theorem vr_held_k : x_chk 177 [] vr_held_T [] 600 = true := by decide +kernel
theorem vr_held {a0 a1 v : Int} {h h' : fH} (hs : fS 177 [a0, a1] h v h') (Q : Int → fH → Prop) (h0 : ((0 ≤ a0 → ((a0 ≤ a1 → Q a0 h) ∧ (a1 < a0 → Q a1 h))) ∧ (a0 < 0 → Q 0 h))) : Q v h' := by
  exact x_mef vr_held_k hs (fun _ _ _ => False) Q h0 (fun i Ti hT => by cases hT)
def vr_dropWager_T : xT := [(0, [.inl 0], 9, 0), (8, [.inl 2, .inr 1], 1, 0), (2, [.inl 0, .inl 3], 9, 0), (12, [.inl 0, .inl 1], 0, 0)]
def vr_dropWager_T0 : xT := [(0, [.inl 0], 9, 0), (10, [.inl 1, .inl 2], 3, 1), (11, [.inr 0], 0, 0), (8, [.inl 1, .inr 1], 0, 0), (1, [.inr 280, .inl 3], 0, 0), (3, [.inr 280, .inl 1, .inl 4], 0, 0), (8, [.inl 1, .inr 1], 0, 0), (1, [.inr 281, .inl 5], 0, 0), (3, [.inr 281, .inl 1, .inl 6], 0, 0), (8, [.inl 1, .inr 1], 0, 0), (1, [.inr 282, .inl 7], 0, 0), (3, [.inr 282, .inl 1, .inl 8], 0, 0),
  (8, [.inl 1, .inr 1], 0, 0), (1, [.inr 283, .inl 9], 0, 0), (3, [.inr 283, .inl 1, .inl 10], 0, 0), (8, [.inl 1, .inr 1], 0, 0), (1, [.inr 284, .inl 11], 0, 0), (3, [.inr 284, .inl 1, .inl 12], 0, 0), (8, [.inl 1, .inr 1], 0, 0), (12, [.inl 0, .inl 13], 0, 0)]
theorem vr_dropWager_k : x_chk 178 [(12, [(0, 0), (2, 0)])] vr_dropWager_T [vr_dropWager_T0] 600 = true := by decide +kernel
theorem vr_dropWager {a0 a1 v : Int} {h h' : fH} (hs : fS 178 [a0, a1] h v h') (I0 : Int → Int → fH → Prop) (Q : Int → fH → Prop) (h0 : ∀ z2 : Int, z2 = h a0 9 → ∀ z3 : Int, z3 = wr (z2 - 1) → ∀ h1 : fH, h1 = fu h a0 9 z3 → I0 a0 a1 h1) (k0 : ∀ (x0 x2 : Int) (h : fH), I0 x0 x2 h → ∀ z2 : Int, z2 = h x0 9 → ((z2 ≤ x2 → Q 0 h) ∧ (x2 < z2 → ∀ z3 : Int, z3 = wr (x2 + 1) → ∀ z4 : Int, z4 = h 280 z3 → ∀ h1 : fH, h1 = fu h 280 x2 z4 → ∀ z5 : Int, z5 = wr (x2 + 1) → ∀ z6 : Int, z6 = h1 281 z5 → ∀ h2 : fH, h2 = fu h1 281 x2 z6 → ∀ z7 : Int, z7 = wr (x2 + 1) → ∀ z8 : Int, z8 = h2 282 z7 → ∀ h3 : fH, h3 = fu h2 282 x2 z8 → ∀ z9 : Int, z9 = wr (x2 + 1) → ∀ z10 : Int, z10 = h3 283 z9 → ∀ h4 : fH, h4 = fu h3 283 x2 z10 → ∀ z11 : Int, z11 = wr (x2 + 1) → ∀ z12 : Int, z12 = h4 284 z11 → ∀ h5 : fH, h5 = fu h4 284 x2 z12 → ∀ z13 : Int, z13 = wr (x2 + 1) → I0 x0 z13 h5))) : Q v h' := by
  refine x_mef vr_dropWager_k hs (fun k l h => match k with
    | 0 => (match l with | [x0, x2] => I0 x0 x2 h | _ => False)
    | _ => False) Q h0 ?_
  intro i Ti hT vals h hi
  match i, hT, hi with
  | 0, hT, hi =>
    cases hT
    match vals, hi with
    | [x0, x2], hi => exact k0 _ _ _ hi
    | [], hi => exact False.elim hi
    | [_], hi => exact False.elim hi
    | _ :: _ :: _ :: _, hi => exact False.elim hi
  | _ + 1, hT, _ => cases hT
def vr_learnsOf_T : xT := [(1, [.inr 272, .inl 1], 0, 0), (10, [.inl 2, .inr 1], 0, 1), (11, [.inr 0], 0, 0), (10, [.inl 2, .inr 2], 0, 1), (11, [.inr 2], 0, 0), (10, [.inl 2, .inr 3], 0, 1), (11, [.inr 1], 0, 0), (10, [.inl 2, .inr 4], 0, 1), (11, [.inr 1], 0, 0), (10, [.inl 2, .inr 5], 0, 1), (11, [.inr 3], 0, 0), (11, [.inr 1], 0, 0)]
theorem vr_learnsOf_k : x_chk 179 [] vr_learnsOf_T [] 600 = true := by decide +kernel
theorem vr_learnsOf {a0 a1 v : Int} {h h' : fH} (hs : fS 179 [a0, a1] h v h') (Q : Int → fH → Prop) (h0 : ∀ z2 : Int, z2 = h 272 a1 → ((z2 = 1 → Q 0 h) ∧ (z2 ≠ 1 → ((z2 = 2 → Q 2 h) ∧ (z2 ≠ 2 → ((z2 = 3 → Q 1 h) ∧ (z2 ≠ 3 → ((z2 = 4 → Q 1 h) ∧ (z2 ≠ 4 → ((z2 = 5 → Q 3 h) ∧ (z2 ≠ 5 → Q 1 h))))))))))) : Q v h' := by
  exact x_mef vr_learnsOf_k hs (fun _ _ _ => False) Q h0 (fun i Ti hT => by cases hT)
def vr_image_T : xT := [(2, [.inl 0, .inr 0], 16, 0), (2, [.inl 0, .inr 1], 28, 0), (13, [.inl 0, .inr 291, .inr 1], 159, 0), (0, [.inl 0], 15, 0), (11, [.inl 2], 0, 0)]
theorem vr_image_k : x_chk 181 [] vr_image_T [] 600 = true := by decide +kernel
theorem vr_image {a0 v : Int} {h h' : fH} (hs : fS 181 [a0] h v h') (Q : Int → fH → Prop) (h0 : ∀ h1 : fH, h1 = fu h a0 16 0 → ∀ h2 : fH, h2 = fu h1 a0 28 1 → ∀ (v3 : Int) (h3 : fH), fS 159 [a0, 291, 1] h2 v3 h3 → ∀ z2 : Int, z2 = h3 a0 15 → Q z2 h3) : Q v h' := by
  exact x_mef vr_image_k hs (fun _ _ _ => False) Q h0 (fun i Ti hT => by cases hT)
def vr_restore_T : xT := [(2, [.inl 0, .inr 0], 16, 0), (0, [.inl 0], 28, 0), (10, [.inl 1, .inr 0], 1, 4), (13, [.inl 0, .inr 291, .inr 0], 159, 0), (2, [.inl 0, .inr 0], 34, 0), (0, [.inl 0], 15, 0), (11, [.inl 3], 0, 0), (9, [.inr (-3)], 0, 0), (1, [.inr 285, .inl 2], 0, 0), (8, [.inl 3, .inr 1], 0, 0), (3, [.inr 285, .inl 2, .inl 4], 0, 0), (11, [.inr (-3)], 0, 0)]
theorem vr_restore_k : x_chk 182 [] vr_restore_T [] 600 = true := by decide +kernel
theorem vr_restore {a0 v : Int} {h h' : fH} (hs : fS 182 [a0] h v h') (Q : Int → fH → Prop) (h0 : ∀ h1 : fH, h1 = fu h a0 16 0 → ∀ z1 : Int, z1 = h1 a0 28 → ((z1 ≠ 0 → ∀ (v2 : Int) (h2 : fH), fS 159 [a0, 291, 0] h1 v2 h2 → ∀ h3 : fH, h3 = fu h2 a0 34 0 → ∀ z3 : Int, z3 = h3 a0 15 → Q z3 h3) ∧ (z1 = 0 → ∀ z2 : Int, z2 = wr (-(-3)) → ∀ z3 : Int, z3 = h1 285 z2 → ∀ z4 : Int, z4 = wr (z3 + 1) → ∀ h2 : fH, h2 = fu h1 285 z2 z4 → Q (-3) h2))) : Q v h' := by
  exact x_mef vr_restore_k hs (fun _ _ _ => False) Q h0 (fun i Ti hT => by cases hT)
def vr_back_T : xT := [(2, [.inl 0, .inr 0], 16, 0), (0, [.inl 0], 34, 0), (10, [.inl 1, .inr 0], 1, 4), (0, [.inl 0], 34, 0), (8, [.inl 2, .inr 1], 1, 0), (2, [.inl 0, .inl 3], 34, 0), (12, [.inl 0, .inr 0], 0, 0), (9, [.inr (-3)], 0, 0), (1, [.inr 285, .inl 2], 0, 0), (8, [.inl 3, .inr 1], 0, 0), (3, [.inr 285, .inl 2, .inl 4], 0, 0), (11, [.inr (-3)], 0, 0)]
def vr_back_T0 : xT := [(10, [.inl 1, .inr 113], 3, 3), (13, [.inl 0, .inr 293, .inr 0], 159, 0), (0, [.inl 0], 34, 0), (11, [.inl 3], 0, 0), (0, [.inl 0], 34, 0), (8, [.inr 113, .inl 2], 2, 0), (8, [.inl 3, .inl 1], 0, 0), (1, [.inr 292, .inl 4], 0, 0), (3, [.inr 293, .inl 1, .inl 5], 0, 0), (8, [.inl 1, .inr 1], 0, 0), (12, [.inl 0, .inl 6], 0, 0)]
theorem vr_back_k : x_chk 183 [(31, [(0, 0), (1, 0)])] vr_back_T [vr_back_T0] 600 = true := by decide +kernel
theorem vr_back {a0 v : Int} {h h' : fH} (hs : fS 183 [a0] h v h') (I0 : Int → Int → fH → Prop) (Q : Int → fH → Prop) (h0 : ∀ h1 : fH, h1 = fu h a0 16 0 → ∀ z1 : Int, z1 = h1 a0 34 → ((z1 ≠ 0 → ∀ z2 : Int, z2 = h1 a0 34 → ∀ z3 : Int, z3 = wr (z2 - 1) → ∀ h2 : fH, h2 = fu h1 a0 34 z3 → I0 a0 0 h2) ∧ (z1 = 0 → ∀ z2 : Int, z2 = wr (-(-3)) → ∀ z3 : Int, z3 = h1 285 z2 → ∀ z4 : Int, z4 = wr (z3 + 1) → ∀ h2 : fH, h2 = fu h1 285 z2 z4 → Q (-3) h2))) (k0 : ∀ (x0 x1 : Int) (h : fH), I0 x0 x1 h → ((113 ≤ x1 → ∀ (v1 : Int) (h1 : fH), fS 159 [x0, 293, 0] h v1 h1 → ∀ z3 : Int, z3 = h1 x0 34 → Q z3 h1) ∧ (x1 < 113 → ∀ z2 : Int, z2 = h x0 34 → ∀ z3 : Int, z3 = wr (113 * z2) → ∀ z4 : Int, z4 = wr (z3 + x1) → ∀ z5 : Int, z5 = h 292 z4 → ∀ h1 : fH, h1 = fu h 293 x1 z5 → ∀ z6 : Int, z6 = wr (x1 + 1) → I0 x0 z6 h1))) : Q v h' := by
  refine x_mef vr_back_k hs (fun k l h => match k with
    | 0 => (match l with | [x0, x1] => I0 x0 x1 h | _ => False)
    | _ => False) Q h0 ?_
  intro i Ti hT vals h hi
  match i, hT, hi with
  | 0, hT, hi =>
    cases hT
    match vals, hi with
    | [x0, x1], hi => exact k0 _ _ _ hi
    | [], hi => exact False.elim hi
    | [_], hi => exact False.elim hi
    | _ :: _ :: _ :: _, hi => exact False.elim hi
  | _ + 1, hT, _ => cases hT
def vr_personOf_T : xT := [(2, [.inl 0, .inr 0], 16, 0), (0, [.inl 0], 0, 0), (8, [.inl 3, .inr 1], 1, 0), (8, [.inl 1, .inr 0], 18, 0), (10, [.inl 5, .inr 0], 2, 21), (0, [.inl 0], 0, 0), (8, [.inl 6, .inr 1], 1, 0), (8, [.inl 1, .inr 0], 18, 0), (10, [.inl 8, .inr 0], 2, 5), (9, [.inr (-1)], 0, 0), (1, [.inr 285, .inl 9], 0, 0), (8, [.inl 10, .inr 1], 0, 0),
  (3, [.inr 285, .inl 9, .inl 11], 0, 0), (11, [.inr (-1)], 0, 0), (8, [.inl 1, .inl 7], 18, 0), (10, [.inl 9, .inr 0], 4, 5), (9, [.inr (-1)], 0, 0), (1, [.inr 285, .inl 10], 0, 0), (8, [.inl 11, .inr 1], 0, 0), (3, [.inr 285, .inl 10, .inl 12], 0, 0), (11, [.inr (-1)], 0, 0), (9, [.inr (-2)], 0, 0), (1, [.inr 285, .inl 10], 0, 0), (8, [.inl 11, .inr 1], 0, 0),
  (3, [.inr 285, .inl 10, .inl 12], 0, 0), (11, [.inr (-2)], 0, 0), (8, [.inl 1, .inl 4], 18, 0), (10, [.inl 6, .inr 0], 4, 21), (0, [.inl 0], 0, 0), (8, [.inl 7, .inr 1], 1, 0), (8, [.inl 1, .inr 0], 18, 0), (10, [.inl 9, .inr 0], 2, 5), (9, [.inr (-1)], 0, 0), (1, [.inr 285, .inl 10], 0, 0), (8, [.inl 11, .inr 1], 0, 0), (3, [.inr 285, .inl 10, .inl 12], 0, 0),
  (11, [.inr (-1)], 0, 0), (8, [.inl 1, .inl 8], 18, 0), (10, [.inl 10, .inr 0], 4, 5), (9, [.inr (-1)], 0, 0), (1, [.inr 285, .inl 11], 0, 0), (8, [.inl 12, .inr 1], 0, 0), (3, [.inr 285, .inl 11, .inl 13], 0, 0), (11, [.inr (-1)], 0, 0), (9, [.inr (-2)], 0, 0), (1, [.inr 285, .inl 11], 0, 0), (8, [.inl 12, .inr 1], 0, 0), (3, [.inr 285, .inl 11, .inl 13], 0, 0),
  (11, [.inr (-2)], 0, 0), (8, [.inl 2, .inr 0], 18, 0), (10, [.inl 7, .inr 0], 2, 21), (0, [.inl 0], 0, 0), (8, [.inl 8, .inr 1], 1, 0), (8, [.inl 1, .inr 0], 18, 0), (10, [.inl 10, .inr 0], 2, 5), (9, [.inr (-1)], 0, 0), (1, [.inr 285, .inl 11], 0, 0), (8, [.inl 12, .inr 1], 0, 0), (3, [.inr 285, .inl 11, .inl 13], 0, 0), (11, [.inr (-1)], 0, 0),
  (8, [.inl 1, .inl 9], 18, 0), (10, [.inl 11, .inr 0], 4, 5), (9, [.inr (-1)], 0, 0), (1, [.inr 285, .inl 12], 0, 0), (8, [.inl 13, .inr 1], 0, 0), (3, [.inr 285, .inl 12, .inl 14], 0, 0), (11, [.inr (-1)], 0, 0), (9, [.inr (-2)], 0, 0), (1, [.inr 285, .inl 12], 0, 0), (8, [.inl 13, .inr 1], 0, 0), (3, [.inr 285, .inl 12, .inl 14], 0, 0), (11, [.inr (-2)], 0, 0),
  (8, [.inl 2, .inr 7], 18, 0), (10, [.inl 8, .inr 0], 4, 21), (0, [.inl 0], 0, 0), (8, [.inl 9, .inr 1], 1, 0), (8, [.inl 1, .inr 0], 18, 0), (10, [.inl 11, .inr 0], 2, 5), (9, [.inr (-1)], 0, 0), (1, [.inr 285, .inl 12], 0, 0), (8, [.inl 13, .inr 1], 0, 0), (3, [.inr 285, .inl 12, .inl 14], 0, 0), (11, [.inr (-1)], 0, 0), (8, [.inl 1, .inl 10], 18, 0),
  (10, [.inl 12, .inr 0], 4, 5), (9, [.inr (-1)], 0, 0), (1, [.inr 285, .inl 13], 0, 0), (8, [.inl 14, .inr 1], 0, 0), (3, [.inr 285, .inl 13, .inl 15], 0, 0), (11, [.inr (-1)], 0, 0), (9, [.inr (-2)], 0, 0), (1, [.inr 285, .inl 13], 0, 0), (8, [.inl 14, .inr 1], 0, 0), (3, [.inr 285, .inl 13, .inl 15], 0, 0), (11, [.inr (-2)], 0, 0), (10, [.inl 2, .inr 0], 0, 2),
  (1, [.inr 272, .inl 1], 0, 0), (11, [.inl 9], 0, 0), (10, [.inl 2, .inr 1], 0, 2), (1, [.inr 273, .inl 1], 0, 0), (11, [.inl 9], 0, 0), (10, [.inl 2, .inr 2], 0, 2), (1, [.inr 274, .inl 1], 0, 0), (11, [.inl 9], 0, 0), (10, [.inl 2, .inr 3], 0, 2), (1, [.inr 275, .inl 1], 0, 0), (11, [.inl 9], 0, 0), (10, [.inl 2, .inr 4], 0, 6),
  (1, [.inr 276, .inl 1], 0, 0), (10, [.inl 9, .inr 0], 1, 3), (1, [.inr 276, .inl 1], 0, 0), (8, [.inl 10, .inr 1], 1, 0), (11, [.inl 11], 0, 0), (11, [.inr (-9)], 0, 0), (10, [.inl 2, .inr 5], 0, 2), (13, [.inl 0, .inl 1], 170, 0), (11, [.inl 9], 0, 0), (10, [.inl 2, .inr 6], 0, 2), (13, [.inl 0, .inl 1], 176, 0), (11, [.inl 9], 0, 0),
  (13, [.inl 0, .inl 1], 179, 0), (11, [.inl 9], 0, 0)]
theorem vr_personOf_k : x_chk 184 [] vr_personOf_T [] 600 = true := by decide +kernel
theorem vr_personOf {a0 a1 a2 v : Int} {h h' : fH} (hs : fS 184 [a0, a1, a2] h v h') (Q : Int → fH → Prop) (h0 : ∀ h1 : fH, h1 = fu h a0 16 0 → ∀ z3 : Int, z3 = h1 a0 0 → ∀ z4 : Int, z4 = wr (z3 - 1) → ∀ z5 : Int, z5 = xlcmp a1 0 → ((z5 < 0 → ∀ z6 : Int, z6 = h1 a0 0 → ∀ z7 : Int, z7 = wr (z6 - 1) → ∀ z8 : Int, z8 = xlcmp a1 0 → ((z8 < 0 → ∀ z9 : Int, z9 = wr (-(-1)) → ∀ z10 : Int, z10 = h1 285 z9 → ∀ z11 : Int, z11 = wr (z10 + 1) → ∀ h2 : fH, h2 = fu h1 285 z9 z11 → Q (-1) h2) ∧ (0 ≤ z8 → ∀ z9 : Int, z9 = xlcmp a1 z7 → ((0 < z9 → ∀ z10 : Int, z10 = wr (-(-1)) → ∀ z11 : Int, z11 = h1 285 z10 → ∀ z12 : Int, z12 = wr (z11 + 1) → ∀ h2 : fH, h2 = fu h1 285 z10 z12 → Q (-1) h2) ∧ (z9 ≤ 0 → ∀ z10 : Int, z10 = wr (-(-2)) → ∀ z11 : Int, z11 = h1 285 z10 → ∀ z12 : Int, z12 = wr (z11 + 1) → ∀ h2 : fH, h2 = fu h1 285 z10 z12 → Q (-2) h2))))) ∧ (0 ≤ z5 → ∀ z6 : Int, z6 = xlcmp a1 z4 → ((0 < z6 → ∀ z7 : Int, z7 = h1 a0 0 → ∀ z8 : Int, z8 = wr (z7 - 1) → ∀ z9 : Int, z9 = xlcmp a1 0 → ((z9 < 0 → ∀ z10 : Int, z10 = wr (-(-1)) → ∀ z11 : Int, z11 = h1 285 z10 → ∀ z12 : Int, z12 = wr (z11 + 1) → ∀ h2 : fH, h2 = fu h1 285 z10 z12 → Q (-1) h2) ∧ (0 ≤ z9 → ∀ z10 : Int, z10 = xlcmp a1 z8 → ((0 < z10 → ∀ z11 : Int, z11 = wr (-(-1)) → ∀ z12 : Int, z12 = h1 285 z11 → ∀ z13 : Int, z13 = wr (z12 + 1) → ∀ h2 : fH, h2 = fu h1 285 z11 z13 → Q (-1) h2) ∧ (z10 ≤ 0 → ∀ z11 : Int, z11 = wr (-(-2)) → ∀ z12 : Int, z12 = h1 285 z11 → ∀ z13 : Int, z13 = wr (z12 + 1) → ∀ h2 : fH, h2 = fu h1 285 z11 z13 → Q (-2) h2))))) ∧ (z6 ≤ 0 → ∀ z7 : Int, z7 = xlcmp a2 0 → ((z7 < 0 → ∀ z8 : Int, z8 = h1 a0 0 → ∀ z9 : Int, z9 = wr (z8 - 1) → ∀ z10 : Int, z10 = xlcmp a1 0 → ((z10 < 0 → ∀ z11 : Int, z11 = wr (-(-1)) → ∀ z12 : Int, z12 = h1 285 z11 → ∀ z13 : Int, z13 = wr (z12 + 1) → ∀ h2 : fH, h2 = fu h1 285 z11 z13 → Q (-1) h2) ∧ (0 ≤ z10 → ∀ z11 : Int, z11 = xlcmp a1 z9 → ((0 < z11 → ∀ z12 : Int, z12 = wr (-(-1)) → ∀ z13 : Int, z13 = h1 285 z12 → ∀ z14 : Int, z14 = wr (z13 + 1) → ∀ h2 : fH, h2 = fu h1 285 z12 z14 → Q (-1) h2) ∧ (z11 ≤ 0 → ∀ z12 : Int, z12 = wr (-(-2)) → ∀ z13 : Int, z13 = h1 285 z12 → ∀ z14 : Int, z14 = wr (z13 + 1) → ∀ h2 : fH, h2 = fu h1 285 z12 z14 → Q (-2) h2))))) ∧ (0 ≤ z7 → ∀ z8 : Int, z8 = xlcmp a2 7 → ((0 < z8 → ∀ z9 : Int, z9 = h1 a0 0 → ∀ z10 : Int, z10 = wr (z9 - 1) → ∀ z11 : Int, z11 = xlcmp a1 0 → ((z11 < 0 → ∀ z12 : Int, z12 = wr (-(-1)) → ∀ z13 : Int, z13 = h1 285 z12 → ∀ z14 : Int, z14 = wr (z13 + 1) → ∀ h2 : fH, h2 = fu h1 285 z12 z14 → Q (-1) h2) ∧ (0 ≤ z11 → ∀ z12 : Int, z12 = xlcmp a1 z10 → ((0 < z12 → ∀ z13 : Int, z13 = wr (-(-1)) → ∀ z14 : Int, z14 = h1 285 z13 → ∀ z15 : Int, z15 = wr (z14 + 1) → ∀ h2 : fH, h2 = fu h1 285 z13 z15 → Q (-1) h2) ∧ (z12 ≤ 0 → ∀ z13 : Int, z13 = wr (-(-2)) → ∀ z14 : Int, z14 = h1 285 z13 → ∀ z15 : Int, z15 = wr (z14 + 1) → ∀ h2 : fH, h2 = fu h1 285 z13 z15 → Q (-2) h2))))) ∧ (z8 ≤ 0 → ((a2 = 0 → ∀ z9 : Int, z9 = h1 272 a1 → Q z9 h1) ∧ (a2 ≠ 0 → ((a2 = 1 → ∀ z9 : Int, z9 = h1 273 a1 → Q z9 h1) ∧ (a2 ≠ 1 → ((a2 = 2 → ∀ z9 : Int, z9 = h1 274 a1 → Q z9 h1) ∧ (a2 ≠ 2 → ((a2 = 3 → ∀ z9 : Int, z9 = h1 275 a1 → Q z9 h1) ∧ (a2 ≠ 3 → ((a2 = 4 → ∀ z9 : Int, z9 = h1 276 a1 → ((z9 ≠ 0 → ∀ z10 : Int, z10 = h1 276 a1 → ∀ z11 : Int, z11 = wr (z10 - 1) → Q z11 h1) ∧ (z9 = 0 → Q (-9) h1))) ∧ (a2 ≠ 4 → ((a2 = 5 → ∀ (v2 : Int) (h2 : fH), fS 170 [a0, a1] h1 v2 h2 → Q v2 h2) ∧ (a2 ≠ 5 → ((a2 = 6 → ∀ (v2 : Int) (h2 : fH), fS 176 [a0, a1] h1 v2 h2 → Q v2 h2) ∧ (a2 ≠ 6 → ∀ (v2 : Int) (h2 : fH), fS 179 [a0, a1] h1 v2 h2 → Q v2 h2))))))))))))))))))))))) : Q v h' := by
  exact x_mef vr_personOf_k hs (fun _ _ _ => False) Q h0 (fun i Ti hT => by cases hT)
def vr_belief_T : xT := [(2, [.inl 0, .inr 0], 16, 0), (0, [.inl 0], 0, 0), (8, [.inl 3, .inr 1], 1, 0), (8, [.inl 1, .inr 0], 18, 0), (10, [.inl 5, .inr 0], 2, 5), (9, [.inr (-1)], 0, 0), (1, [.inr 285, .inl 6], 0, 0), (8, [.inl 7, .inr 1], 0, 0), (3, [.inr 285, .inl 6, .inl 8], 0, 0), (11, [.inr (-1)], 0, 0), (8, [.inl 1, .inl 4], 18, 0), (10, [.inl 6, .inr 0], 4, 5),
  (9, [.inr (-1)], 0, 0), (1, [.inr 285, .inl 7], 0, 0), (8, [.inl 8, .inr 1], 0, 0), (3, [.inr 285, .inl 7, .inl 9], 0, 0), (11, [.inr (-1)], 0, 0), (8, [.inl 2, .inr 0], 18, 0), (10, [.inl 7, .inr 0], 2, 5), (9, [.inr (-1)], 0, 0), (1, [.inr 285, .inl 8], 0, 0), (8, [.inl 9, .inr 1], 0, 0), (3, [.inr 285, .inl 8, .inl 10], 0, 0), (11, [.inr (-1)], 0, 0),
  (8, [.inl 2, .inr 4], 18, 0), (10, [.inl 8, .inr 0], 4, 5), (9, [.inr (-1)], 0, 0), (1, [.inr 285, .inl 9], 0, 0), (8, [.inl 10, .inr 1], 0, 0), (3, [.inr 285, .inl 9, .inl 11], 0, 0), (11, [.inr (-1)], 0, 0), (8, [.inr 5, .inl 1], 2, 0), (8, [.inl 9, .inl 2], 0, 0), (1, [.inr 277, .inl 10], 0, 0), (11, [.inl 11], 0, 0)]
theorem vr_belief_k : x_chk 185 [] vr_belief_T [] 600 = true := by decide +kernel
theorem vr_belief {a0 a1 a2 v : Int} {h h' : fH} (hs : fS 185 [a0, a1, a2] h v h') (Q : Int → fH → Prop) (h0 : ∀ h1 : fH, h1 = fu h a0 16 0 → ∀ z3 : Int, z3 = h1 a0 0 → ∀ z4 : Int, z4 = wr (z3 - 1) → ∀ z5 : Int, z5 = xlcmp a1 0 → ((z5 < 0 → ∀ z6 : Int, z6 = wr (-(-1)) → ∀ z7 : Int, z7 = h1 285 z6 → ∀ z8 : Int, z8 = wr (z7 + 1) → ∀ h2 : fH, h2 = fu h1 285 z6 z8 → Q (-1) h2) ∧ (0 ≤ z5 → ∀ z6 : Int, z6 = xlcmp a1 z4 → ((0 < z6 → ∀ z7 : Int, z7 = wr (-(-1)) → ∀ z8 : Int, z8 = h1 285 z7 → ∀ z9 : Int, z9 = wr (z8 + 1) → ∀ h2 : fH, h2 = fu h1 285 z7 z9 → Q (-1) h2) ∧ (z6 ≤ 0 → ∀ z7 : Int, z7 = xlcmp a2 0 → ((z7 < 0 → ∀ z8 : Int, z8 = wr (-(-1)) → ∀ z9 : Int, z9 = h1 285 z8 → ∀ z10 : Int, z10 = wr (z9 + 1) → ∀ h2 : fH, h2 = fu h1 285 z8 z10 → Q (-1) h2) ∧ (0 ≤ z7 → ∀ z8 : Int, z8 = xlcmp a2 4 → ((0 < z8 → ∀ z9 : Int, z9 = wr (-(-1)) → ∀ z10 : Int, z10 = h1 285 z9 → ∀ z11 : Int, z11 = wr (z10 + 1) → ∀ h2 : fH, h2 = fu h1 285 z9 z11 → Q (-1) h2) ∧ (z8 ≤ 0 → ∀ z9 : Int, z9 = wr (5 * a1) → ∀ z10 : Int, z10 = wr (z9 + a2) → ∀ z11 : Int, z11 = h1 277 z10 → Q z11 h1))))))))) : Q v h' := by
  exact x_mef vr_belief_k hs (fun _ _ _ => False) Q h0 (fun i Ti hT => by cases hT)
def vr_eventOf_T : xT := [(2, [.inl 0, .inr 0], 16, 0), (8, [.inl 1, .inr 0], 18, 0), (10, [.inl 3, .inr 0], 2, 19), (8, [.inl 1, .inr 0], 18, 0), (10, [.inl 4, .inr 0], 2, 5), (9, [.inr (-1)], 0, 0), (1, [.inr 285, .inl 5], 0, 0), (8, [.inl 6, .inr 1], 0, 0), (3, [.inr 285, .inl 5, .inl 7], 0, 0), (11, [.inr (-1)], 0, 0), (8, [.inl 1, .inr 4], 18, 0), (10, [.inl 5, .inr 0], 4, 5),
  (9, [.inr (-1)], 0, 0), (1, [.inr 285, .inl 6], 0, 0), (8, [.inl 7, .inr 1], 0, 0), (3, [.inr 285, .inl 6, .inl 8], 0, 0), (11, [.inr (-1)], 0, 0), (9, [.inr (-2)], 0, 0), (1, [.inr 285, .inl 6], 0, 0), (8, [.inl 7, .inr 1], 0, 0), (3, [.inr 285, .inl 6, .inl 8], 0, 0), (11, [.inr (-2)], 0, 0), (8, [.inl 1, .inr 4], 18, 0), (10, [.inl 4, .inr 0], 4, 19),
  (8, [.inl 1, .inr 0], 18, 0), (10, [.inl 5, .inr 0], 2, 5), (9, [.inr (-1)], 0, 0), (1, [.inr 285, .inl 6], 0, 0), (8, [.inl 7, .inr 1], 0, 0), (3, [.inr 285, .inl 6, .inl 8], 0, 0), (11, [.inr (-1)], 0, 0), (8, [.inl 1, .inr 4], 18, 0), (10, [.inl 6, .inr 0], 4, 5), (9, [.inr (-1)], 0, 0), (1, [.inr 285, .inl 7], 0, 0), (8, [.inl 8, .inr 1], 0, 0),
  (3, [.inr 285, .inl 7, .inl 9], 0, 0), (11, [.inr (-1)], 0, 0), (9, [.inr (-2)], 0, 0), (1, [.inr 285, .inl 7], 0, 0), (8, [.inl 8, .inr 1], 0, 0), (3, [.inr 285, .inl 7, .inl 9], 0, 0), (11, [.inr (-2)], 0, 0), (8, [.inl 2, .inr 0], 18, 0), (10, [.inl 5, .inr 0], 2, 19), (8, [.inl 1, .inr 0], 18, 0), (10, [.inl 6, .inr 0], 2, 5), (9, [.inr (-1)], 0, 0),
  (1, [.inr 285, .inl 7], 0, 0), (8, [.inl 8, .inr 1], 0, 0), (3, [.inr 285, .inl 7, .inl 9], 0, 0), (11, [.inr (-1)], 0, 0), (8, [.inl 1, .inr 4], 18, 0), (10, [.inl 7, .inr 0], 4, 5), (9, [.inr (-1)], 0, 0), (1, [.inr 285, .inl 8], 0, 0), (8, [.inl 9, .inr 1], 0, 0), (3, [.inr 285, .inl 8, .inl 10], 0, 0), (11, [.inr (-1)], 0, 0), (9, [.inr (-2)], 0, 0),
  (1, [.inr 285, .inl 8], 0, 0), (8, [.inl 9, .inr 1], 0, 0), (3, [.inr 285, .inl 8, .inl 10], 0, 0), (11, [.inr (-2)], 0, 0), (8, [.inl 2, .inr 2], 18, 0), (10, [.inl 6, .inr 0], 4, 19), (8, [.inl 1, .inr 0], 18, 0), (10, [.inl 7, .inr 0], 2, 5), (9, [.inr (-1)], 0, 0), (1, [.inr 285, .inl 8], 0, 0), (8, [.inl 9, .inr 1], 0, 0), (3, [.inr 285, .inl 8, .inl 10], 0, 0),
  (11, [.inr (-1)], 0, 0), (8, [.inl 1, .inr 4], 18, 0), (10, [.inl 8, .inr 0], 4, 5), (9, [.inr (-1)], 0, 0), (1, [.inr 285, .inl 9], 0, 0), (8, [.inl 10, .inr 1], 0, 0), (3, [.inr 285, .inl 9, .inl 11], 0, 0), (11, [.inr (-1)], 0, 0), (9, [.inr (-2)], 0, 0), (1, [.inr 285, .inl 9], 0, 0), (8, [.inl 10, .inr 1], 0, 0), (3, [.inr 285, .inl 9, .inl 11], 0, 0),
  (11, [.inr (-2)], 0, 0), (10, [.inl 2, .inr 0], 1, 11), (10, [.inl 2, .inr 1], 1, 8), (0, [.inl 0], 15, 0), (1, [.inr 279, .inl 1], 0, 0), (8, [.inl 7, .inl 8], 0, 0), (1, [.inr 278, .inl 1], 0, 0), (8, [.inl 9, .inl 10], 10, 0), (10, [.inl 11, .inr 0], 1, 1), (11, [.inr 0], 0, 0), (11, [.inr 1], 0, 0), (1, [.inr 279, .inl 1], 0, 0),
  (11, [.inl 7], 0, 0), (1, [.inr 278, .inl 1], 0, 0), (11, [.inl 7], 0, 0)]
theorem vr_eventOf_k : x_chk 186 [] vr_eventOf_T [] 600 = true := by decide +kernel
theorem vr_eventOf {a0 a1 a2 v : Int} {h h' : fH} (hs : fS 186 [a0, a1, a2] h v h') (Q : Int → fH → Prop) (h0 : ∀ h1 : fH, h1 = fu h a0 16 0 → ∀ z3 : Int, z3 = xlcmp a1 0 → ((z3 < 0 → ∀ z4 : Int, z4 = xlcmp a1 0 → ((z4 < 0 → ∀ z5 : Int, z5 = wr (-(-1)) → ∀ z6 : Int, z6 = h1 285 z5 → ∀ z7 : Int, z7 = wr (z6 + 1) → ∀ h2 : fH, h2 = fu h1 285 z5 z7 → Q (-1) h2) ∧ (0 ≤ z4 → ∀ z5 : Int, z5 = xlcmp a1 4 → ((0 < z5 → ∀ z6 : Int, z6 = wr (-(-1)) → ∀ z7 : Int, z7 = h1 285 z6 → ∀ z8 : Int, z8 = wr (z7 + 1) → ∀ h2 : fH, h2 = fu h1 285 z6 z8 → Q (-1) h2) ∧ (z5 ≤ 0 → ∀ z6 : Int, z6 = wr (-(-2)) → ∀ z7 : Int, z7 = h1 285 z6 → ∀ z8 : Int, z8 = wr (z7 + 1) → ∀ h2 : fH, h2 = fu h1 285 z6 z8 → Q (-2) h2))))) ∧ (0 ≤ z3 → ∀ z4 : Int, z4 = xlcmp a1 4 → ((0 < z4 → ∀ z5 : Int, z5 = xlcmp a1 0 → ((z5 < 0 → ∀ z6 : Int, z6 = wr (-(-1)) → ∀ z7 : Int, z7 = h1 285 z6 → ∀ z8 : Int, z8 = wr (z7 + 1) → ∀ h2 : fH, h2 = fu h1 285 z6 z8 → Q (-1) h2) ∧ (0 ≤ z5 → ∀ z6 : Int, z6 = xlcmp a1 4 → ((0 < z6 → ∀ z7 : Int, z7 = wr (-(-1)) → ∀ z8 : Int, z8 = h1 285 z7 → ∀ z9 : Int, z9 = wr (z8 + 1) → ∀ h2 : fH, h2 = fu h1 285 z7 z9 → Q (-1) h2) ∧ (z6 ≤ 0 → ∀ z7 : Int, z7 = wr (-(-2)) → ∀ z8 : Int, z8 = h1 285 z7 → ∀ z9 : Int, z9 = wr (z8 + 1) → ∀ h2 : fH, h2 = fu h1 285 z7 z9 → Q (-2) h2))))) ∧ (z4 ≤ 0 → ∀ z5 : Int, z5 = xlcmp a2 0 → ((z5 < 0 → ∀ z6 : Int, z6 = xlcmp a1 0 → ((z6 < 0 → ∀ z7 : Int, z7 = wr (-(-1)) → ∀ z8 : Int, z8 = h1 285 z7 → ∀ z9 : Int, z9 = wr (z8 + 1) → ∀ h2 : fH, h2 = fu h1 285 z7 z9 → Q (-1) h2) ∧ (0 ≤ z6 → ∀ z7 : Int, z7 = xlcmp a1 4 → ((0 < z7 → ∀ z8 : Int, z8 = wr (-(-1)) → ∀ z9 : Int, z9 = h1 285 z8 → ∀ z10 : Int, z10 = wr (z9 + 1) → ∀ h2 : fH, h2 = fu h1 285 z8 z10 → Q (-1) h2) ∧ (z7 ≤ 0 → ∀ z8 : Int, z8 = wr (-(-2)) → ∀ z9 : Int, z9 = h1 285 z8 → ∀ z10 : Int, z10 = wr (z9 + 1) → ∀ h2 : fH, h2 = fu h1 285 z8 z10 → Q (-2) h2))))) ∧ (0 ≤ z5 → ∀ z6 : Int, z6 = xlcmp a2 2 → ((0 < z6 → ∀ z7 : Int, z7 = xlcmp a1 0 → ((z7 < 0 → ∀ z8 : Int, z8 = wr (-(-1)) → ∀ z9 : Int, z9 = h1 285 z8 → ∀ z10 : Int, z10 = wr (z9 + 1) → ∀ h2 : fH, h2 = fu h1 285 z8 z10 → Q (-1) h2) ∧ (0 ≤ z7 → ∀ z8 : Int, z8 = xlcmp a1 4 → ((0 < z8 → ∀ z9 : Int, z9 = wr (-(-1)) → ∀ z10 : Int, z10 = h1 285 z9 → ∀ z11 : Int, z11 = wr (z10 + 1) → ∀ h2 : fH, h2 = fu h1 285 z9 z11 → Q (-1) h2) ∧ (z8 ≤ 0 → ∀ z9 : Int, z9 = wr (-(-2)) → ∀ z10 : Int, z10 = h1 285 z9 → ∀ z11 : Int, z11 = wr (z10 + 1) → ∀ h2 : fH, h2 = fu h1 285 z9 z11 → Q (-2) h2))))) ∧ (z6 ≤ 0 → ((a2 ≠ 0 → ((a2 ≠ 1 → ∀ z7 : Int, z7 = h1 a0 15 → ∀ z8 : Int, z8 = h1 279 a1 → ∀ z9 : Int, z9 = wr (z7 + z8) → ∀ z10 : Int, z10 = h1 278 a1 → ∀ z11 : Int, z11 = xrem z9 z10 → ((z11 ≠ 0 → Q 0 h1) ∧ (z11 = 0 → Q 1 h1))) ∧ (a2 = 1 → ∀ z7 : Int, z7 = h1 279 a1 → Q z7 h1))) ∧ (a2 = 0 → ∀ z7 : Int, z7 = h1 278 a1 → Q z7 h1))))))))))) : Q v h' := by
  exact x_mef vr_eventOf_k hs (fun _ _ _ => False) Q h0 (fun i Ti hT => by cases hT)
end
section
/-! the trees of the methods (made by a program) -/
def vr_wagerOf_T : xT := [(2, [.inl 0, .inr 0], 16, 0), (0, [.inl 0], 9, 0), (8, [.inl 3, .inr 1], 1, 0), (8, [.inl 1, .inr 0], 18, 0), (10, [.inl 5, .inr 0], 2, 21), (0, [.inl 0], 9, 0), (8, [.inl 6, .inr 1], 1, 0), (8, [.inl 1, .inr 0], 18, 0), (10, [.inl 8, .inr 0], 2, 5), (9, [.inr (-1)], 0, 0), (1, [.inr 285, .inl 9], 0, 0), (8, [.inl 10, .inr 1], 0, 0),
  (3, [.inr 285, .inl 9, .inl 11], 0, 0), (11, [.inr (-1)], 0, 0), (8, [.inl 1, .inl 7], 18, 0), (10, [.inl 9, .inr 0], 4, 5), (9, [.inr (-1)], 0, 0), (1, [.inr 285, .inl 10], 0, 0), (8, [.inl 11, .inr 1], 0, 0), (3, [.inr 285, .inl 10, .inl 12], 0, 0), (11, [.inr (-1)], 0, 0), (9, [.inr (-2)], 0, 0), (1, [.inr 285, .inl 10], 0, 0), (8, [.inl 11, .inr 1], 0, 0),
  (3, [.inr 285, .inl 10, .inl 12], 0, 0), (11, [.inr (-2)], 0, 0), (8, [.inl 1, .inl 4], 18, 0), (10, [.inl 6, .inr 0], 4, 21), (0, [.inl 0], 9, 0), (8, [.inl 7, .inr 1], 1, 0), (8, [.inl 1, .inr 0], 18, 0), (10, [.inl 9, .inr 0], 2, 5), (9, [.inr (-1)], 0, 0), (1, [.inr 285, .inl 10], 0, 0), (8, [.inl 11, .inr 1], 0, 0), (3, [.inr 285, .inl 10, .inl 12], 0, 0),
  (11, [.inr (-1)], 0, 0), (8, [.inl 1, .inl 8], 18, 0), (10, [.inl 10, .inr 0], 4, 5), (9, [.inr (-1)], 0, 0), (1, [.inr 285, .inl 11], 0, 0), (8, [.inl 12, .inr 1], 0, 0), (3, [.inr 285, .inl 11, .inl 13], 0, 0), (11, [.inr (-1)], 0, 0), (9, [.inr (-2)], 0, 0), (1, [.inr 285, .inl 11], 0, 0), (8, [.inl 12, .inr 1], 0, 0), (3, [.inr 285, .inl 11, .inl 13], 0, 0),
  (11, [.inr (-2)], 0, 0), (8, [.inl 2, .inr 0], 18, 0), (10, [.inl 7, .inr 0], 2, 21), (0, [.inl 0], 9, 0), (8, [.inl 8, .inr 1], 1, 0), (8, [.inl 1, .inr 0], 18, 0), (10, [.inl 10, .inr 0], 2, 5), (9, [.inr (-1)], 0, 0), (1, [.inr 285, .inl 11], 0, 0), (8, [.inl 12, .inr 1], 0, 0), (3, [.inr 285, .inl 11, .inl 13], 0, 0), (11, [.inr (-1)], 0, 0),
  (8, [.inl 1, .inl 9], 18, 0), (10, [.inl 11, .inr 0], 4, 5), (9, [.inr (-1)], 0, 0), (1, [.inr 285, .inl 12], 0, 0), (8, [.inl 13, .inr 1], 0, 0), (3, [.inr 285, .inl 12, .inl 14], 0, 0), (11, [.inr (-1)], 0, 0), (9, [.inr (-2)], 0, 0), (1, [.inr 285, .inl 12], 0, 0), (8, [.inl 13, .inr 1], 0, 0), (3, [.inr 285, .inl 12, .inl 14], 0, 0), (11, [.inr (-2)], 0, 0),
  (8, [.inl 2, .inr 4], 18, 0), (10, [.inl 8, .inr 0], 4, 21), (0, [.inl 0], 9, 0), (8, [.inl 9, .inr 1], 1, 0), (8, [.inl 1, .inr 0], 18, 0), (10, [.inl 11, .inr 0], 2, 5), (9, [.inr (-1)], 0, 0), (1, [.inr 285, .inl 12], 0, 0), (8, [.inl 13, .inr 1], 0, 0), (3, [.inr 285, .inl 12, .inl 14], 0, 0), (11, [.inr (-1)], 0, 0), (8, [.inl 1, .inl 10], 18, 0),
  (10, [.inl 12, .inr 0], 4, 5), (9, [.inr (-1)], 0, 0), (1, [.inr 285, .inl 13], 0, 0), (8, [.inl 14, .inr 1], 0, 0), (3, [.inr 285, .inl 13, .inl 15], 0, 0), (11, [.inr (-1)], 0, 0), (9, [.inr (-2)], 0, 0), (1, [.inr 285, .inl 13], 0, 0), (8, [.inl 14, .inr 1], 0, 0), (3, [.inr 285, .inl 13, .inl 15], 0, 0), (11, [.inr (-2)], 0, 0), (10, [.inl 2, .inr 0], 1, 11),
  (10, [.inl 2, .inr 1], 1, 8), (10, [.inl 2, .inr 2], 1, 5), (10, [.inl 2, .inr 3], 1, 2), (1, [.inr 284, .inl 1], 0, 0), (11, [.inl 9], 0, 0), (1, [.inr 283, .inl 1], 0, 0), (11, [.inl 9], 0, 0), (1, [.inr 282, .inl 1], 0, 0), (11, [.inl 9], 0, 0), (1, [.inr 281, .inl 1], 0, 0), (11, [.inl 9], 0, 0), (1, [.inr 280, .inl 1], 0, 0),
  (11, [.inl 9], 0, 0)]
theorem vr_wagerOf_k : x_chk 187 [] vr_wagerOf_T [] 600 = true := by decide +kernel
theorem vr_wagerOf {a0 a1 a2 v : Int} {h h' : fH} (hs : fS 187 [a0, a1, a2] h v h') (Q : Int → fH → Prop) (h0 : ∀ h1 : fH, h1 = fu h a0 16 0 → ∀ z3 : Int, z3 = h1 a0 9 → ∀ z4 : Int, z4 = wr (z3 - 1) → ∀ z5 : Int, z5 = xlcmp a1 0 → ((z5 < 0 → ∀ z6 : Int, z6 = h1 a0 9 → ∀ z7 : Int, z7 = wr (z6 - 1) → ∀ z8 : Int, z8 = xlcmp a1 0 → ((z8 < 0 → ∀ z9 : Int, z9 = wr (-(-1)) → ∀ z10 : Int, z10 = h1 285 z9 → ∀ z11 : Int, z11 = wr (z10 + 1) → ∀ h2 : fH, h2 = fu h1 285 z9 z11 → Q (-1) h2) ∧ (0 ≤ z8 → ∀ z9 : Int, z9 = xlcmp a1 z7 → ((0 < z9 → ∀ z10 : Int, z10 = wr (-(-1)) → ∀ z11 : Int, z11 = h1 285 z10 → ∀ z12 : Int, z12 = wr (z11 + 1) → ∀ h2 : fH, h2 = fu h1 285 z10 z12 → Q (-1) h2) ∧ (z9 ≤ 0 → ∀ z10 : Int, z10 = wr (-(-2)) → ∀ z11 : Int, z11 = h1 285 z10 → ∀ z12 : Int, z12 = wr (z11 + 1) → ∀ h2 : fH, h2 = fu h1 285 z10 z12 → Q (-2) h2))))) ∧ (0 ≤ z5 → ∀ z6 : Int, z6 = xlcmp a1 z4 → ((0 < z6 → ∀ z7 : Int, z7 = h1 a0 9 → ∀ z8 : Int, z8 = wr (z7 - 1) → ∀ z9 : Int, z9 = xlcmp a1 0 → ((z9 < 0 → ∀ z10 : Int, z10 = wr (-(-1)) → ∀ z11 : Int, z11 = h1 285 z10 → ∀ z12 : Int, z12 = wr (z11 + 1) → ∀ h2 : fH, h2 = fu h1 285 z10 z12 → Q (-1) h2) ∧ (0 ≤ z9 → ∀ z10 : Int, z10 = xlcmp a1 z8 → ((0 < z10 → ∀ z11 : Int, z11 = wr (-(-1)) → ∀ z12 : Int, z12 = h1 285 z11 → ∀ z13 : Int, z13 = wr (z12 + 1) → ∀ h2 : fH, h2 = fu h1 285 z11 z13 → Q (-1) h2) ∧ (z10 ≤ 0 → ∀ z11 : Int, z11 = wr (-(-2)) → ∀ z12 : Int, z12 = h1 285 z11 → ∀ z13 : Int, z13 = wr (z12 + 1) → ∀ h2 : fH, h2 = fu h1 285 z11 z13 → Q (-2) h2))))) ∧ (z6 ≤ 0 → ∀ z7 : Int, z7 = xlcmp a2 0 → ((z7 < 0 → ∀ z8 : Int, z8 = h1 a0 9 → ∀ z9 : Int, z9 = wr (z8 - 1) → ∀ z10 : Int, z10 = xlcmp a1 0 → ((z10 < 0 → ∀ z11 : Int, z11 = wr (-(-1)) → ∀ z12 : Int, z12 = h1 285 z11 → ∀ z13 : Int, z13 = wr (z12 + 1) → ∀ h2 : fH, h2 = fu h1 285 z11 z13 → Q (-1) h2) ∧ (0 ≤ z10 → ∀ z11 : Int, z11 = xlcmp a1 z9 → ((0 < z11 → ∀ z12 : Int, z12 = wr (-(-1)) → ∀ z13 : Int, z13 = h1 285 z12 → ∀ z14 : Int, z14 = wr (z13 + 1) → ∀ h2 : fH, h2 = fu h1 285 z12 z14 → Q (-1) h2) ∧ (z11 ≤ 0 → ∀ z12 : Int, z12 = wr (-(-2)) → ∀ z13 : Int, z13 = h1 285 z12 → ∀ z14 : Int, z14 = wr (z13 + 1) → ∀ h2 : fH, h2 = fu h1 285 z12 z14 → Q (-2) h2))))) ∧ (0 ≤ z7 → ∀ z8 : Int, z8 = xlcmp a2 4 → ((0 < z8 → ∀ z9 : Int, z9 = h1 a0 9 → ∀ z10 : Int, z10 = wr (z9 - 1) → ∀ z11 : Int, z11 = xlcmp a1 0 → ((z11 < 0 → ∀ z12 : Int, z12 = wr (-(-1)) → ∀ z13 : Int, z13 = h1 285 z12 → ∀ z14 : Int, z14 = wr (z13 + 1) → ∀ h2 : fH, h2 = fu h1 285 z12 z14 → Q (-1) h2) ∧ (0 ≤ z11 → ∀ z12 : Int, z12 = xlcmp a1 z10 → ((0 < z12 → ∀ z13 : Int, z13 = wr (-(-1)) → ∀ z14 : Int, z14 = h1 285 z13 → ∀ z15 : Int, z15 = wr (z14 + 1) → ∀ h2 : fH, h2 = fu h1 285 z13 z15 → Q (-1) h2) ∧ (z12 ≤ 0 → ∀ z13 : Int, z13 = wr (-(-2)) → ∀ z14 : Int, z14 = h1 285 z13 → ∀ z15 : Int, z15 = wr (z14 + 1) → ∀ h2 : fH, h2 = fu h1 285 z13 z15 → Q (-2) h2))))) ∧ (z8 ≤ 0 → ((a2 ≠ 0 → ((a2 ≠ 1 → ((a2 ≠ 2 → ((a2 ≠ 3 → ∀ z9 : Int, z9 = h1 284 a1 → Q z9 h1) ∧ (a2 = 3 → ∀ z9 : Int, z9 = h1 283 a1 → Q z9 h1))) ∧ (a2 = 2 → ∀ z9 : Int, z9 = h1 282 a1 → Q z9 h1))) ∧ (a2 = 1 → ∀ z9 : Int, z9 = h1 281 a1 → Q z9 h1))) ∧ (a2 = 0 → ∀ z9 : Int, z9 = h1 280 a1 → Q z9 h1))))))))))) : Q v h' := by
  exact x_mef vr_wagerOf_k hs (fun _ _ _ => False) Q h0 (fun i Ti hT => by cases hT)
def vr_person_T : xT := [(2, [.inl 0, .inr 0], 16, 0), (8, [.inl 1, .inr 0], 18, 0), (10, [.inl 3, .inr 0], 2, 5), (9, [.inr (-2)], 0, 0), (1, [.inr 285, .inl 4], 0, 0), (8, [.inl 5, .inr 1], 0, 0), (3, [.inr 285, .inl 4, .inl 6], 0, 0), (11, [.inr (-2)], 0, 0), (8, [.inl 1, .inr 5], 18, 0), (10, [.inl 4, .inr 0], 4, 5), (9, [.inr (-2)], 0, 0), (1, [.inr 285, .inl 5], 0, 0),
  (8, [.inl 6, .inr 1], 0, 0), (3, [.inr 285, .inl 5, .inl 7], 0, 0), (11, [.inr (-2)], 0, 0), (10, [.inl 2, .inr 0], 3, 18), (10, [.inl 2, .inr 9], 5, 12), (0, [.inl 0], 0, 0), (10, [.inl 5, .inr 7], 1, 5), (13, [.inl 0, .inl 1, .inl 2], 162, 0), (2, [.inl 0, .inr 0], 34, 0), (0, [.inl 0], 0, 0), (8, [.inl 7, .inr 1], 1, 0), (11, [.inl 8], 0, 0),
  (9, [.inr (-6)], 0, 0), (1, [.inr 285, .inl 6], 0, 0), (8, [.inl 7, .inr 1], 0, 0), (3, [.inr 285, .inl 6, .inl 8], 0, 0), (11, [.inr (-6)], 0, 0), (9, [.inr (-6)], 0, 0), (1, [.inr 285, .inl 5], 0, 0), (8, [.inl 6, .inr 1], 0, 0), (3, [.inr 285, .inl 5, .inl 7], 0, 0), (11, [.inr (-6)], 0, 0), (9, [.inr (-4)], 0, 0), (1, [.inr 285, .inl 5], 0, 0),
  (8, [.inl 6, .inr 1], 0, 0), (3, [.inr 285, .inl 5, .inl 7], 0, 0), (11, [.inr (-4)], 0, 0)]
theorem vr_person_k : x_chk 188 [] vr_person_T [] 600 = true := by decide +kernel
theorem vr_person {a0 a1 a2 v : Int} {h h' : fH} (hs : fS 188 [a0, a1, a2] h v h') (Q : Int → fH → Prop) (h0 : ∀ h1 : fH, h1 = fu h a0 16 0 → ∀ z3 : Int, z3 = xlcmp a1 0 → ((z3 < 0 → ∀ z4 : Int, z4 = wr (-(-2)) → ∀ z5 : Int, z5 = h1 285 z4 → ∀ z6 : Int, z6 = wr (z5 + 1) → ∀ h2 : fH, h2 = fu h1 285 z4 z6 → Q (-2) h2) ∧ (0 ≤ z3 → ∀ z4 : Int, z4 = xlcmp a1 5 → ((0 < z4 → ∀ z5 : Int, z5 = wr (-(-2)) → ∀ z6 : Int, z6 = h1 285 z5 → ∀ z7 : Int, z7 = wr (z6 + 1) → ∀ h2 : fH, h2 = fu h1 285 z5 z7 → Q (-2) h2) ∧ (z4 ≤ 0 → ((0 ≤ a2 → ((a2 ≤ 9 → ∀ z5 : Int, z5 = h1 a0 0 → ((z5 ≠ 7 → ∀ (v2 : Int) (h2 : fH), fS 162 [a0, a1, a2] h1 v2 h2 → ∀ h3 : fH, h3 = fu h2 a0 34 0 → ∀ z7 : Int, z7 = h3 a0 0 → ∀ z8 : Int, z8 = wr (z7 - 1) → Q z8 h3) ∧ (z5 = 7 → ∀ z6 : Int, z6 = wr (-(-6)) → ∀ z7 : Int, z7 = h1 285 z6 → ∀ z8 : Int, z8 = wr (z7 + 1) → ∀ h2 : fH, h2 = fu h1 285 z6 z8 → Q (-6) h2))) ∧ (9 < a2 → ∀ z5 : Int, z5 = wr (-(-6)) → ∀ z6 : Int, z6 = h1 285 z5 → ∀ z7 : Int, z7 = wr (z6 + 1) → ∀ h2 : fH, h2 = fu h1 285 z5 z7 → Q (-6) h2))) ∧ (a2 < 0 → ∀ z5 : Int, z5 = wr (-(-4)) → ∀ z6 : Int, z6 = h1 285 z5 → ∀ z7 : Int, z7 = wr (z6 + 1) → ∀ h2 : fH, h2 = fu h1 285 z5 z7 → Q (-4) h2))))))) : Q v h' := by
  exact x_mef vr_person_k hs (fun _ _ _ => False) Q h0 (fun i Ti hT => by cases hT)
def vr_wishes_T : xT := [(2, [.inl 0, .inr 0], 16, 0), (0, [.inl 0], 0, 0), (8, [.inl 3, .inr 1], 1, 0), (8, [.inl 1, .inr 0], 18, 0), (10, [.inl 5, .inr 0], 2, 5), (9, [.inr (-1)], 0, 0), (1, [.inr 285, .inl 6], 0, 0), (8, [.inl 7, .inr 1], 0, 0), (3, [.inr 285, .inl 6, .inl 8], 0, 0), (11, [.inr (-1)], 0, 0), (8, [.inl 1, .inl 4], 18, 0), (10, [.inl 6, .inr 0], 4, 5),
  (9, [.inr (-1)], 0, 0), (1, [.inr 285, .inl 7], 0, 0), (8, [.inl 8, .inr 1], 0, 0), (3, [.inr 285, .inl 7, .inl 9], 0, 0), (11, [.inr (-1)], 0, 0), (8, [.inl 2, .inr 0], 18, 0), (10, [.inl 7, .inr 0], 2, 5), (9, [.inr (-1)], 0, 0), (1, [.inr 285, .inl 8], 0, 0), (8, [.inl 9, .inr 1], 0, 0), (3, [.inr 285, .inl 8, .inl 10], 0, 0), (11, [.inr (-1)], 0, 0),
  (8, [.inl 2, .inr 6], 18, 0), (10, [.inl 8, .inr 0], 4, 5), (9, [.inr (-1)], 0, 0), (1, [.inr 285, .inl 9], 0, 0), (8, [.inl 10, .inr 1], 0, 0), (3, [.inr 285, .inl 9, .inl 11], 0, 0), (11, [.inr (-1)], 0, 0), (1, [.inr 274, .inl 1], 0, 0), (3, [.inr 274, .inl 1, .inl 2], 0, 0), (2, [.inl 0, .inr 0], 34, 0), (11, [.inl 9], 0, 0)]
theorem vr_wishes_k : x_chk 190 [] vr_wishes_T [] 600 = true := by decide +kernel
theorem vr_wishes {a0 a1 a2 v : Int} {h h' : fH} (hs : fS 190 [a0, a1, a2] h v h') (Q : Int → fH → Prop) (h0 : ∀ h1 : fH, h1 = fu h a0 16 0 → ∀ z3 : Int, z3 = h1 a0 0 → ∀ z4 : Int, z4 = wr (z3 - 1) → ∀ z5 : Int, z5 = xlcmp a1 0 → ((z5 < 0 → ∀ z6 : Int, z6 = wr (-(-1)) → ∀ z7 : Int, z7 = h1 285 z6 → ∀ z8 : Int, z8 = wr (z7 + 1) → ∀ h2 : fH, h2 = fu h1 285 z6 z8 → Q (-1) h2) ∧ (0 ≤ z5 → ∀ z6 : Int, z6 = xlcmp a1 z4 → ((0 < z6 → ∀ z7 : Int, z7 = wr (-(-1)) → ∀ z8 : Int, z8 = h1 285 z7 → ∀ z9 : Int, z9 = wr (z8 + 1) → ∀ h2 : fH, h2 = fu h1 285 z7 z9 → Q (-1) h2) ∧ (z6 ≤ 0 → ∀ z7 : Int, z7 = xlcmp a2 0 → ((z7 < 0 → ∀ z8 : Int, z8 = wr (-(-1)) → ∀ z9 : Int, z9 = h1 285 z8 → ∀ z10 : Int, z10 = wr (z9 + 1) → ∀ h2 : fH, h2 = fu h1 285 z8 z10 → Q (-1) h2) ∧ (0 ≤ z7 → ∀ z8 : Int, z8 = xlcmp a2 6 → ((0 < z8 → ∀ z9 : Int, z9 = wr (-(-1)) → ∀ z10 : Int, z10 = h1 285 z9 → ∀ z11 : Int, z11 = wr (z10 + 1) → ∀ h2 : fH, h2 = fu h1 285 z9 z11 → Q (-1) h2) ∧ (z8 ≤ 0 → ∀ z9 : Int, z9 = h1 274 a1 → ∀ h2 : fH, h2 = fu h1 274 a1 a2 → ∀ h3 : fH, h3 = fu h2 a0 34 0 → Q z9 h3))))))))) : Q v h' := by
  exact x_mef vr_wishes_k hs (fun _ _ _ => False) Q h0 (fun i Ti hT => by cases hT)
def vr_believes_T : xT := [(2, [.inl 0, .inr 0], 16, 0), (0, [.inl 0], 0, 0), (8, [.inl 4, .inr 1], 1, 0), (8, [.inl 1, .inr 0], 18, 0), (10, [.inl 6, .inr 0], 2, 5), (9, [.inr (-1)], 0, 0), (1, [.inr 285, .inl 7], 0, 0), (8, [.inl 8, .inr 1], 0, 0), (3, [.inr 285, .inl 7, .inl 9], 0, 0), (11, [.inr (-1)], 0, 0), (8, [.inl 1, .inl 5], 18, 0), (10, [.inl 7, .inr 0], 4, 5),
  (9, [.inr (-1)], 0, 0), (1, [.inr 285, .inl 8], 0, 0), (8, [.inl 9, .inr 1], 0, 0), (3, [.inr 285, .inl 8, .inl 10], 0, 0), (11, [.inr (-1)], 0, 0), (8, [.inl 2, .inr 0], 18, 0), (10, [.inl 8, .inr 0], 2, 5), (9, [.inr (-1)], 0, 0), (1, [.inr 285, .inl 9], 0, 0), (8, [.inl 10, .inr 1], 0, 0), (3, [.inr 285, .inl 9, .inl 11], 0, 0), (11, [.inr (-1)], 0, 0),
  (8, [.inl 2, .inr 4], 18, 0), (10, [.inl 9, .inr 0], 4, 5), (9, [.inr (-1)], 0, 0), (1, [.inr 285, .inl 10], 0, 0), (8, [.inl 11, .inr 1], 0, 0), (3, [.inr 285, .inl 10, .inl 12], 0, 0), (11, [.inr (-1)], 0, 0), (10, [.inl 3, .inr 0], 3, 14), (10, [.inl 3, .inr 9], 5, 8), (13, [.inl 0], 192, 0), (8, [.inr 5, .inl 1], 2, 0), (8, [.inl 11, .inl 2], 0, 0),
  (1, [.inr 277, .inl 12], 0, 0), (8, [.inr 5, .inl 1], 2, 0), (8, [.inl 14, .inl 2], 0, 0), (3, [.inr 277, .inl 15, .inl 3], 0, 0), (11, [.inl 13], 0, 0), (9, [.inr (-6)], 0, 0), (1, [.inr 285, .inl 10], 0, 0), (8, [.inl 11, .inr 1], 0, 0), (3, [.inr 285, .inl 10, .inl 12], 0, 0), (11, [.inr (-6)], 0, 0), (9, [.inr (-4)], 0, 0), (1, [.inr 285, .inl 10], 0, 0),
  (8, [.inl 11, .inr 1], 0, 0), (3, [.inr 285, .inl 10, .inl 12], 0, 0), (11, [.inr (-4)], 0, 0)]
theorem vr_believes_k : x_chk 191 [] vr_believes_T [] 600 = true := by decide +kernel
theorem vr_believes {a0 a1 a2 a3 v : Int} {h h' : fH} (hs : fS 191 [a0, a1, a2, a3] h v h') (Q : Int → fH → Prop) (h0 : ∀ h1 : fH, h1 = fu h a0 16 0 → ∀ z4 : Int, z4 = h1 a0 0 → ∀ z5 : Int, z5 = wr (z4 - 1) → ∀ z6 : Int, z6 = xlcmp a1 0 → ((z6 < 0 → ∀ z7 : Int, z7 = wr (-(-1)) → ∀ z8 : Int, z8 = h1 285 z7 → ∀ z9 : Int, z9 = wr (z8 + 1) → ∀ h2 : fH, h2 = fu h1 285 z7 z9 → Q (-1) h2) ∧ (0 ≤ z6 → ∀ z7 : Int, z7 = xlcmp a1 z5 → ((0 < z7 → ∀ z8 : Int, z8 = wr (-(-1)) → ∀ z9 : Int, z9 = h1 285 z8 → ∀ z10 : Int, z10 = wr (z9 + 1) → ∀ h2 : fH, h2 = fu h1 285 z8 z10 → Q (-1) h2) ∧ (z7 ≤ 0 → ∀ z8 : Int, z8 = xlcmp a2 0 → ((z8 < 0 → ∀ z9 : Int, z9 = wr (-(-1)) → ∀ z10 : Int, z10 = h1 285 z9 → ∀ z11 : Int, z11 = wr (z10 + 1) → ∀ h2 : fH, h2 = fu h1 285 z9 z11 → Q (-1) h2) ∧ (0 ≤ z8 → ∀ z9 : Int, z9 = xlcmp a2 4 → ((0 < z9 → ∀ z10 : Int, z10 = wr (-(-1)) → ∀ z11 : Int, z11 = h1 285 z10 → ∀ z12 : Int, z12 = wr (z11 + 1) → ∀ h2 : fH, h2 = fu h1 285 z10 z12 → Q (-1) h2) ∧ (z9 ≤ 0 → ((0 ≤ a3 → ((a3 ≤ 9 → ∀ (v2 : Int) (h2 : fH), fS 192 [a0] h1 v2 h2 → ∀ z11 : Int, z11 = wr (5 * a1) → ∀ z12 : Int, z12 = wr (z11 + a2) → ∀ z13 : Int, z13 = h2 277 z12 → ∀ z14 : Int, z14 = wr (5 * a1) → ∀ z15 : Int, z15 = wr (z14 + a2) → ∀ h3 : fH, h3 = fu h2 277 z15 a3 → Q z13 h3) ∧ (9 < a3 → ∀ z10 : Int, z10 = wr (-(-6)) → ∀ z11 : Int, z11 = h1 285 z10 → ∀ z12 : Int, z12 = wr (z11 + 1) → ∀ h2 : fH, h2 = fu h1 285 z10 z12 → Q (-6) h2))) ∧ (a3 < 0 → ∀ z10 : Int, z10 = wr (-(-4)) → ∀ z11 : Int, z11 = h1 285 z10 → ∀ z12 : Int, z12 = wr (z11 + 1) → ∀ h2 : fH, h2 = fu h1 285 z10 z12 → Q (-4) h2))))))))))) : Q v h' := by
  exact x_mef vr_believes_k hs (fun _ _ _ => False) Q h0 (fun i Ti hT => by cases hT)
def vr_keepTurn_T : xT := [(0, [.inl 0], 34, 0), (10, [.inl 1, .inr 8], 1, 2), (13, [.inl 0, .inr 293, .inr 1], 159, 0), (12, [.inl 0, .inr 0], 1, 0), (12, [.inl 0, .inr 113], 0, 0)]
def vr_keepTurn_T0 : xT := [(10, [.inl 1, .inr 904], 3, 5), (0, [.inl 0], 34, 0), (8, [.inl 2, .inr 1], 1, 0), (2, [.inl 0, .inl 3], 34, 0), (13, [.inl 0, .inr 293, .inr 1], 159, 0), (12, [.inl 0, .inr 0], 1, 0), (8, [.inl 1, .inr 113], 1, 0), (1, [.inr 292, .inl 1], 0, 0), (3, [.inr 292, .inl 2, .inl 3], 0, 0), (8, [.inl 1, .inr 1], 0, 0), (12, [.inl 0, .inl 4], 0, 0)]
def vr_keepTurn_T1 : xT := [(10, [.inl 1, .inr 113], 3, 4), (0, [.inl 0], 34, 0), (8, [.inl 2, .inr 1], 0, 0), (2, [.inl 0, .inl 3], 34, 0), (11, [.inr 0], 0, 0), (0, [.inl 0], 34, 0), (8, [.inr 113, .inl 2], 2, 0), (8, [.inl 3, .inl 1], 0, 0), (1, [.inr 293, .inl 1], 0, 0), (3, [.inr 292, .inl 4, .inl 5], 0, 0), (8, [.inl 1, .inr 1], 0, 0), (12, [.inl 0, .inl 6], 1, 0)]
theorem vr_keepTurn_k : x_chk 192 [(12, [(0, 0), (1, 0)]), (61, [(0, 0), (1, 0)])] vr_keepTurn_T [vr_keepTurn_T0, vr_keepTurn_T1] 600 = true := by decide +kernel
theorem vr_keepTurn {a0 v : Int} {h h' : fH} (hs : fS 192 [a0] h v h') (I0 : Int → Int → fH → Prop) (I1 : Int → Int → fH → Prop) (Q : Int → fH → Prop) (h0 : ∀ z1 : Int, z1 = h a0 34 → ((z1 ≠ 8 → ∀ (v1 : Int) (h1 : fH), fS 159 [a0, 293, 1] h v1 h1 → I1 a0 0 h1) ∧ (z1 = 8 → I0 a0 113 h))) (k0 : ∀ (x0 x1 : Int) (h : fH), I0 x0 x1 h → ((904 ≤ x1 → ∀ z2 : Int, z2 = h x0 34 → ∀ z3 : Int, z3 = wr (z2 - 1) → ∀ h1 : fH, h1 = fu h x0 34 z3 → ∀ (v2 : Int) (h2 : fH), fS 159 [x0, 293, 1] h1 v2 h2 → I1 x0 0 h2) ∧ (x1 < 904 → ∀ z2 : Int, z2 = wr (x1 - 113) → ∀ z3 : Int, z3 = h 292 x1 → ∀ h1 : fH, h1 = fu h 292 z2 z3 → ∀ z4 : Int, z4 = wr (x1 + 1) → I0 x0 z4 h1))) (k1 : ∀ (x0 x1 : Int) (h : fH), I1 x0 x1 h → ((113 ≤ x1 → ∀ z2 : Int, z2 = h x0 34 → ∀ z3 : Int, z3 = wr (z2 + 1) → ∀ h1 : fH, h1 = fu h x0 34 z3 → Q 0 h1) ∧ (x1 < 113 → ∀ z2 : Int, z2 = h x0 34 → ∀ z3 : Int, z3 = wr (113 * z2) → ∀ z4 : Int, z4 = wr (z3 + x1) → ∀ z5 : Int, z5 = h 293 x1 → ∀ h1 : fH, h1 = fu h 292 z4 z5 → ∀ z6 : Int, z6 = wr (x1 + 1) → I1 x0 z6 h1))) : Q v h' := by
  refine x_mef vr_keepTurn_k hs (fun k l h => match k with
    | 0 => (match l with | [x0, x1] => I0 x0 x1 h | _ => False)
    | 1 => (match l with | [x0, x1] => I1 x0 x1 h | _ => False)
    | _ => False) Q h0 ?_
  intro i Ti hT vals h hi
  match i, hT, hi with
  | 0, hT, hi =>
    cases hT
    match vals, hi with
    | [x0, x1], hi => exact k0 _ _ _ hi
    | [], hi => exact False.elim hi
    | [_], hi => exact False.elim hi
    | _ :: _ :: _ :: _, hi => exact False.elim hi
  | 1, hT, hi =>
    cases hT
    match vals, hi with
    | [x0, x1], hi => exact k1 _ _ _ hi
    | [], hi => exact False.elim hi
    | [_], hi => exact False.elim hi
    | _ :: _ :: _ :: _, hi => exact False.elim hi
  | _ + 2, hT, _ => cases hT
def vr_fixes_T : xT := [(2, [.inl 0, .inr 0], 16, 0), (8, [.inl 1, .inr 0], 18, 0), (10, [.inl 4, .inr 0], 2, 5), (9, [.inr (-1)], 0, 0), (1, [.inr 285, .inl 5], 0, 0), (8, [.inl 6, .inr 1], 0, 0), (3, [.inr 285, .inl 5, .inl 7], 0, 0), (11, [.inr (-1)], 0, 0), (8, [.inl 1, .inr 4], 18, 0), (10, [.inl 5, .inr 0], 4, 5), (9, [.inr (-1)], 0, 0), (1, [.inr 285, .inl 6], 0, 0),
  (8, [.inl 7, .inr 1], 0, 0), (3, [.inr 285, .inl 6, .inl 8], 0, 0), (11, [.inr (-1)], 0, 0), (10, [.inl 2, .inr 1], 2, 5), (9, [.inr (-4)], 0, 0), (1, [.inr 285, .inl 6], 0, 0), (8, [.inl 7, .inr 1], 0, 0), (3, [.inr 285, .inl 6, .inl 8], 0, 0), (11, [.inr (-4)], 0, 0), (10, [.inl 3, .inr 0], 3, 20), (10, [.inl 2, .inr 9], 4, 5), (9, [.inr (-6)], 0, 0),
  (1, [.inr 285, .inl 6], 0, 0), (8, [.inl 7, .inr 1], 0, 0), (3, [.inr 285, .inl 6, .inl 8], 0, 0), (11, [.inr (-6)], 0, 0), (10, [.inl 3, .inr 8], 5, 8), (13, [.inl 0], 192, 0), (1, [.inr 278, .inl 1], 0, 0), (8, [.inr 10, .inl 7], 2, 0), (1, [.inr 279, .inl 1], 0, 0), (8, [.inl 8, .inl 9], 0, 0), (3, [.inr 278, .inl 1, .inl 2], 0, 0), (3, [.inr 279, .inl 1, .inl 3], 0, 0),
  (11, [.inl 10], 0, 0), (9, [.inr (-6)], 0, 0), (1, [.inr 285, .inl 6], 0, 0), (8, [.inl 7, .inr 1], 0, 0), (3, [.inr 285, .inl 6, .inl 8], 0, 0), (11, [.inr (-6)], 0, 0), (9, [.inr (-4)], 0, 0), (1, [.inr 285, .inl 6], 0, 0), (8, [.inl 7, .inr 1], 0, 0), (3, [.inr 285, .inl 6, .inl 8], 0, 0), (11, [.inr (-4)], 0, 0)]
theorem vr_fixes_k : x_chk 193 [] vr_fixes_T [] 600 = true := by decide +kernel
theorem vr_fixes {a0 a1 a2 a3 v : Int} {h h' : fH} (hs : fS 193 [a0, a1, a2, a3] h v h') (Q : Int → fH → Prop) (h0 : ∀ h1 : fH, h1 = fu h a0 16 0 → ∀ z4 : Int, z4 = xlcmp a1 0 → ((z4 < 0 → ∀ z5 : Int, z5 = wr (-(-1)) → ∀ z6 : Int, z6 = h1 285 z5 → ∀ z7 : Int, z7 = wr (z6 + 1) → ∀ h2 : fH, h2 = fu h1 285 z5 z7 → Q (-1) h2) ∧ (0 ≤ z4 → ∀ z5 : Int, z5 = xlcmp a1 4 → ((0 < z5 → ∀ z6 : Int, z6 = wr (-(-1)) → ∀ z7 : Int, z7 = h1 285 z6 → ∀ z8 : Int, z8 = wr (z7 + 1) → ∀ h2 : fH, h2 = fu h1 285 z6 z8 → Q (-1) h2) ∧ (z5 ≤ 0 → ((a2 < 1 → ∀ z6 : Int, z6 = wr (-(-4)) → ∀ z7 : Int, z7 = h1 285 z6 → ∀ z8 : Int, z8 = wr (z7 + 1) → ∀ h2 : fH, h2 = fu h1 285 z6 z8 → Q (-4) h2) ∧ (1 ≤ a2 → ((0 ≤ a3 → ((9 < a2 → ∀ z6 : Int, z6 = wr (-(-6)) → ∀ z7 : Int, z7 = h1 285 z6 → ∀ z8 : Int, z8 = wr (z7 + 1) → ∀ h2 : fH, h2 = fu h1 285 z6 z8 → Q (-6) h2) ∧ (a2 ≤ 9 → ((a3 ≤ 8 → ∀ (v2 : Int) (h2 : fH), fS 192 [a0] h1 v2 h2 → ∀ z7 : Int, z7 = h2 278 a1 → ∀ z8 : Int, z8 = wr (10 * z7) → ∀ z9 : Int, z9 = h2 279 a1 → ∀ z10 : Int, z10 = wr (z8 + z9) → ∀ h3 : fH, h3 = fu h2 278 a1 a2 → ∀ h4 : fH, h4 = fu h3 279 a1 a3 → Q z10 h4) ∧ (8 < a3 → ∀ z6 : Int, z6 = wr (-(-6)) → ∀ z7 : Int, z7 = h1 285 z6 → ∀ z8 : Int, z8 = wr (z7 + 1) → ∀ h2 : fH, h2 = fu h1 285 z6 z8 → Q (-6) h2))))) ∧ (a3 < 0 → ∀ z6 : Int, z6 = wr (-(-4)) → ∀ z7 : Int, z7 = h1 285 z6 → ∀ z8 : Int, z8 = wr (z7 + 1) → ∀ h2 : fH, h2 = fu h1 285 z6 z8 → Q (-4) h2))))))))) : Q v h' := by
  exact x_mef vr_fixes_k hs (fun _ _ _ => False) Q h0 (fun i Ti hT => by cases hT)
def vr_proposes_T : xT := [(2, [.inl 0, .inr 0], 16, 0), (0, [.inl 0], 0, 0), (8, [.inl 6, .inr 1], 1, 0), (8, [.inl 1, .inr 0], 18, 0), (10, [.inl 8, .inr 0], 2, 5), (9, [.inr (-1)], 0, 0), (1, [.inr 285, .inl 9], 0, 0), (8, [.inl 10, .inr 1], 0, 0), (3, [.inr 285, .inl 9, .inl 11], 0, 0), (11, [.inr (-1)], 0, 0), (8, [.inl 1, .inl 7], 18, 0), (10, [.inl 9, .inr 0], 4, 5),
  (9, [.inr (-1)], 0, 0), (1, [.inr 285, .inl 10], 0, 0), (8, [.inl 11, .inr 1], 0, 0), (3, [.inr 285, .inl 10, .inl 12], 0, 0), (11, [.inr (-1)], 0, 0), (0, [.inl 0], 0, 0), (8, [.inl 10, .inr 1], 1, 0), (8, [.inl 2, .inr 0], 18, 0), (10, [.inl 12, .inr 0], 2, 5), (9, [.inr (-1)], 0, 0), (1, [.inr 285, .inl 13], 0, 0), (8, [.inl 14, .inr 1], 0, 0),
  (3, [.inr 285, .inl 13, .inl 15], 0, 0), (11, [.inr (-1)], 0, 0), (8, [.inl 2, .inl 11], 18, 0), (10, [.inl 13, .inr 0], 4, 5), (9, [.inr (-1)], 0, 0), (1, [.inr 285, .inl 14], 0, 0), (8, [.inl 15, .inr 1], 0, 0), (3, [.inr 285, .inl 14, .inl 16], 0, 0), (11, [.inr (-1)], 0, 0), (10, [.inl 1, .inl 2], 0, 5), (9, [.inr (-1)], 0, 0), (1, [.inr 285, .inl 14], 0, 0),
  (8, [.inl 15, .inr 1], 0, 0), (3, [.inr 285, .inl 14, .inl 16], 0, 0), (11, [.inr (-1)], 0, 0), (8, [.inl 3, .inr 0], 18, 0), (10, [.inl 14, .inr 0], 2, 5), (9, [.inr (-1)], 0, 0), (1, [.inr 285, .inl 15], 0, 0), (8, [.inl 16, .inr 1], 0, 0), (3, [.inr 285, .inl 15, .inl 17], 0, 0), (11, [.inr (-1)], 0, 0), (8, [.inl 3, .inr 4], 18, 0), (10, [.inl 15, .inr 0], 4, 5),
  (9, [.inr (-1)], 0, 0), (1, [.inr 285, .inl 16], 0, 0), (8, [.inl 17, .inr 1], 0, 0), (3, [.inr 285, .inl 16, .inl 18], 0, 0), (11, [.inr (-1)], 0, 0), (8, [.inl 4, .inr 0], 18, 0), (10, [.inl 16, .inr 0], 2, 5), (9, [.inr (-2)], 0, 0), (1, [.inr 285, .inl 17], 0, 0), (8, [.inl 18, .inr 1], 0, 0), (3, [.inr 285, .inl 17, .inl 19], 0, 0), (11, [.inr (-2)], 0, 0),
  (8, [.inl 4, .inr 1], 18, 0), (10, [.inl 17, .inr 0], 4, 5), (9, [.inr (-2)], 0, 0), (1, [.inr 285, .inl 18], 0, 0), (8, [.inl 19, .inr 1], 0, 0), (3, [.inr 285, .inl 18, .inl 20], 0, 0), (11, [.inr (-2)], 0, 0), (10, [.inl 5, .inr 1], 3, 36), (10, [.inl 5, .inr 9], 5, 30), (13, [.inl 0, .inl 1, .inl 2, .inl 3, .inl 4], 166, 0), (10, [.inl 18, .inr 0], 1, 23), (0, [.inl 0], 9, 0),
  (10, [.inl 19, .inr 6], 1, 16), (13, [.inl 0], 192, 0), (0, [.inl 0], 9, 0), (3, [.inr 280, .inl 21, .inl 1], 0, 0), (0, [.inl 0], 9, 0), (3, [.inr 281, .inl 22, .inl 2], 0, 0), (0, [.inl 0], 9, 0), (3, [.inr 282, .inl 23, .inl 3], 0, 0), (0, [.inl 0], 9, 0), (3, [.inr 283, .inl 24, .inl 4], 0, 0), (0, [.inl 0], 9, 0), (3, [.inr 284, .inl 25, .inl 5], 0, 0),
  (0, [.inl 0], 9, 0), (8, [.inl 26, .inr 1], 0, 0), (2, [.inl 0, .inl 27], 9, 0), (0, [.inl 0], 9, 0), (11, [.inl 28], 0, 0), (9, [.inr (-6)], 0, 0), (1, [.inr 285, .inl 20], 0, 0), (8, [.inl 21, .inr 1], 0, 0), (3, [.inr 285, .inl 20, .inl 22], 0, 0), (11, [.inr (-6)], 0, 0), (9, [.inr (-3)], 0, 0), (1, [.inr 285, .inl 19], 0, 0),
  (8, [.inl 20, .inr 1], 0, 0), (3, [.inr 285, .inl 19, .inl 21], 0, 0), (11, [.inr (-3)], 0, 0), (9, [.inr (-6)], 0, 0), (1, [.inr 285, .inl 18], 0, 0), (8, [.inl 19, .inr 1], 0, 0), (3, [.inr 285, .inl 18, .inl 20], 0, 0), (11, [.inr (-6)], 0, 0), (9, [.inr (-4)], 0, 0), (1, [.inr 285, .inl 18], 0, 0), (8, [.inl 19, .inr 1], 0, 0), (3, [.inr 285, .inl 18, .inl 20], 0, 0),
  (11, [.inr (-4)], 0, 0)]
theorem vr_proposes_k : x_chk 194 [] vr_proposes_T [] 600 = true := by decide +kernel
theorem vr_proposes {a0 a1 a2 a3 a4 a5 v : Int} {h h' : fH} (hs : fS 194 [a0, a1, a2, a3, a4, a5] h v h') (Q : Int → fH → Prop) (h0 : ∀ h1 : fH, h1 = fu h a0 16 0 → ∀ z6 : Int, z6 = h1 a0 0 → ∀ z7 : Int, z7 = wr (z6 - 1) → ∀ z8 : Int, z8 = xlcmp a1 0 → ((z8 < 0 → ∀ z9 : Int, z9 = wr (-(-1)) → ∀ z10 : Int, z10 = h1 285 z9 → ∀ z11 : Int, z11 = wr (z10 + 1) → ∀ h2 : fH, h2 = fu h1 285 z9 z11 → Q (-1) h2) ∧ (0 ≤ z8 → ∀ z9 : Int, z9 = xlcmp a1 z7 → ((0 < z9 → ∀ z10 : Int, z10 = wr (-(-1)) → ∀ z11 : Int, z11 = h1 285 z10 → ∀ z12 : Int, z12 = wr (z11 + 1) → ∀ h2 : fH, h2 = fu h1 285 z10 z12 → Q (-1) h2) ∧ (z9 ≤ 0 → ∀ z10 : Int, z10 = h1 a0 0 → ∀ z11 : Int, z11 = wr (z10 - 1) → ∀ z12 : Int, z12 = xlcmp a2 0 → ((z12 < 0 → ∀ z13 : Int, z13 = wr (-(-1)) → ∀ z14 : Int, z14 = h1 285 z13 → ∀ z15 : Int, z15 = wr (z14 + 1) → ∀ h2 : fH, h2 = fu h1 285 z13 z15 → Q (-1) h2) ∧ (0 ≤ z12 → ∀ z13 : Int, z13 = xlcmp a2 z11 → ((0 < z13 → ∀ z14 : Int, z14 = wr (-(-1)) → ∀ z15 : Int, z15 = h1 285 z14 → ∀ z16 : Int, z16 = wr (z15 + 1) → ∀ h2 : fH, h2 = fu h1 285 z14 z16 → Q (-1) h2) ∧ (z13 ≤ 0 → ((a1 = a2 → ∀ z14 : Int, z14 = wr (-(-1)) → ∀ z15 : Int, z15 = h1 285 z14 → ∀ z16 : Int, z16 = wr (z15 + 1) → ∀ h2 : fH, h2 = fu h1 285 z14 z16 → Q (-1) h2) ∧ (a1 ≠ a2 → ∀ z14 : Int, z14 = xlcmp a3 0 → ((z14 < 0 → ∀ z15 : Int, z15 = wr (-(-1)) → ∀ z16 : Int, z16 = h1 285 z15 → ∀ z17 : Int, z17 = wr (z16 + 1) → ∀ h2 : fH, h2 = fu h1 285 z15 z17 → Q (-1) h2) ∧ (0 ≤ z14 → ∀ z15 : Int, z15 = xlcmp a3 4 → ((0 < z15 → ∀ z16 : Int, z16 = wr (-(-1)) → ∀ z17 : Int, z17 = h1 285 z16 → ∀ z18 : Int, z18 = wr (z17 + 1) → ∀ h2 : fH, h2 = fu h1 285 z16 z18 → Q (-1) h2) ∧ (z15 ≤ 0 → ∀ z16 : Int, z16 = xlcmp a4 0 → ((z16 < 0 → ∀ z17 : Int, z17 = wr (-(-2)) → ∀ z18 : Int, z18 = h1 285 z17 → ∀ z19 : Int, z19 = wr (z18 + 1) → ∀ h2 : fH, h2 = fu h1 285 z17 z19 → Q (-2) h2) ∧ (0 ≤ z16 → ∀ z17 : Int, z17 = xlcmp a4 1 → ((0 < z17 → ∀ z18 : Int, z18 = wr (-(-2)) → ∀ z19 : Int, z19 = h1 285 z18 → ∀ z20 : Int, z20 = wr (z19 + 1) → ∀ h2 : fH, h2 = fu h1 285 z18 z20 → Q (-2) h2) ∧ (z17 ≤ 0 → ((1 ≤ a5 → ((a5 ≤ 9 → ∀ (v2 : Int) (h2 : fH), fS 166 [a0, a1, a2, a3, a4] h1 v2 h2 → ((v2 ≠ 0 → ∀ z19 : Int, z19 = h2 a0 9 → ((z19 ≠ 6 → ∀ (v3 : Int) (h3 : fH), fS 192 [a0] h2 v3 h3 → ∀ z21 : Int, z21 = h3 a0 9 → ∀ h4 : fH, h4 = fu h3 280 z21 a1 → ∀ z22 : Int, z22 = h4 a0 9 → ∀ h5 : fH, h5 = fu h4 281 z22 a2 → ∀ z23 : Int, z23 = h5 a0 9 → ∀ h6 : fH, h6 = fu h5 282 z23 a3 → ∀ z24 : Int, z24 = h6 a0 9 → ∀ h7 : fH, h7 = fu h6 283 z24 a4 → ∀ z25 : Int, z25 = h7 a0 9 → ∀ h8 : fH, h8 = fu h7 284 z25 a5 → ∀ z26 : Int, z26 = h8 a0 9 → ∀ z27 : Int, z27 = wr (z26 + 1) → ∀ h9 : fH, h9 = fu h8 a0 9 z27 → ∀ z28 : Int, z28 = h9 a0 9 → Q z28 h9) ∧ (z19 = 6 → ∀ z20 : Int, z20 = wr (-(-6)) → ∀ z21 : Int, z21 = h2 285 z20 → ∀ z22 : Int, z22 = wr (z21 + 1) → ∀ h3 : fH, h3 = fu h2 285 z20 z22 → Q (-6) h3))) ∧ (v2 = 0 → ∀ z19 : Int, z19 = wr (-(-3)) → ∀ z20 : Int, z20 = h2 285 z19 → ∀ z21 : Int, z21 = wr (z20 + 1) → ∀ h3 : fH, h3 = fu h2 285 z19 z21 → Q (-3) h3))) ∧ (9 < a5 → ∀ z18 : Int, z18 = wr (-(-6)) → ∀ z19 : Int, z19 = h1 285 z18 → ∀ z20 : Int, z20 = wr (z19 + 1) → ∀ h2 : fH, h2 = fu h1 285 z18 z20 → Q (-6) h2))) ∧ (a5 < 1 → ∀ z18 : Int, z18 = wr (-(-4)) → ∀ z19 : Int, z19 = h1 285 z18 → ∀ z20 : Int, z20 = wr (z19 + 1) → ∀ h2 : fH, h2 = fu h1 285 z18 z20 → Q (-4) h2))))))))))))))))))))) : Q v h' := by
  exact x_mef vr_proposes_k hs (fun _ _ _ => False) Q h0 (fun i Ti hT => by cases hT)
end
section
/-! the trees of the methods (made by a program) -/
def vr_days_T : xT := [(2, [.inl 0, .inr 0], 16, 0), (10, [.inl 1, .inr 1], 3, 19), (10, [.inl 1, .inr 60], 5, 13), (0, [.inl 0], 15, 0), (8, [.inl 2, .inl 1], 0, 0), (10, [.inl 3, .inr 999], 5, 5), (13, [.inl 0], 192, 0), (13, [.inl 0, .inl 1], 172, 0), (13, [.inl 0], 198, 0), (13, [.inl 6], 199, 0), (11, [.inl 7], 0, 0), (9, [.inr (-6)], 0, 0),
  (1, [.inr 285, .inl 4], 0, 0), (8, [.inl 5, .inr 1], 0, 0), (3, [.inr 285, .inl 4, .inl 6], 0, 0), (11, [.inr (-6)], 0, 0), (9, [.inr (-6)], 0, 0), (1, [.inr 285, .inl 2], 0, 0), (8, [.inl 3, .inr 1], 0, 0), (3, [.inr 285, .inl 2, .inl 4], 0, 0), (11, [.inr (-6)], 0, 0), (9, [.inr (-4)], 0, 0), (1, [.inr 285, .inl 2], 0, 0), (8, [.inl 3, .inr 1], 0, 0),
  (3, [.inr 285, .inl 2, .inl 4], 0, 0), (11, [.inr (-4)], 0, 0)]
theorem vr_days_k : x_chk 197 [] vr_days_T [] 600 = true := by decide +kernel
theorem vr_days {a0 a1 v : Int} {h h' : fH} (hs : fS 197 [a0, a1] h v h') (Q : Int → fH → Prop) (h0 : ∀ h1 : fH, h1 = fu h a0 16 0 → ((1 ≤ a1 → ((a1 ≤ 60 → ∀ z2 : Int, z2 = h1 a0 15 → ∀ z3 : Int, z3 = wr (z2 + a1) → ((z3 ≤ 999 → ∀ (v2 : Int) (h2 : fH), fS 192 [a0] h1 v2 h2 → ∀ (v3 : Int) (h3 : fH), fS 172 [a0, a1] h2 v3 h3 → ∀ (v4 : Int) (h4 : fH), fS 198 [a0] h3 v4 h4 → ∀ (v5 : Int) (h5 : fH), fS 199 [v4] h4 v5 h5 → Q v5 h5) ∧ (999 < z3 → ∀ z4 : Int, z4 = wr (-(-6)) → ∀ z5 : Int, z5 = h1 285 z4 → ∀ z6 : Int, z6 = wr (z5 + 1) → ∀ h2 : fH, h2 = fu h1 285 z4 z6 → Q (-6) h2))) ∧ (60 < a1 → ∀ z2 : Int, z2 = wr (-(-6)) → ∀ z3 : Int, z3 = h1 285 z2 → ∀ z4 : Int, z4 = wr (z3 + 1) → ∀ h2 : fH, h2 = fu h1 285 z2 z4 → Q (-6) h2))) ∧ (a1 < 1 → ∀ z2 : Int, z2 = wr (-(-4)) → ∀ z3 : Int, z3 = h1 285 z2 → ∀ z4 : Int, z4 = wr (z3 + 1) → ∀ h2 : fH, h2 = fu h1 285 z2 z4 → Q (-4) h2))) : Q v h' := by
  exact x_mef vr_days_k hs (fun _ _ _ => False) Q h0 (fun i Ti hT => by cases hT)
def vr_wedBits_T : xT := [(12, [.inl 0, .inr 0, .inr 0], 0, 0)]
def vr_wedBits_T0 : xT := [(0, [.inl 0], 0, 0), (10, [.inl 2, .inl 3], 3, 1), (11, [.inl 1], 0, 0), (1, [.inr 276, .inl 2], 0, 0), (10, [.inl 4, .inr 0], 5, 3), (8, [.inl 1, .inr 0], 4, 0), (8, [.inl 2, .inr 1], 0, 0), (12, [.inl 0, .inl 5, .inl 6], 0, 0), (8, [.inr 1, .inl 2], 6, 0), (8, [.inl 1, .inl 5], 4, 0), (8, [.inl 2, .inr 1], 0, 0), (12, [.inl 0, .inl 6, .inl 7], 0, 0)]
theorem vr_wedBits_k : x_chk 198 [(4, [(0, 0), (1, 0), (2, 0)])] vr_wedBits_T [vr_wedBits_T0] 600 = true := by decide +kernel
theorem vr_wedBits {a0 v : Int} {h h' : fH} (hs : fS 198 [a0] h v h') (I0 : Int → Int → Int → fH → Prop) (Q : Int → fH → Prop) (h0 : I0 a0 0 0 h) (k0 : ∀ (x0 x1 x2 : Int) (h : fH), I0 x0 x1 x2 h → ∀ z3 : Int, z3 = h x0 0 → ((z3 ≤ x2 → Q x1 h) ∧ (x2 < z3 → ∀ z4 : Int, z4 = h 276 x2 → ((z4 ≤ 0 → ∀ z5 : Int, z5 = xor' x1 0 → ∀ z6 : Int, z6 = wr (x2 + 1) → I0 x0 z5 z6 h) ∧ (0 < z4 → ∀ z5 : Int, z5 = xshl 1 x2 → ∀ z6 : Int, z6 = xor' x1 z5 → ∀ z7 : Int, z7 = wr (x2 + 1) → I0 x0 z6 z7 h))))) : Q v h' := by
  refine x_mef vr_wedBits_k hs (fun k l h => match k with
    | 0 => (match l with | [x0, x1, x2] => I0 x0 x1 x2 h | _ => False)
    | _ => False) Q h0 ?_
  intro i Ti hT vals h hi
  match i, hT, hi with
  | 0, hT, hi =>
    cases hT
    match vals, hi with
    | [x0, x1, x2], hi => exact k0 _ _ _ _ hi
    | [], hi => exact False.elim hi
    | [_], hi => exact False.elim hi
    | [_, _], hi => exact False.elim hi
    | _ :: _ :: _ :: _ :: _, hi => exact False.elim hi
  | _ + 1, hT, _ => cases hT
def vr_onesOf_T : xT := [(12, [.inr 0, .inl 0], 0, 0)]
def vr_onesOf_T0 : xT := [(10, [.inl 1, .inr 0], 0, 1), (11, [.inl 0], 0, 0), (8, [.inl 0, .inr 1], 0, 0), (8, [.inl 1, .inr 1], 1, 0), (8, [.inl 1, .inl 3], 3, 0), (12, [.inl 2, .inl 4], 0, 0)]
theorem vr_onesOf_k : x_chk 199 [(4, [(1, 0), (2, 0)])] vr_onesOf_T [vr_onesOf_T0] 600 = true := by decide +kernel
theorem vr_onesOf {a0 v : Int} {h h' : fH} (hs : fS 199 [a0] h v h') (I0 : Int → Int → fH → Prop) (Q : Int → fH → Prop) (h0 : I0 0 a0 h) (k0 : ∀ (x1 x2 : Int) (h : fH), I0 x1 x2 h → ((x2 = 0 → Q x1 h) ∧ (x2 ≠ 0 → ∀ z2 : Int, z2 = wr (x1 + 1) → ∀ z3 : Int, z3 = wr (x2 - 1) → ∀ z4 : Int, z4 = xand x2 z3 → I0 z2 z4 h))) : Q v h' := by
  refine x_mef vr_onesOf_k hs (fun k l h => match k with
    | 0 => (match l with | [x1, x2] => I0 x1 x2 h | _ => False)
    | _ => False) Q h0 ?_
  intro i Ti hT vals h hi
  match i, hT, hi with
  | 0, hT, hi =>
    cases hT
    match vals, hi with
    | [x1, x2], hi => exact k0 _ _ _ hi
    | [], hi => exact False.elim hi
    | [_], hi => exact False.elim hi
    | _ :: _ :: _ :: _, hi => exact False.elim hi
  | _ + 1, hT, _ => cases hT
def vr_personIn_T : xT := [(2, [.inl 0, .inr 0], 16, 0), (0, [.inl 0], 0, 0), (8, [.inl 4, .inr 1], 1, 0), (8, [.inl 1, .inr 0], 18, 0), (10, [.inl 6, .inr 0], 2, 5), (9, [.inr (-1)], 0, 0), (1, [.inr 285, .inl 7], 0, 0), (8, [.inl 8, .inr 1], 0, 0), (3, [.inr 285, .inl 7, .inl 9], 0, 0), (11, [.inr (-1)], 0, 0), (8, [.inl 1, .inl 5], 18, 0), (10, [.inl 7, .inr 0], 4, 5),
  (9, [.inr (-1)], 0, 0), (1, [.inr 285, .inl 8], 0, 0), (8, [.inl 9, .inr 1], 0, 0), (3, [.inr 285, .inl 8, .inl 10], 0, 0), (11, [.inr (-1)], 0, 0), (10, [.inl 2, .inr 0], 3, 34), (10, [.inl 2, .inr 60], 5, 28), (8, [.inl 3, .inr 0], 18, 0), (10, [.inl 8, .inr 0], 2, 5), (9, [.inr (-2)], 0, 0), (1, [.inr 285, .inl 9], 0, 0), (8, [.inl 10, .inr 1], 0, 0),
  (3, [.inr 285, .inl 9, .inl 11], 0, 0), (11, [.inr (-2)], 0, 0), (8, [.inl 3, .inr 1], 18, 0), (10, [.inl 9, .inr 0], 4, 5), (9, [.inr (-2)], 0, 0), (1, [.inr 285, .inl 10], 0, 0), (8, [.inl 11, .inr 1], 0, 0), (3, [.inr 285, .inl 10, .inl 12], 0, 0), (11, [.inr (-2)], 0, 0), (13, [.inl 0, .inr 290, .inr 1], 159, 0), (13, [.inl 0, .inl 2], 172, 0), (10, [.inl 3, .inr 1], 1, 8),
  (1, [.inr 276, .inl 1], 0, 0), (10, [.inl 12, .inr 0], 1, 4), (1, [.inr 276, .inl 1], 0, 0), (8, [.inl 13, .inr 1], 1, 0), (13, [.inl 0, .inr 290, .inr 0], 159, 0), (11, [.inl 14], 0, 0), (13, [.inl 0, .inr 290, .inr 0], 159, 0), (11, [.inr (-9)], 0, 0), (1, [.inr 275, .inl 1], 0, 0), (13, [.inl 0, .inr 290, .inr 0], 159, 0), (11, [.inl 12], 0, 0), (9, [.inr (-6)], 0, 0),
  (1, [.inr 285, .inl 8], 0, 0), (8, [.inl 9, .inr 1], 0, 0), (3, [.inr 285, .inl 8, .inl 10], 0, 0), (11, [.inr (-6)], 0, 0), (9, [.inr (-4)], 0, 0), (1, [.inr 285, .inl 8], 0, 0), (8, [.inl 9, .inr 1], 0, 0), (3, [.inr 285, .inl 8, .inl 10], 0, 0), (11, [.inr (-4)], 0, 0)]
theorem vr_personIn_k : x_chk 200 [] vr_personIn_T [] 600 = true := by decide +kernel
theorem vr_personIn {a0 a1 a2 a3 v : Int} {h h' : fH} (hs : fS 200 [a0, a1, a2, a3] h v h') (Q : Int → fH → Prop) (h0 : ∀ h1 : fH, h1 = fu h a0 16 0 → ∀ z4 : Int, z4 = h1 a0 0 → ∀ z5 : Int, z5 = wr (z4 - 1) → ∀ z6 : Int, z6 = xlcmp a1 0 → ((z6 < 0 → ∀ z7 : Int, z7 = wr (-(-1)) → ∀ z8 : Int, z8 = h1 285 z7 → ∀ z9 : Int, z9 = wr (z8 + 1) → ∀ h2 : fH, h2 = fu h1 285 z7 z9 → Q (-1) h2) ∧ (0 ≤ z6 → ∀ z7 : Int, z7 = xlcmp a1 z5 → ((0 < z7 → ∀ z8 : Int, z8 = wr (-(-1)) → ∀ z9 : Int, z9 = h1 285 z8 → ∀ z10 : Int, z10 = wr (z9 + 1) → ∀ h2 : fH, h2 = fu h1 285 z8 z10 → Q (-1) h2) ∧ (z7 ≤ 0 → ((0 ≤ a2 → ((a2 ≤ 60 → ∀ z8 : Int, z8 = xlcmp a3 0 → ((z8 < 0 → ∀ z9 : Int, z9 = wr (-(-2)) → ∀ z10 : Int, z10 = h1 285 z9 → ∀ z11 : Int, z11 = wr (z10 + 1) → ∀ h2 : fH, h2 = fu h1 285 z9 z11 → Q (-2) h2) ∧ (0 ≤ z8 → ∀ z9 : Int, z9 = xlcmp a3 1 → ((0 < z9 → ∀ z10 : Int, z10 = wr (-(-2)) → ∀ z11 : Int, z11 = h1 285 z10 → ∀ z12 : Int, z12 = wr (z11 + 1) → ∀ h2 : fH, h2 = fu h1 285 z10 z12 → Q (-2) h2) ∧ (z9 ≤ 0 → ∀ (v2 : Int) (h2 : fH), fS 159 [a0, 290, 1] h1 v2 h2 → ∀ (v3 : Int) (h3 : fH), fS 172 [a0, a2] h2 v3 h3 → ((a3 ≠ 1 → ∀ z12 : Int, z12 = h3 276 a1 → ((z12 ≠ 0 → ∀ z13 : Int, z13 = h3 276 a1 → ∀ z14 : Int, z14 = wr (z13 - 1) → ∀ (v4 : Int) (h4 : fH), fS 159 [a0, 290, 0] h3 v4 h4 → Q z14 h4) ∧ (z12 = 0 → ∀ (v4 : Int) (h4 : fH), fS 159 [a0, 290, 0] h3 v4 h4 → Q (-9) h4))) ∧ (a3 = 1 → ∀ z12 : Int, z12 = h3 275 a1 → ∀ (v4 : Int) (h4 : fH), fS 159 [a0, 290, 0] h3 v4 h4 → Q z12 h4))))))) ∧ (60 < a2 → ∀ z8 : Int, z8 = wr (-(-6)) → ∀ z9 : Int, z9 = h1 285 z8 → ∀ z10 : Int, z10 = wr (z9 + 1) → ∀ h2 : fH, h2 = fu h1 285 z8 z10 → Q (-6) h2))) ∧ (a2 < 0 → ∀ z8 : Int, z8 = wr (-(-4)) → ∀ z9 : Int, z9 = h1 285 z8 → ∀ z10 : Int, z10 = wr (z9 + 1) → ∀ h2 : fH, h2 = fu h1 285 z8 z10 → Q (-4) h2))))))) : Q v h' := by
  exact x_mef vr_personIn_k hs (fun _ _ _ => False) Q h0 (fun i Ti hT => by cases hT)
def vr_beliefIn_T : xT := [(2, [.inl 0, .inr 0], 16, 0), (0, [.inl 0], 0, 0), (8, [.inl 4, .inr 1], 1, 0), (8, [.inl 1, .inr 0], 18, 0), (10, [.inl 6, .inr 0], 2, 5), (9, [.inr (-1)], 0, 0), (1, [.inr 285, .inl 7], 0, 0), (8, [.inl 8, .inr 1], 0, 0), (3, [.inr 285, .inl 7, .inl 9], 0, 0), (11, [.inr (-1)], 0, 0), (8, [.inl 1, .inl 5], 18, 0), (10, [.inl 7, .inr 0], 4, 5),
  (9, [.inr (-1)], 0, 0), (1, [.inr 285, .inl 8], 0, 0), (8, [.inl 9, .inr 1], 0, 0), (3, [.inr 285, .inl 8, .inl 10], 0, 0), (11, [.inr (-1)], 0, 0), (8, [.inl 2, .inr 0], 18, 0), (10, [.inl 8, .inr 0], 2, 5), (9, [.inr (-1)], 0, 0), (1, [.inr 285, .inl 9], 0, 0), (8, [.inl 10, .inr 1], 0, 0), (3, [.inr 285, .inl 9, .inl 11], 0, 0), (11, [.inr (-1)], 0, 0),
  (8, [.inl 2, .inr 4], 18, 0), (10, [.inl 9, .inr 0], 4, 5), (9, [.inr (-1)], 0, 0), (1, [.inr 285, .inl 10], 0, 0), (8, [.inl 11, .inr 1], 0, 0), (3, [.inr 285, .inl 10, .inl 12], 0, 0), (11, [.inr (-1)], 0, 0), (10, [.inl 3, .inr 0], 3, 8), (10, [.inl 3, .inr 60], 5, 2), (13, [.inl 0, .inl 1, .inl 2, .inl 3], 202, 0), (11, [.inl 10], 0, 0), (9, [.inr (-6)], 0, 0),
  (1, [.inr 285, .inl 10], 0, 0), (8, [.inl 11, .inr 1], 0, 0), (3, [.inr 285, .inl 10, .inl 12], 0, 0), (11, [.inr (-6)], 0, 0), (9, [.inr (-4)], 0, 0), (1, [.inr 285, .inl 10], 0, 0), (8, [.inl 11, .inr 1], 0, 0), (3, [.inr 285, .inl 10, .inl 12], 0, 0), (11, [.inr (-4)], 0, 0)]
theorem vr_beliefIn_k : x_chk 201 [] vr_beliefIn_T [] 600 = true := by decide +kernel
theorem vr_beliefIn {a0 a1 a2 a3 v : Int} {h h' : fH} (hs : fS 201 [a0, a1, a2, a3] h v h') (Q : Int → fH → Prop) (h0 : ∀ h1 : fH, h1 = fu h a0 16 0 → ∀ z4 : Int, z4 = h1 a0 0 → ∀ z5 : Int, z5 = wr (z4 - 1) → ∀ z6 : Int, z6 = xlcmp a1 0 → ((z6 < 0 → ∀ z7 : Int, z7 = wr (-(-1)) → ∀ z8 : Int, z8 = h1 285 z7 → ∀ z9 : Int, z9 = wr (z8 + 1) → ∀ h2 : fH, h2 = fu h1 285 z7 z9 → Q (-1) h2) ∧ (0 ≤ z6 → ∀ z7 : Int, z7 = xlcmp a1 z5 → ((0 < z7 → ∀ z8 : Int, z8 = wr (-(-1)) → ∀ z9 : Int, z9 = h1 285 z8 → ∀ z10 : Int, z10 = wr (z9 + 1) → ∀ h2 : fH, h2 = fu h1 285 z8 z10 → Q (-1) h2) ∧ (z7 ≤ 0 → ∀ z8 : Int, z8 = xlcmp a2 0 → ((z8 < 0 → ∀ z9 : Int, z9 = wr (-(-1)) → ∀ z10 : Int, z10 = h1 285 z9 → ∀ z11 : Int, z11 = wr (z10 + 1) → ∀ h2 : fH, h2 = fu h1 285 z9 z11 → Q (-1) h2) ∧ (0 ≤ z8 → ∀ z9 : Int, z9 = xlcmp a2 4 → ((0 < z9 → ∀ z10 : Int, z10 = wr (-(-1)) → ∀ z11 : Int, z11 = h1 285 z10 → ∀ z12 : Int, z12 = wr (z11 + 1) → ∀ h2 : fH, h2 = fu h1 285 z10 z12 → Q (-1) h2) ∧ (z9 ≤ 0 → ((0 ≤ a3 → ((a3 ≤ 60 → ∀ (v2 : Int) (h2 : fH), fS 202 [a0, a1, a2, a3] h1 v2 h2 → Q v2 h2) ∧ (60 < a3 → ∀ z10 : Int, z10 = wr (-(-6)) → ∀ z11 : Int, z11 = h1 285 z10 → ∀ z12 : Int, z12 = wr (z11 + 1) → ∀ h2 : fH, h2 = fu h1 285 z10 z12 → Q (-6) h2))) ∧ (a3 < 0 → ∀ z10 : Int, z10 = wr (-(-4)) → ∀ z11 : Int, z11 = h1 285 z10 → ∀ z12 : Int, z12 = wr (z11 + 1) → ∀ h2 : fH, h2 = fu h1 285 z10 z12 → Q (-4) h2))))))))))) : Q v h' := by
  exact x_mef vr_beliefIn_k hs (fun _ _ _ => False) Q h0 (fun i Ti hT => by cases hT)
def vr_beliefThen_T : xT := [(13, [.inl 0, .inr 290, .inr 1], 159, 0), (13, [.inl 0, .inl 3], 172, 0), (8, [.inr 5, .inl 1], 2, 0), (8, [.inl 6, .inl 2], 0, 0), (1, [.inr 277, .inl 7], 0, 0), (13, [.inl 0, .inr 290, .inr 0], 159, 0), (11, [.inl 8], 0, 0)]
theorem vr_beliefThen_k : x_chk 202 [] vr_beliefThen_T [] 600 = true := by decide +kernel
theorem vr_beliefThen {a0 a1 a2 a3 v : Int} {h h' : fH} (hs : fS 202 [a0, a1, a2, a3] h v h') (Q : Int → fH → Prop) (h0 : ∀ (v1 : Int) (h1 : fH), fS 159 [a0, 290, 1] h v1 h1 → ∀ (v2 : Int) (h2 : fH), fS 172 [a0, a3] h1 v2 h2 → ∀ z6 : Int, z6 = wr (5 * a1) → ∀ z7 : Int, z7 = wr (z6 + a2) → ∀ z8 : Int, z8 = h2 277 z7 → ∀ (v3 : Int) (h3 : fH), fS 159 [a0, 290, 0] h2 v3 h3 → Q z8 h3) : Q v h' := by
  exact x_mef vr_beliefThen_k hs (fun _ _ _ => False) Q h0 (fun i Ti hT => by cases hT)
def vr_wedIn_T : xT := [(2, [.inl 0, .inr 0], 16, 0), (10, [.inl 1, .inr 0], 3, 9), (10, [.inl 1, .inr 60], 5, 3), (13, [.inl 0, .inr 290, .inr 1], 159, 0), (13, [.inl 0, .inl 1], 204, 0), (11, [.inl 3], 0, 0), (9, [.inr (-6)], 0, 0), (1, [.inr 285, .inl 2], 0, 0), (8, [.inl 3, .inr 1], 0, 0), (3, [.inr 285, .inl 2, .inl 4], 0, 0), (11, [.inr (-6)], 0, 0), (9, [.inr (-4)], 0, 0),
  (1, [.inr 285, .inl 2], 0, 0), (8, [.inl 3, .inr 1], 0, 0), (3, [.inr 285, .inl 2, .inl 4], 0, 0), (11, [.inr (-4)], 0, 0)]
theorem vr_wedIn_k : x_chk 203 [] vr_wedIn_T [] 600 = true := by decide +kernel
theorem vr_wedIn {a0 a1 v : Int} {h h' : fH} (hs : fS 203 [a0, a1] h v h') (Q : Int → fH → Prop) (h0 : ∀ h1 : fH, h1 = fu h a0 16 0 → ((0 ≤ a1 → ((a1 ≤ 60 → ∀ (v2 : Int) (h2 : fH), fS 159 [a0, 290, 1] h1 v2 h2 → ∀ (v3 : Int) (h3 : fH), fS 204 [a0, a1] h2 v3 h3 → Q v3 h3) ∧ (60 < a1 → ∀ z2 : Int, z2 = wr (-(-6)) → ∀ z3 : Int, z3 = h1 285 z2 → ∀ z4 : Int, z4 = wr (z3 + 1) → ∀ h2 : fH, h2 = fu h1 285 z2 z4 → Q (-6) h2))) ∧ (a1 < 0 → ∀ z2 : Int, z2 = wr (-(-4)) → ∀ z3 : Int, z3 = h1 285 z2 → ∀ z4 : Int, z4 = wr (z3 + 1) → ∀ h2 : fH, h2 = fu h1 285 z2 z4 → Q (-4) h2))) : Q v h' := by
  exact x_mef vr_wedIn_k hs (fun _ _ _ => False) Q h0 (fun i Ti hT => by cases hT)
def vr_wedThen_T : xT := [(13, [.inl 0, .inl 1], 172, 0), (13, [.inl 0], 198, 0), (13, [.inl 3], 199, 0), (13, [.inl 0, .inr 290, .inr 0], 159, 0), (11, [.inl 4], 0, 0)]
theorem vr_wedThen_k : x_chk 204 [] vr_wedThen_T [] 600 = true := by decide +kernel
theorem vr_wedThen {a0 a1 v : Int} {h h' : fH} (hs : fS 204 [a0, a1] h v h') (Q : Int → fH → Prop) (h0 : ∀ (v1 : Int) (h1 : fH), fS 172 [a0, a1] h v1 h1 → ∀ (v2 : Int) (h2 : fH), fS 198 [a0] h1 v2 h2 → ∀ (v3 : Int) (h3 : fH), fS 199 [v2] h2 v3 h3 → ∀ (v4 : Int) (h4 : fH), fS 159 [a0, 290, 0] h3 v4 h4 → Q v3 h4) : Q v h' := by
  exact x_mef vr_wedThen_k hs (fun _ _ _ => False) Q h0 (fun i Ti hT => by cases hT)
def vr_wedWhen_T : xT := [(2, [.inl 0, .inr 0], 16, 0), (0, [.inl 0], 0, 0), (8, [.inl 2, .inr 1], 1, 0), (8, [.inl 1, .inr (-1)], 18, 0), (10, [.inl 4, .inr 0], 2, 5), (9, [.inr (-1)], 0, 0), (1, [.inr 285, .inl 5], 0, 0), (8, [.inl 6, .inr 1], 0, 0), (3, [.inr 285, .inl 5, .inl 7], 0, 0), (11, [.inr (-1)], 0, 0), (8, [.inl 1, .inl 3], 18, 0), (10, [.inl 5, .inr 0], 4, 5),
  (9, [.inr (-1)], 0, 0), (1, [.inr 285, .inl 6], 0, 0), (8, [.inl 7, .inr 1], 0, 0), (3, [.inr 285, .inl 6, .inl 8], 0, 0), (11, [.inr (-1)], 0, 0), (10, [.inl 1, .inr 0], 2, 1), (12, [.inl 0, .inr (-9), .inr 61, .inr 0], 0, 0), (13, [.inl 0, .inl 1], 206, 0), (10, [.inl 6, .inr 61], 1, 1), (11, [.inl 6], 0, 0), (11, [.inr (-9)], 0, 0)]
def vr_wedWhen_T0 : xT := [(0, [.inl 0], 0, 0), (10, [.inl 3, .inl 4], 3, 1), (11, [.inl 1], 0, 0), (1, [.inr 276, .inl 3], 0, 0), (10, [.inl 5, .inr 0], 5, 12), (13, [.inl 0, .inl 3], 206, 0), (10, [.inl 6, .inl 2], 3, 5), (10, [.inl 6, .inl 2], 3, 2), (8, [.inl 3, .inr 1], 0, 0), (12, [.inl 0, .inl 1, .inl 2, .inl 7], 0, 0), (8, [.inl 3, .inr 1], 0, 0), (12, [.inl 0, .inl 1, .inl 6, .inl 7], 0, 0),
  (10, [.inl 6, .inl 2], 3, 2), (8, [.inl 3, .inr 1], 0, 0), (12, [.inl 0, .inl 3, .inl 2, .inl 7], 0, 0), (8, [.inl 3, .inr 1], 0, 0), (12, [.inl 0, .inl 3, .inl 6, .inl 7], 0, 0), (10, [.inr 61, .inl 2], 3, 5), (10, [.inr 61, .inl 2], 3, 2), (8, [.inl 3, .inr 1], 0, 0), (12, [.inl 0, .inl 1, .inl 2, .inl 6], 0, 0), (8, [.inl 3, .inr 1], 0, 0), (12, [.inl 0, .inl 1, .inr 61, .inl 6], 0, 0), (10, [.inr 61, .inl 2], 3, 2),
  (8, [.inl 3, .inr 1], 0, 0), (12, [.inl 0, .inl 3, .inl 2, .inl 6], 0, 0), (8, [.inl 3, .inr 1], 0, 0), (12, [.inl 0, .inl 3, .inr 61, .inl 6], 0, 0)]
theorem vr_wedWhen_k : x_chk 205 [(61, [(0, 0), (2, 0), (3, 0), (4, 0)])] vr_wedWhen_T [vr_wedWhen_T0] 600 = true := by decide +kernel
theorem vr_wedWhen {a0 a1 v : Int} {h h' : fH} (hs : fS 205 [a0, a1] h v h') (I0 : Int → Int → Int → Int → fH → Prop) (Q : Int → fH → Prop) (h0 : ∀ h1 : fH, h1 = fu h a0 16 0 → ∀ z2 : Int, z2 = h1 a0 0 → ∀ z3 : Int, z3 = wr (z2 - 1) → ∀ z4 : Int, z4 = xlcmp a1 (-1) → ((z4 < 0 → ∀ z5 : Int, z5 = wr (-(-1)) → ∀ z6 : Int, z6 = h1 285 z5 → ∀ z7 : Int, z7 = wr (z6 + 1) → ∀ h2 : fH, h2 = fu h1 285 z5 z7 → Q (-1) h2) ∧ (0 ≤ z4 → ∀ z5 : Int, z5 = xlcmp a1 z3 → ((0 < z5 → ∀ z6 : Int, z6 = wr (-(-1)) → ∀ z7 : Int, z7 = h1 285 z6 → ∀ z8 : Int, z8 = wr (z7 + 1) → ∀ h2 : fH, h2 = fu h1 285 z6 z8 → Q (-1) h2) ∧ (z5 ≤ 0 → ((a1 < 0 → I0 a0 (-9) 61 0 h1) ∧ (0 ≤ a1 → ∀ (v2 : Int) (h2 : fH), fS 206 [a0, a1] h1 v2 h2 → ((v2 ≠ 61 → Q v2 h2) ∧ (v2 = 61 → Q (-9) h2))))))))) (k0 : ∀ (x0 x2 x3 x4 : Int) (h : fH), I0 x0 x2 x3 x4 h → ∀ z4 : Int, z4 = h x0 0 → ((z4 ≤ x4 → Q x2 h) ∧ (x4 < z4 → ∀ z5 : Int, z5 = h 276 x4 → ((z5 ≤ 0 → ∀ (v1 : Int) (h1 : fH), fS 206 [x0, x4] h v1 h1 → ((x3 ≤ v1 → ((x3 ≤ v1 → ∀ z7 : Int, z7 = wr (x4 + 1) → I0 x0 x2 x3 z7 h1) ∧ (v1 < x3 → ∀ z7 : Int, z7 = wr (x4 + 1) → I0 x0 x2 v1 z7 h1))) ∧ (v1 < x3 → ((x3 ≤ v1 → ∀ z7 : Int, z7 = wr (x4 + 1) → I0 x0 x4 x3 z7 h1) ∧ (v1 < x3 → ∀ z7 : Int, z7 = wr (x4 + 1) → I0 x0 x4 v1 z7 h1))))) ∧ (0 < z5 → ((x3 ≤ 61 → ((x3 ≤ 61 → ∀ z6 : Int, z6 = wr (x4 + 1) → I0 x0 x2 x3 z6 h) ∧ (61 < x3 → ∀ z6 : Int, z6 = wr (x4 + 1) → I0 x0 x2 61 z6 h))) ∧ (61 < x3 → ((x3 ≤ 61 → ∀ z6 : Int, z6 = wr (x4 + 1) → I0 x0 x4 x3 z6 h) ∧ (61 < x3 → ∀ z6 : Int, z6 = wr (x4 + 1) → I0 x0 x4 61 z6 h))))))))) : Q v h' := by
  refine x_mef vr_wedWhen_k hs (fun k l h => match k with
    | 0 => (match l with | [x0, x2, x3, x4] => I0 x0 x2 x3 x4 h | _ => False)
    | _ => False) Q h0 ?_
  intro i Ti hT vals h hi
  match i, hT, hi with
  | 0, hT, hi =>
    cases hT
    match vals, hi with
    | [x0, x2, x3, x4], hi => exact k0 _ _ _ _ _ hi
    | [], hi => exact False.elim hi
    | [_], hi => exact False.elim hi
    | [_, _], hi => exact False.elim hi
    | [_, _, _], hi => exact False.elim hi
    | _ :: _ :: _ :: _ :: _ :: _, hi => exact False.elim hi
  | _ + 1, hT, _ => cases hT
def vr_wedSoon_T : xT := [(13, [.inl 0, .inr 290, .inr 1], 159, 0), (12, [.inl 0, .inl 1, .inr 61, .inr 0], 0, 0)]
def vr_wedSoon_T0 : xT := [(10, [.inl 3, .inr 60], 4, 2), (13, [.inl 0, .inr 290, .inr 0], 159, 0), (11, [.inl 2], 0, 0), (10, [.inl 2, .inr 61], 1, 2), (13, [.inl 0, .inr 290, .inr 0], 159, 0), (11, [.inl 2], 0, 0), (1, [.inr 276, .inl 1], 0, 0), (10, [.inl 4, .inr 0], 5, 3), (13, [.inl 0, .inr 0], 173, 0), (8, [.inl 3, .inr 1], 0, 0), (12, [.inl 0, .inl 1, .inr 61, .inl 6], 0, 0), (13, [.inl 0, .inr 0], 173, 0),
  (8, [.inl 3, .inr 1], 0, 0), (12, [.inl 0, .inl 1, .inl 3, .inl 6], 0, 0)]
theorem vr_wedSoon_k : x_chk 206 [(9, [(0, 0), (1, 0), (2, 0), (3, 0)])] vr_wedSoon_T [vr_wedSoon_T0] 600 = true := by decide +kernel
theorem vr_wedSoon {a0 a1 v : Int} {h h' : fH} (hs : fS 206 [a0, a1] h v h') (I0 : Int → Int → Int → Int → fH → Prop) (Q : Int → fH → Prop) (h0 : ∀ (v1 : Int) (h1 : fH), fS 159 [a0, 290, 1] h v1 h1 → I0 a0 a1 61 0 h1) (k0 : ∀ (x0 x1 x2 x3 : Int) (h : fH), I0 x0 x1 x2 x3 h → ((60 < x3 → ∀ (v1 : Int) (h1 : fH), fS 159 [x0, 290, 0] h v1 h1 → Q x2 h1) ∧ (x3 ≤ 60 → ((x2 ≠ 61 → ∀ (v1 : Int) (h1 : fH), fS 159 [x0, 290, 0] h v1 h1 → Q x2 h1) ∧ (x2 = 61 → ∀ z4 : Int, z4 = h 276 x1 → ((z4 ≤ 0 → ∀ (v1 : Int) (h1 : fH), fS 173 [x0, 0] h v1 h1 → ∀ z6 : Int, z6 = wr (x3 + 1) → I0 x0 x1 61 z6 h1) ∧ (0 < z4 → ∀ (v1 : Int) (h1 : fH), fS 173 [x0, 0] h v1 h1 → ∀ z6 : Int, z6 = wr (x3 + 1) → I0 x0 x1 x3 z6 h1))))))) : Q v h' := by
  refine x_mef vr_wedSoon_k hs (fun k l h => match k with
    | 0 => (match l with | [x0, x1, x2, x3] => I0 x0 x1 x2 x3 h | _ => False)
    | _ => False) Q h0 ?_
  intro i Ti hT vals h hi
  match i, hT, hi with
  | 0, hT, hi =>
    cases hT
    match vals, hi with
    | [x0, x1, x2, x3], hi => exact k0 _ _ _ _ _ hi
    | [], hi => exact False.elim hi
    | [_], hi => exact False.elim hi
    | [_, _], hi => exact False.elim hi
    | [_, _, _], hi => exact False.elim hi
    | _ :: _ :: _ :: _ :: _ :: _, hi => exact False.elim hi
  | _ + 1, hT, _ => cases hT
def vr_happens_T : xT := [(2, [.inl 0, .inr 0], 16, 0), (8, [.inl 1, .inr 0], 18, 0), (10, [.inl 3, .inr 0], 2, 5), (9, [.inr (-1)], 0, 0), (1, [.inr 285, .inl 4], 0, 0), (8, [.inl 5, .inr 1], 0, 0), (3, [.inr 285, .inl 4, .inl 6], 0, 0), (11, [.inr (-1)], 0, 0), (8, [.inl 1, .inr 4], 18, 0), (10, [.inl 4, .inr 0], 4, 5), (9, [.inr (-1)], 0, 0), (1, [.inr 285, .inl 5], 0, 0),
  (8, [.inl 6, .inr 1], 0, 0), (3, [.inr 285, .inl 5, .inl 7], 0, 0), (11, [.inr (-1)], 0, 0), (10, [.inl 2, .inr 0], 3, 7), (10, [.inl 2, .inr 60], 5, 1), (12, [.inl 0, .inl 1, .inl 2, .inr 0, .inr 1], 0, 0), (9, [.inr (-6)], 0, 0), (1, [.inr 285, .inl 5], 0, 0), (8, [.inl 6, .inr 1], 0, 0), (3, [.inr 285, .inl 5, .inl 7], 0, 0), (11, [.inr (-6)], 0, 0), (9, [.inr (-4)], 0, 0),
  (1, [.inr 285, .inl 5], 0, 0), (8, [.inl 6, .inr 1], 0, 0), (3, [.inr 285, .inl 5, .inl 7], 0, 0), (11, [.inr (-4)], 0, 0)]
def vr_happens_T0 : xT := [(10, [.inl 4, .inl 2], 4, 1), (11, [.inl 3], 0, 0), (0, [.inl 0], 15, 0), (8, [.inl 5, .inl 4], 0, 0), (1, [.inr 279, .inl 1], 0, 0), (8, [.inl 6, .inl 7], 0, 0), (1, [.inr 278, .inl 1], 0, 0), (8, [.inl 8, .inl 9], 10, 0), (10, [.inl 10, .inr 0], 1, 3), (8, [.inl 3, .inr 0], 0, 0), (8, [.inl 4, .inr 1], 0, 0), (12, [.inl 0, .inl 1, .inl 2, .inl 11, .inl 12], 0, 0),
  (8, [.inl 3, .inr 1], 0, 0), (8, [.inl 4, .inr 1], 0, 0), (12, [.inl 0, .inl 1, .inl 2, .inl 11, .inl 12], 0, 0)]
theorem vr_happens_k : x_chk 207 [(40, [(0, 0), (1, 0), (2, 0), (4, 0), (5, 0)])] vr_happens_T [vr_happens_T0] 600 = true := by decide +kernel
theorem vr_happens {a0 a1 a2 v : Int} {h h' : fH} (hs : fS 207 [a0, a1, a2] h v h') (I0 : Int → Int → Int → Int → Int → fH → Prop) (Q : Int → fH → Prop) (h0 : ∀ h1 : fH, h1 = fu h a0 16 0 → ∀ z3 : Int, z3 = xlcmp a1 0 → ((z3 < 0 → ∀ z4 : Int, z4 = wr (-(-1)) → ∀ z5 : Int, z5 = h1 285 z4 → ∀ z6 : Int, z6 = wr (z5 + 1) → ∀ h2 : fH, h2 = fu h1 285 z4 z6 → Q (-1) h2) ∧ (0 ≤ z3 → ∀ z4 : Int, z4 = xlcmp a1 4 → ((0 < z4 → ∀ z5 : Int, z5 = wr (-(-1)) → ∀ z6 : Int, z6 = h1 285 z5 → ∀ z7 : Int, z7 = wr (z6 + 1) → ∀ h2 : fH, h2 = fu h1 285 z5 z7 → Q (-1) h2) ∧ (z4 ≤ 0 → ((0 ≤ a2 → ((a2 ≤ 60 → I0 a0 a1 a2 0 1 h1) ∧ (60 < a2 → ∀ z5 : Int, z5 = wr (-(-6)) → ∀ z6 : Int, z6 = h1 285 z5 → ∀ z7 : Int, z7 = wr (z6 + 1) → ∀ h2 : fH, h2 = fu h1 285 z5 z7 → Q (-6) h2))) ∧ (a2 < 0 → ∀ z5 : Int, z5 = wr (-(-4)) → ∀ z6 : Int, z6 = h1 285 z5 → ∀ z7 : Int, z7 = wr (z6 + 1) → ∀ h2 : fH, h2 = fu h1 285 z5 z7 → Q (-4) h2))))))) (k0 : ∀ (x0 x1 x2 x4 x5 : Int) (h : fH), I0 x0 x1 x2 x4 x5 h → ((x2 < x5 → Q x4 h) ∧ (x5 ≤ x2 → ∀ z5 : Int, z5 = h x0 15 → ∀ z6 : Int, z6 = wr (z5 + x5) → ∀ z7 : Int, z7 = h 279 x1 → ∀ z8 : Int, z8 = wr (z6 + z7) → ∀ z9 : Int, z9 = h 278 x1 → ∀ z10 : Int, z10 = xrem z8 z9 → ((z10 ≠ 0 → ∀ z11 : Int, z11 = wr (x4 + 0) → ∀ z12 : Int, z12 = wr (x5 + 1) → I0 x0 x1 x2 z11 z12 h) ∧ (z10 = 0 → ∀ z11 : Int, z11 = wr (x4 + 1) → ∀ z12 : Int, z12 = wr (x5 + 1) → I0 x0 x1 x2 z11 z12 h))))) : Q v h' := by
  refine x_mef vr_happens_k hs (fun k l h => match k with
    | 0 => (match l with | [x0, x1, x2, x4, x5] => I0 x0 x1 x2 x4 x5 h | _ => False)
    | _ => False) Q h0 ?_
  intro i Ti hT vals h hi
  match i, hT, hi with
  | 0, hT, hi =>
    cases hT
    match vals, hi with
    | [x0, x1, x2, x4, x5], hi => exact k0 _ _ _ _ _ _ hi
    | [], hi => exact False.elim hi
    | [_], hi => exact False.elim hi
    | [_, _], hi => exact False.elim hi
    | [_, _, _], hi => exact False.elim hi
    | [_, _, _, _], hi => exact False.elim hi
    | _ :: _ :: _ :: _ :: _ :: _ :: _, hi => exact False.elim hi
  | _ + 1, hT, _ => cases hT
def vr_bet_T : xT := [(2, [.inl 0, .inr 0], 16, 0), (0, [.inl 0], 0, 0), (8, [.inl 3, .inr 1], 1, 0), (8, [.inl 1, .inr 0], 18, 0), (10, [.inl 5, .inr 0], 2, 5), (9, [.inr (-1)], 0, 0), (1, [.inr 285, .inl 6], 0, 0), (8, [.inl 7, .inr 1], 0, 0), (3, [.inr 285, .inl 6, .inl 8], 0, 0), (11, [.inr (-1)], 0, 0), (8, [.inl 1, .inl 4], 18, 0), (10, [.inl 6, .inr 0], 4, 5),
  (9, [.inr (-1)], 0, 0), (1, [.inr 285, .inl 7], 0, 0), (8, [.inl 8, .inr 1], 0, 0), (3, [.inr 285, .inl 7, .inl 9], 0, 0), (11, [.inr (-1)], 0, 0), (0, [.inl 0], 0, 0), (8, [.inl 7, .inr 1], 1, 0), (8, [.inl 2, .inr 0], 18, 0), (10, [.inl 9, .inr 0], 2, 5), (9, [.inr (-1)], 0, 0), (1, [.inr 285, .inl 10], 0, 0), (8, [.inl 11, .inr 1], 0, 0),
  (3, [.inr 285, .inl 10, .inl 12], 0, 0), (11, [.inr (-1)], 0, 0), (8, [.inl 2, .inl 8], 18, 0), (10, [.inl 10, .inr 0], 4, 5), (9, [.inr (-1)], 0, 0), (1, [.inr 285, .inl 11], 0, 0), (8, [.inl 12, .inr 1], 0, 0), (3, [.inr 285, .inl 11, .inl 13], 0, 0), (11, [.inr (-1)], 0, 0), (10, [.inl 1, .inl 2], 0, 5), (9, [.inr (-1)], 0, 0), (1, [.inr 285, .inl 11], 0, 0),
  (8, [.inl 12, .inr 1], 0, 0), (3, [.inr 285, .inl 11, .inl 13], 0, 0), (11, [.inr (-1)], 0, 0), (13, [.inl 0, .inl 1, .inl 2], 209, 0), (11, [.inl 11], 0, 0)]
theorem vr_bet_k : x_chk 208 [] vr_bet_T [] 600 = true := by decide +kernel
theorem vr_bet {a0 a1 a2 v : Int} {h h' : fH} (hs : fS 208 [a0, a1, a2] h v h') (Q : Int → fH → Prop) (h0 : ∀ h1 : fH, h1 = fu h a0 16 0 → ∀ z3 : Int, z3 = h1 a0 0 → ∀ z4 : Int, z4 = wr (z3 - 1) → ∀ z5 : Int, z5 = xlcmp a1 0 → ((z5 < 0 → ∀ z6 : Int, z6 = wr (-(-1)) → ∀ z7 : Int, z7 = h1 285 z6 → ∀ z8 : Int, z8 = wr (z7 + 1) → ∀ h2 : fH, h2 = fu h1 285 z6 z8 → Q (-1) h2) ∧ (0 ≤ z5 → ∀ z6 : Int, z6 = xlcmp a1 z4 → ((0 < z6 → ∀ z7 : Int, z7 = wr (-(-1)) → ∀ z8 : Int, z8 = h1 285 z7 → ∀ z9 : Int, z9 = wr (z8 + 1) → ∀ h2 : fH, h2 = fu h1 285 z7 z9 → Q (-1) h2) ∧ (z6 ≤ 0 → ∀ z7 : Int, z7 = h1 a0 0 → ∀ z8 : Int, z8 = wr (z7 - 1) → ∀ z9 : Int, z9 = xlcmp a2 0 → ((z9 < 0 → ∀ z10 : Int, z10 = wr (-(-1)) → ∀ z11 : Int, z11 = h1 285 z10 → ∀ z12 : Int, z12 = wr (z11 + 1) → ∀ h2 : fH, h2 = fu h1 285 z10 z12 → Q (-1) h2) ∧ (0 ≤ z9 → ∀ z10 : Int, z10 = xlcmp a2 z8 → ((0 < z10 → ∀ z11 : Int, z11 = wr (-(-1)) → ∀ z12 : Int, z12 = h1 285 z11 → ∀ z13 : Int, z13 = wr (z12 + 1) → ∀ h2 : fH, h2 = fu h1 285 z11 z13 → Q (-1) h2) ∧ (z10 ≤ 0 → ((a1 = a2 → ∀ z11 : Int, z11 = wr (-(-1)) → ∀ z12 : Int, z12 = h1 285 z11 → ∀ z13 : Int, z13 = wr (z12 + 1) → ∀ h2 : fH, h2 = fu h1 285 z11 z13 → Q (-1) h2) ∧ (a1 ≠ a2 → ∀ (v2 : Int) (h2 : fH), fS 209 [a0, a1, a2] h1 v2 h2 → Q v2 h2))))))))))) : Q v h' := by
  exact x_mef vr_bet_k hs (fun _ _ _ => False) Q h0 (fun i Ti hT => by cases hT)
end
section
/-! the trees of the methods (made by a program) -/
def vr_betOf_T : xT := [(12, [.inl 0, .inl 1, .inl 2, .inr 1], 0, 0)]
def vr_betOf_T0 : xT := [(10, [.inl 3, .inr 10], 3, 1), (11, [.inr (-9)], 0, 0), (12, [.inl 0, .inl 1, .inl 2, .inl 3, .inr 0], 1, 0)]
def vr_betOf_T1 : xT := [(10, [.inl 4, .inr 10], 3, 2), (8, [.inl 3, .inr 1], 0, 0), (12, [.inl 0, .inl 1, .inl 2, .inl 5], 0, 0), (8, [.inl 4, .inr 2], 9, 0), (8, [.inl 4, .inr 2], 10, 0), (13, [.inl 0, .inl 1, .inl 2, .inl 5, .inl 6], 166, 0), (10, [.inl 7, .inr 0], 0, 2), (8, [.inl 4, .inr 1], 0, 0), (12, [.inl 0, .inl 1, .inl 2, .inl 3, .inl 8], 1, 0), (8, [.inl 4, .inr 2], 9, 0), (8, [.inl 4, .inr 2], 10, 0), (0, [.inl 0], 15, 0),
  (8, [.inl 10, .inl 3], 0, 0), (13, [.inl 0, .inl 8, .inl 9, .inl 11], 210, 0), (10, [.inl 12, .inr 0], 0, 2), (8, [.inl 4, .inr 1], 0, 0), (12, [.inl 0, .inl 1, .inl 2, .inl 3, .inl 13], 1, 0), (8, [.inl 4, .inr 2], 9, 0), (8, [.inr 100, .inl 13], 2, 0), (8, [.inl 4, .inr 2], 10, 0), (8, [.inr 10, .inl 15], 2, 0), (8, [.inl 14, .inl 16], 0, 0), (8, [.inl 17, .inl 3], 0, 0), (11, [.inl 18], 0, 0)]
theorem vr_betOf_k : x_chk 209 [(2, [(0, 0), (1, 0), (2, 0), (3, 0)]), (11, [(0, 0), (1, 0), (2, 0), (3, 0), (4, 0)])] vr_betOf_T [vr_betOf_T0, vr_betOf_T1] 600 = true := by decide +kernel
theorem vr_betOf {a0 a1 a2 v : Int} {h h' : fH} (hs : fS 209 [a0, a1, a2] h v h') (I0 : Int → Int → Int → Int → fH → Prop) (I1 : Int → Int → Int → Int → Int → fH → Prop) (Q : Int → fH → Prop) (h0 : I0 a0 a1 a2 1 h) (k0 : ∀ (x0 x1 x2 x3 : Int) (h : fH), I0 x0 x1 x2 x3 h → ((10 ≤ x3 → Q (-9) h) ∧ (x3 < 10 → I1 x0 x1 x2 x3 0 h))) (k1 : ∀ (x0 x1 x2 x3 x4 : Int) (h : fH), I1 x0 x1 x2 x3 x4 h → ((10 ≤ x4 → ∀ z5 : Int, z5 = wr (x3 + 1) → I0 x0 x1 x2 z5 h) ∧ (x4 < 10 → ∀ z5 : Int, z5 = xdiv x4 2 → ∀ z6 : Int, z6 = xrem x4 2 → ∀ (v1 : Int) (h1 : fH), fS 166 [x0, x1, x2, z5, z6] h v1 h1 → ((v1 = 0 → ∀ z8 : Int, z8 = wr (x4 + 1) → I1 x0 x1 x2 x3 z8 h1) ∧ (v1 ≠ 0 → ∀ z8 : Int, z8 = xdiv x4 2 → ∀ z9 : Int, z9 = xrem x4 2 → ∀ z10 : Int, z10 = h1 x0 15 → ∀ z11 : Int, z11 = wr (z10 + x3) → ∀ (v2 : Int) (h2 : fH), fS 210 [x0, z8, z9, z11] h1 v2 h2 → ((v2 = 0 → ∀ z13 : Int, z13 = wr (x4 + 1) → I1 x0 x1 x2 x3 z13 h2) ∧ (v2 ≠ 0 → ∀ z13 : Int, z13 = xdiv x4 2 → ∀ z14 : Int, z14 = wr (100 * z13) → ∀ z15 : Int, z15 = xrem x4 2 → ∀ z16 : Int, z16 = wr (10 * z15) → ∀ z17 : Int, z17 = wr (z14 + z16) → ∀ z18 : Int, z18 = wr (z17 + x3) → Q z18 h2))))))) : Q v h' := by
  refine x_mef vr_betOf_k hs (fun k l h => match k with
    | 0 => (match l with | [x0, x1, x2, x3] => I0 x0 x1 x2 x3 h | _ => False)
    | 1 => (match l with | [x0, x1, x2, x3, x4] => I1 x0 x1 x2 x3 x4 h | _ => False)
    | _ => False) Q h0 ?_
  intro i Ti hT vals h hi
  match i, hT, hi with
  | 0, hT, hi =>
    cases hT
    match vals, hi with
    | [x0, x1, x2, x3], hi => exact k0 _ _ _ _ _ hi
    | [], hi => exact False.elim hi
    | [_], hi => exact False.elim hi
    | [_, _], hi => exact False.elim hi
    | [_, _, _], hi => exact False.elim hi
    | _ :: _ :: _ :: _ :: _ :: _, hi => exact False.elim hi
  | 1, hT, hi =>
    cases hT
    match vals, hi with
    | [x0, x1, x2, x3, x4], hi => exact k1 _ _ _ _ _ _ hi
    | [], hi => exact False.elim hi
    | [_], hi => exact False.elim hi
    | [_, _], hi => exact False.elim hi
    | [_, _, _], hi => exact False.elim hi
    | [_, _, _, _], hi => exact False.elim hi
    | _ :: _ :: _ :: _ :: _ :: _ :: _, hi => exact False.elim hi
  | _ + 2, hT, _ => cases hT
def vr_isLost_T : xT := [(1, [.inr 279, .inl 1], 0, 0), (8, [.inl 3, .inl 4], 0, 0), (1, [.inr 278, .inl 1], 0, 0), (8, [.inl 5, .inl 6], 10, 0), (10, [.inl 7, .inr 0], 1, 3), (10, [.inl 2, .inr 1], 1, 1), (11, [.inr 0], 0, 0), (11, [.inr 1], 0, 0), (10, [.inl 2, .inr 1], 1, 1), (11, [.inr 1], 0, 0), (11, [.inr 0], 0, 0)]
theorem vr_isLost_k : x_chk 210 [] vr_isLost_T [] 600 = true := by decide +kernel
theorem vr_isLost {a0 a1 a2 a3 v : Int} {h h' : fH} (hs : fS 210 [a0, a1, a2, a3] h v h') (Q : Int → fH → Prop) (h0 : ∀ z4 : Int, z4 = h 279 a1 → ∀ z5 : Int, z5 = wr (a3 + z4) → ∀ z6 : Int, z6 = h 278 a1 → ∀ z7 : Int, z7 = xrem z5 z6 → ((z7 ≠ 0 → ((a2 ≠ 1 → Q 0 h) ∧ (a2 = 1 → Q 1 h))) ∧ (z7 = 0 → ((a2 ≠ 1 → Q 1 h) ∧ (a2 = 1 → Q 0 h))))) : Q v h' := by
  exact x_mef vr_isLost_k hs (fun _ _ _ => False) Q h0 (fun i Ti hT => by cases hT)
def vr_takers_T : xT := [(2, [.inl 0, .inr 0], 16, 0), (0, [.inl 0], 0, 0), (8, [.inl 4, .inr 1], 1, 0), (8, [.inl 1, .inr 0], 18, 0), (10, [.inl 6, .inr 0], 2, 5), (9, [.inr (-1)], 0, 0), (1, [.inr 285, .inl 7], 0, 0), (8, [.inl 8, .inr 1], 0, 0), (3, [.inr 285, .inl 7, .inl 9], 0, 0), (11, [.inr (-1)], 0, 0), (8, [.inl 1, .inl 5], 18, 0), (10, [.inl 7, .inr 0], 4, 5),
  (9, [.inr (-1)], 0, 0), (1, [.inr 285, .inl 8], 0, 0), (8, [.inl 9, .inr 1], 0, 0), (3, [.inr 285, .inl 8, .inl 10], 0, 0), (11, [.inr (-1)], 0, 0), (8, [.inl 2, .inr 0], 18, 0), (10, [.inl 8, .inr 0], 2, 5), (9, [.inr (-1)], 0, 0), (1, [.inr 285, .inl 9], 0, 0), (8, [.inl 10, .inr 1], 0, 0), (3, [.inr 285, .inl 9, .inl 11], 0, 0), (11, [.inr (-1)], 0, 0),
  (8, [.inl 2, .inr 4], 18, 0), (10, [.inl 9, .inr 0], 4, 5), (9, [.inr (-1)], 0, 0), (1, [.inr 285, .inl 10], 0, 0), (8, [.inl 11, .inr 1], 0, 0), (3, [.inr 285, .inl 10, .inl 12], 0, 0), (11, [.inr (-1)], 0, 0), (8, [.inl 3, .inr 0], 18, 0), (10, [.inl 10, .inr 0], 2, 5), (9, [.inr (-2)], 0, 0), (1, [.inr 285, .inl 11], 0, 0), (8, [.inl 12, .inr 1], 0, 0),
  (3, [.inr 285, .inl 11, .inl 13], 0, 0), (11, [.inr (-2)], 0, 0), (8, [.inl 3, .inr 1], 18, 0), (10, [.inl 11, .inr 0], 4, 5), (9, [.inr (-2)], 0, 0), (1, [.inr 285, .inl 12], 0, 0), (8, [.inl 13, .inr 1], 0, 0), (3, [.inr 285, .inl 12, .inl 14], 0, 0), (11, [.inr (-2)], 0, 0), (12, [.inl 0, .inl 1, .inl 2, .inl 3, .inr 0, .inr 0], 0, 0)]
def vr_takers_T0 : xT := [(0, [.inl 0], 0, 0), (10, [.inl 5, .inl 6], 3, 1), (11, [.inl 4], 0, 0), (10, [.inl 5, .inl 1], 0, 3), (8, [.inl 4, .inr 0], 4, 0), (8, [.inl 5, .inr 1], 0, 0), (12, [.inl 0, .inl 1, .inl 2, .inl 3, .inl 7, .inl 8], 0, 0), (13, [.inl 0, .inl 5, .inl 1, .inl 2, .inl 3], 169, 0), (10, [.inl 7, .inr 0], 0, 3), (8, [.inl 4, .inr 0], 4, 0), (8, [.inl 5, .inr 1], 0, 0), (12, [.inl 0, .inl 1, .inl 2, .inl 3, .inl 8, .inl 9], 0, 0),
  (8, [.inr 1, .inl 5], 6, 0), (8, [.inl 4, .inl 8], 4, 0), (8, [.inl 5, .inr 1], 0, 0), (12, [.inl 0, .inl 1, .inl 2, .inl 3, .inl 9, .inl 10], 0, 0)]
theorem vr_takers_k : x_chk 211 [(50, [(0, 0), (1, 0), (2, 0), (3, 0), (5, 0), (6, 0)])] vr_takers_T [vr_takers_T0] 600 = true := by decide +kernel
theorem vr_takers {a0 a1 a2 a3 v : Int} {h h' : fH} (hs : fS 211 [a0, a1, a2, a3] h v h') (I0 : Int → Int → Int → Int → Int → Int → fH → Prop) (Q : Int → fH → Prop) (h0 : ∀ h1 : fH, h1 = fu h a0 16 0 → ∀ z4 : Int, z4 = h1 a0 0 → ∀ z5 : Int, z5 = wr (z4 - 1) → ∀ z6 : Int, z6 = xlcmp a1 0 → ((z6 < 0 → ∀ z7 : Int, z7 = wr (-(-1)) → ∀ z8 : Int, z8 = h1 285 z7 → ∀ z9 : Int, z9 = wr (z8 + 1) → ∀ h2 : fH, h2 = fu h1 285 z7 z9 → Q (-1) h2) ∧ (0 ≤ z6 → ∀ z7 : Int, z7 = xlcmp a1 z5 → ((0 < z7 → ∀ z8 : Int, z8 = wr (-(-1)) → ∀ z9 : Int, z9 = h1 285 z8 → ∀ z10 : Int, z10 = wr (z9 + 1) → ∀ h2 : fH, h2 = fu h1 285 z8 z10 → Q (-1) h2) ∧ (z7 ≤ 0 → ∀ z8 : Int, z8 = xlcmp a2 0 → ((z8 < 0 → ∀ z9 : Int, z9 = wr (-(-1)) → ∀ z10 : Int, z10 = h1 285 z9 → ∀ z11 : Int, z11 = wr (z10 + 1) → ∀ h2 : fH, h2 = fu h1 285 z9 z11 → Q (-1) h2) ∧ (0 ≤ z8 → ∀ z9 : Int, z9 = xlcmp a2 4 → ((0 < z9 → ∀ z10 : Int, z10 = wr (-(-1)) → ∀ z11 : Int, z11 = h1 285 z10 → ∀ z12 : Int, z12 = wr (z11 + 1) → ∀ h2 : fH, h2 = fu h1 285 z10 z12 → Q (-1) h2) ∧ (z9 ≤ 0 → ∀ z10 : Int, z10 = xlcmp a3 0 → ((z10 < 0 → ∀ z11 : Int, z11 = wr (-(-2)) → ∀ z12 : Int, z12 = h1 285 z11 → ∀ z13 : Int, z13 = wr (z12 + 1) → ∀ h2 : fH, h2 = fu h1 285 z11 z13 → Q (-2) h2) ∧ (0 ≤ z10 → ∀ z11 : Int, z11 = xlcmp a3 1 → ((0 < z11 → ∀ z12 : Int, z12 = wr (-(-2)) → ∀ z13 : Int, z13 = h1 285 z12 → ∀ z14 : Int, z14 = wr (z13 + 1) → ∀ h2 : fH, h2 = fu h1 285 z12 z14 → Q (-2) h2) ∧ (z11 ≤ 0 → I0 a0 a1 a2 a3 0 0 h1))))))))))))) (k0 : ∀ (x0 x1 x2 x3 x5 x6 : Int) (h : fH), I0 x0 x1 x2 x3 x5 x6 h → ∀ z6 : Int, z6 = h x0 0 → ((z6 ≤ x6 → Q x5 h) ∧ (x6 < z6 → ((x6 = x1 → ∀ z7 : Int, z7 = xor' x5 0 → ∀ z8 : Int, z8 = wr (x6 + 1) → I0 x0 x1 x2 x3 z7 z8 h) ∧ (x6 ≠ x1 → ∀ (v1 : Int) (h1 : fH), fS 169 [x0, x6, x1, x2, x3] h v1 h1 → ((v1 = 0 → ∀ z8 : Int, z8 = xor' x5 0 → ∀ z9 : Int, z9 = wr (x6 + 1) → I0 x0 x1 x2 x3 z8 z9 h1) ∧ (v1 ≠ 0 → ∀ z8 : Int, z8 = xshl 1 x6 → ∀ z9 : Int, z9 = xor' x5 z8 → ∀ z10 : Int, z10 = wr (x6 + 1) → I0 x0 x1 x2 x3 z9 z10 h1))))))) : Q v h' := by
  refine x_mef vr_takers_k hs (fun k l h => match k with
    | 0 => (match l with | [x0, x1, x2, x3, x5, x6] => I0 x0 x1 x2 x3 x5 x6 h | _ => False)
    | _ => False) Q h0 ?_
  intro i Ti hT vals h hi
  match i, hT, hi with
  | 0, hT, hi =>
    cases hT
    match vals, hi with
    | [x0, x1, x2, x3, x5, x6], hi => exact k0 _ _ _ _ _ _ _ hi
    | [], hi => exact False.elim hi
    | [_], hi => exact False.elim hi
    | [_, _], hi => exact False.elim hi
    | [_, _, _], hi => exact False.elim hi
    | [_, _, _, _], hi => exact False.elim hi
    | [_, _, _, _, _], hi => exact False.elim hi
    | _ :: _ :: _ :: _ :: _ :: _ :: _ :: _, hi => exact False.elim hi
  | _ + 1, hT, _ => cases hT
def vr_wooers_T : xT := [(2, [.inl 0, .inr 0], 16, 0), (0, [.inl 0], 0, 0), (8, [.inl 2, .inr 1], 1, 0), (8, [.inl 1, .inr 0], 18, 0), (10, [.inl 4, .inr 0], 2, 5), (9, [.inr (-1)], 0, 0), (1, [.inr 285, .inl 5], 0, 0), (8, [.inl 6, .inr 1], 0, 0), (3, [.inr 285, .inl 5, .inl 7], 0, 0), (11, [.inr (-1)], 0, 0), (8, [.inl 1, .inl 3], 18, 0), (10, [.inl 5, .inr 0], 4, 5),
  (9, [.inr (-1)], 0, 0), (1, [.inr 285, .inl 6], 0, 0), (8, [.inl 7, .inr 1], 0, 0), (3, [.inr 285, .inl 6, .inl 8], 0, 0), (11, [.inr (-1)], 0, 0), (13, [.inl 0, .inl 1], 213, 0), (11, [.inl 6], 0, 0)]
theorem vr_wooers_k : x_chk 212 [] vr_wooers_T [] 600 = true := by decide +kernel
theorem vr_wooers {a0 a1 v : Int} {h h' : fH} (hs : fS 212 [a0, a1] h v h') (Q : Int → fH → Prop) (h0 : ∀ h1 : fH, h1 = fu h a0 16 0 → ∀ z2 : Int, z2 = h1 a0 0 → ∀ z3 : Int, z3 = wr (z2 - 1) → ∀ z4 : Int, z4 = xlcmp a1 0 → ((z4 < 0 → ∀ z5 : Int, z5 = wr (-(-1)) → ∀ z6 : Int, z6 = h1 285 z5 → ∀ z7 : Int, z7 = wr (z6 + 1) → ∀ h2 : fH, h2 = fu h1 285 z5 z7 → Q (-1) h2) ∧ (0 ≤ z4 → ∀ z5 : Int, z5 = xlcmp a1 z3 → ((0 < z5 → ∀ z6 : Int, z6 = wr (-(-1)) → ∀ z7 : Int, z7 = h1 285 z6 → ∀ z8 : Int, z8 = wr (z7 + 1) → ∀ h2 : fH, h2 = fu h1 285 z6 z8 → Q (-1) h2) ∧ (z5 ≤ 0 → ∀ (v2 : Int) (h2 : fH), fS 213 [a0, a1] h1 v2 h2 → Q v2 h2))))) : Q v h' := by
  exact x_mef vr_wooers_k hs (fun _ _ _ => False) Q h0 (fun i Ti hT => by cases hT)
def vr_wooersOf_T : xT := [(12, [.inl 0, .inl 1, .inr 0, .inr 0], 0, 0)]
def vr_wooersOf_T0 : xT := [(0, [.inl 0], 0, 0), (10, [.inl 3, .inl 4], 3, 1), (11, [.inl 2], 0, 0), (10, [.inl 3, .inl 1], 0, 3), (8, [.inl 2, .inr 0], 4, 0), (8, [.inl 3, .inr 1], 0, 0), (12, [.inl 0, .inl 1, .inl 5, .inl 6], 0, 0), (13, [.inl 0, .inl 3, .inl 1], 209, 0), (10, [.inl 5, .inr 0], 2, 3), (8, [.inl 2, .inr 0], 4, 0), (8, [.inl 3, .inr 1], 0, 0), (12, [.inl 0, .inl 1, .inl 6, .inl 7], 0, 0),
  (8, [.inr 1, .inl 3], 6, 0), (8, [.inl 2, .inl 6], 4, 0), (8, [.inl 3, .inr 1], 0, 0), (12, [.inl 0, .inl 1, .inl 7, .inl 8], 0, 0)]
theorem vr_wooersOf_k : x_chk 213 [(4, [(0, 0), (1, 0), (2, 0), (3, 0)])] vr_wooersOf_T [vr_wooersOf_T0] 600 = true := by decide +kernel
theorem vr_wooersOf {a0 a1 v : Int} {h h' : fH} (hs : fS 213 [a0, a1] h v h') (I0 : Int → Int → Int → Int → fH → Prop) (Q : Int → fH → Prop) (h0 : I0 a0 a1 0 0 h) (k0 : ∀ (x0 x1 x2 x3 : Int) (h : fH), I0 x0 x1 x2 x3 h → ∀ z4 : Int, z4 = h x0 0 → ((z4 ≤ x3 → Q x2 h) ∧ (x3 < z4 → ((x3 = x1 → ∀ z5 : Int, z5 = xor' x2 0 → ∀ z6 : Int, z6 = wr (x3 + 1) → I0 x0 x1 z5 z6 h) ∧ (x3 ≠ x1 → ∀ (v1 : Int) (h1 : fH), fS 209 [x0, x3, x1] h v1 h1 → ((v1 < 0 → ∀ z6 : Int, z6 = xor' x2 0 → ∀ z7 : Int, z7 = wr (x3 + 1) → I0 x0 x1 z6 z7 h1) ∧ (0 ≤ v1 → ∀ z6 : Int, z6 = xshl 1 x3 → ∀ z7 : Int, z7 = xor' x2 z6 → ∀ z8 : Int, z8 = wr (x3 + 1) → I0 x0 x1 z7 z8 h1))))))) : Q v h' := by
  refine x_mef vr_wooersOf_k hs (fun k l h => match k with
    | 0 => (match l with | [x0, x1, x2, x3] => I0 x0 x1 x2 x3 h | _ => False)
    | _ => False) Q h0 ?_
  intro i Ti hT vals h hi
  match i, hT, hi with
  | 0, hT, hi =>
    cases hT
    match vals, hi with
    | [x0, x1, x2, x3], hi => exact k0 _ _ _ _ _ hi
    | [], hi => exact False.elim hi
    | [_], hi => exact False.elim hi
    | [_, _], hi => exact False.elim hi
    | [_, _, _], hi => exact False.elim hi
    | _ :: _ :: _ :: _ :: _ :: _, hi => exact False.elim hi
  | _ + 1, hT, _ => cases hT
def vr_match_T : xT := [(2, [.inl 0, .inr 0], 16, 0), (0, [.inl 0], 0, 0), (8, [.inl 2, .inr 1], 1, 0), (8, [.inl 1, .inr (-1)], 18, 0), (10, [.inl 4, .inr 0], 2, 5), (9, [.inr (-1)], 0, 0), (1, [.inr 285, .inl 5], 0, 0), (8, [.inl 6, .inr 1], 0, 0), (3, [.inr 285, .inl 5, .inl 7], 0, 0), (11, [.inr (-1)], 0, 0), (8, [.inl 1, .inl 3], 18, 0), (10, [.inl 5, .inr 0], 4, 5),
  (9, [.inr (-1)], 0, 0), (1, [.inr 285, .inl 6], 0, 0), (8, [.inl 7, .inr 1], 0, 0), (3, [.inr 285, .inl 6, .inl 8], 0, 0), (11, [.inr (-1)], 0, 0), (13, [.inl 0], 215, 0), (12, [.inl 0, .inl 1, .inr 0, .inr (-9), .inr 0], 0, 0)]
def vr_match_T0 : xT := [(0, [.inl 0], 0, 0), (10, [.inl 4, .inl 5], 3, 4), (10, [.inl 1, .inr 0], 3, 1), (11, [.inl 3], 0, 0), (1, [.inr 294, .inr 0], 0, 0), (11, [.inl 6], 0, 0), (13, [.inl 0, .inl 4, .inl 2], 218, 0), (10, [.inl 4, .inl 1], 1, 32), (10, [.inl 6, .inl 1], 1, 10), (10, [.inl 6, .inr 0], 2, 3), (8, [.inl 2, .inr 0], 4, 0), (8, [.inl 4, .inr 1], 0, 0),
  (12, [.inl 0, .inl 1, .inl 7, .inl 3, .inl 8], 0, 0), (8, [.inr 1, .inl 6], 6, 0), (8, [.inr 1, .inl 4], 6, 0), (8, [.inl 7, .inl 8], 4, 0), (8, [.inl 2, .inl 9], 4, 0), (8, [.inl 4, .inr 1], 0, 0), (12, [.inl 0, .inl 1, .inl 10, .inl 3, .inl 11], 0, 0), (10, [.inl 6, .inr 0], 2, 10), (10, [.inl 6, .inr 0], 2, 3), (8, [.inl 2, .inr 0], 4, 0), (8, [.inl 4, .inr 1], 0, 0), (12, [.inl 0, .inl 1, .inl 7, .inl 3, .inl 8], 0, 0),
  (8, [.inr 1, .inl 6], 6, 0), (8, [.inr 1, .inl 4], 6, 0), (8, [.inl 7, .inl 8], 4, 0), (8, [.inl 2, .inl 9], 4, 0), (8, [.inl 4, .inr 1], 0, 0), (12, [.inl 0, .inl 1, .inl 10, .inl 3, .inl 11], 0, 0), (10, [.inl 6, .inr 0], 2, 3), (8, [.inl 2, .inr 0], 4, 0), (8, [.inl 4, .inr 1], 0, 0), (12, [.inl 0, .inl 1, .inl 7, .inl 4, .inl 8], 0, 0), (8, [.inr 1, .inl 6], 6, 0), (8, [.inr 1, .inl 4], 6, 0),
  (8, [.inl 7, .inl 8], 4, 0), (8, [.inl 2, .inl 9], 4, 0), (8, [.inl 4, .inr 1], 0, 0), (12, [.inl 0, .inl 1, .inl 10, .inl 4, .inl 11], 0, 0), (10, [.inl 6, .inr 0], 2, 32), (10, [.inl 6, .inl 1], 1, 10), (10, [.inl 6, .inr 0], 2, 3), (8, [.inl 2, .inr 0], 4, 0), (8, [.inl 4, .inr 1], 0, 0), (12, [.inl 0, .inl 1, .inl 7, .inl 3, .inl 8], 0, 0), (8, [.inr 1, .inl 6], 6, 0), (8, [.inr 1, .inl 4], 6, 0),
  (8, [.inl 7, .inl 8], 4, 0), (8, [.inl 2, .inl 9], 4, 0), (8, [.inl 4, .inr 1], 0, 0), (12, [.inl 0, .inl 1, .inl 10, .inl 3, .inl 11], 0, 0), (10, [.inl 6, .inr 0], 2, 10), (10, [.inl 6, .inr 0], 2, 3), (8, [.inl 2, .inr 0], 4, 0), (8, [.inl 4, .inr 1], 0, 0), (12, [.inl 0, .inl 1, .inl 7, .inl 3, .inl 8], 0, 0), (8, [.inr 1, .inl 6], 6, 0), (8, [.inr 1, .inl 4], 6, 0), (8, [.inl 7, .inl 8], 4, 0),
  (8, [.inl 2, .inl 9], 4, 0), (8, [.inl 4, .inr 1], 0, 0), (12, [.inl 0, .inl 1, .inl 10, .inl 3, .inl 11], 0, 0), (10, [.inl 6, .inr 0], 2, 3), (8, [.inl 2, .inr 0], 4, 0), (8, [.inl 4, .inr 1], 0, 0), (12, [.inl 0, .inl 1, .inl 7, .inl 4, .inl 8], 0, 0), (8, [.inr 1, .inl 6], 6, 0), (8, [.inr 1, .inl 4], 6, 0), (8, [.inl 7, .inl 8], 4, 0), (8, [.inl 2, .inl 9], 4, 0), (8, [.inl 4, .inr 1], 0, 0),
  (12, [.inl 0, .inl 1, .inl 10, .inl 4, .inl 11], 0, 0), (10, [.inl 6, .inr 0], 2, 3), (8, [.inl 2, .inr 0], 4, 0), (8, [.inl 4, .inr 1], 0, 0), (12, [.inl 0, .inl 1, .inl 7, .inl 6, .inl 8], 0, 0), (8, [.inr 1, .inl 6], 6, 0), (8, [.inr 1, .inl 4], 6, 0), (8, [.inl 7, .inl 8], 4, 0), (8, [.inl 2, .inl 9], 4, 0), (8, [.inl 4, .inr 1], 0, 0), (12, [.inl 0, .inl 1, .inl 10, .inl 6, .inl 11], 0, 0)]
theorem vr_match_k : x_chk 214 [(41, [(0, 0), (1, 0), (2, 0), (3, 0), (4, 0)])] vr_match_T [vr_match_T0] 600 = true := by decide +kernel
theorem vr_match {a0 a1 v : Int} {h h' : fH} (hs : fS 214 [a0, a1] h v h') (I0 : Int → Int → Int → Int → Int → fH → Prop) (Q : Int → fH → Prop) (h0 : ∀ h1 : fH, h1 = fu h a0 16 0 → ∀ z2 : Int, z2 = h1 a0 0 → ∀ z3 : Int, z3 = wr (z2 - 1) → ∀ z4 : Int, z4 = xlcmp a1 (-1) → ((z4 < 0 → ∀ z5 : Int, z5 = wr (-(-1)) → ∀ z6 : Int, z6 = h1 285 z5 → ∀ z7 : Int, z7 = wr (z6 + 1) → ∀ h2 : fH, h2 = fu h1 285 z5 z7 → Q (-1) h2) ∧ (0 ≤ z4 → ∀ z5 : Int, z5 = xlcmp a1 z3 → ((0 < z5 → ∀ z6 : Int, z6 = wr (-(-1)) → ∀ z7 : Int, z7 = h1 285 z6 → ∀ z8 : Int, z8 = wr (z7 + 1) → ∀ h2 : fH, h2 = fu h1 285 z6 z8 → Q (-1) h2) ∧ (z5 ≤ 0 → ∀ (v2 : Int) (h2 : fH), fS 215 [a0] h1 v2 h2 → I0 a0 a1 0 (-9) 0 h2))))) (k0 : ∀ (x0 x1 x2 x3 x4 : Int) (h : fH), I0 x0 x1 x2 x3 x4 h → ∀ z5 : Int, z5 = h x0 0 → ((z5 ≤ x4 → ((0 ≤ x1 → Q x3 h) ∧ (x1 < 0 → ∀ z6 : Int, z6 = h 294 0 → Q z6 h))) ∧ (x4 < z5 → ∀ (v1 : Int) (h1 : fH), fS 218 [x0, x4, x2] h v1 h1 → ((x4 ≠ x1 → ((v1 ≠ x1 → ((v1 < 0 → ∀ z7 : Int, z7 = xor' x2 0 → ∀ z8 : Int, z8 = wr (x4 + 1) → I0 x0 x1 z7 x3 z8 h1) ∧ (0 ≤ v1 → ∀ z7 : Int, z7 = xshl 1 v1 → ∀ z8 : Int, z8 = xshl 1 x4 → ∀ z9 : Int, z9 = xor' z7 z8 → ∀ z10 : Int, z10 = xor' x2 z9 → ∀ z11 : Int, z11 = wr (x4 + 1) → I0 x0 x1 z10 x3 z11 h1))) ∧ (v1 = x1 → ((v1 < 0 → ((v1 < 0 → ∀ z7 : Int, z7 = xor' x2 0 → ∀ z8 : Int, z8 = wr (x4 + 1) → I0 x0 x1 z7 x3 z8 h1) ∧ (0 ≤ v1 → ∀ z7 : Int, z7 = xshl 1 v1 → ∀ z8 : Int, z8 = xshl 1 x4 → ∀ z9 : Int, z9 = xor' z7 z8 → ∀ z10 : Int, z10 = xor' x2 z9 → ∀ z11 : Int, z11 = wr (x4 + 1) → I0 x0 x1 z10 x3 z11 h1))) ∧ (0 ≤ v1 → ((v1 < 0 → ∀ z7 : Int, z7 = xor' x2 0 → ∀ z8 : Int, z8 = wr (x4 + 1) → I0 x0 x1 z7 x4 z8 h1) ∧ (0 ≤ v1 → ∀ z7 : Int, z7 = xshl 1 v1 → ∀ z8 : Int, z8 = xshl 1 x4 → ∀ z9 : Int, z9 = xor' z7 z8 → ∀ z10 : Int, z10 = xor' x2 z9 → ∀ z11 : Int, z11 = wr (x4 + 1) → I0 x0 x1 z10 x4 z11 h1))))))) ∧ (x4 = x1 → ((v1 < 0 → ((v1 ≠ x1 → ((v1 < 0 → ∀ z7 : Int, z7 = xor' x2 0 → ∀ z8 : Int, z8 = wr (x4 + 1) → I0 x0 x1 z7 x3 z8 h1) ∧ (0 ≤ v1 → ∀ z7 : Int, z7 = xshl 1 v1 → ∀ z8 : Int, z8 = xshl 1 x4 → ∀ z9 : Int, z9 = xor' z7 z8 → ∀ z10 : Int, z10 = xor' x2 z9 → ∀ z11 : Int, z11 = wr (x4 + 1) → I0 x0 x1 z10 x3 z11 h1))) ∧ (v1 = x1 → ((v1 < 0 → ((v1 < 0 → ∀ z7 : Int, z7 = xor' x2 0 → ∀ z8 : Int, z8 = wr (x4 + 1) → I0 x0 x1 z7 x3 z8 h1) ∧ (0 ≤ v1 → ∀ z7 : Int, z7 = xshl 1 v1 → ∀ z8 : Int, z8 = xshl 1 x4 → ∀ z9 : Int, z9 = xor' z7 z8 → ∀ z10 : Int, z10 = xor' x2 z9 → ∀ z11 : Int, z11 = wr (x4 + 1) → I0 x0 x1 z10 x3 z11 h1))) ∧ (0 ≤ v1 → ((v1 < 0 → ∀ z7 : Int, z7 = xor' x2 0 → ∀ z8 : Int, z8 = wr (x4 + 1) → I0 x0 x1 z7 x4 z8 h1) ∧ (0 ≤ v1 → ∀ z7 : Int, z7 = xshl 1 v1 → ∀ z8 : Int, z8 = xshl 1 x4 → ∀ z9 : Int, z9 = xor' z7 z8 → ∀ z10 : Int, z10 = xor' x2 z9 → ∀ z11 : Int, z11 = wr (x4 + 1) → I0 x0 x1 z10 x4 z11 h1))))))) ∧ (0 ≤ v1 → ((v1 < 0 → ∀ z7 : Int, z7 = xor' x2 0 → ∀ z8 : Int, z8 = wr (x4 + 1) → I0 x0 x1 z7 v1 z8 h1) ∧ (0 ≤ v1 → ∀ z7 : Int, z7 = xshl 1 v1 → ∀ z8 : Int, z8 = xshl 1 x4 → ∀ z9 : Int, z9 = xor' z7 z8 → ∀ z10 : Int, z10 = xor' x2 z9 → ∀ z11 : Int, z11 = wr (x4 + 1) → I0 x0 x1 z10 v1 z11 h1))))))))) : Q v h' := by
  refine x_mef vr_match_k hs (fun k l h => match k with
    | 0 => (match l with | [x0, x1, x2, x3, x4] => I0 x0 x1 x2 x3 x4 h | _ => False)
    | _ => False) Q h0 ?_
  intro i Ti hT vals h hi
  match i, hT, hi with
  | 0, hT, hi =>
    cases hT
    match vals, hi with
    | [x0, x1, x2, x3, x4], hi => exact k0 _ _ _ _ _ _ hi
    | [], hi => exact False.elim hi
    | [_], hi => exact False.elim hi
    | [_, _], hi => exact False.elim hi
    | [_, _, _], hi => exact False.elim hi
    | [_, _, _, _], hi => exact False.elim hi
    | _ :: _ :: _ :: _ :: _ :: _ :: _, hi => exact False.elim hi
  | _ + 1, hT, _ => cases hT
def vr_layMatch_T : xT := [(12, [.inl 0, .inr 0], 0, 0)]
def vr_layMatch_T0 : xT := [(0, [.inl 0], 0, 0), (10, [.inl 1, .inl 2], 3, 4), (0, [.inl 0], 0, 0), (8, [.inr 128, .inl 3], 2, 0), (8, [.inl 4, .inr 127], 0, 0), (12, [.inl 0, .inl 5], 1, 0), (13, [.inl 0, .inl 1], 213, 0), (3, [.inr 295, .inl 1, .inl 3], 0, 0), (8, [.inl 1, .inr 1], 0, 0), (12, [.inl 0, .inl 4], 0, 0)]
def vr_layMatch_T1 : xT := [(10, [.inl 1, .inr 0], 2, 1), (11, [.inr 0], 0, 0), (8, [.inl 1, .inr 128], 9, 0), (8, [.inl 1, .inr 128], 10, 0), (0, [.inl 0], 0, 0), (10, [.inl 2, .inl 4], 1, 7), (8, [.inl 2, .inr 1], 0, 0), (8, [.inr 128, .inl 5], 2, 0), (8, [.inl 6, .inl 3], 0, 0), (1, [.inr 294, .inl 7], 0, 0), (3, [.inr 294, .inl 1, .inl 8], 0, 0), (8, [.inl 2, .inr 1], 0, 0),
  (12, [.inl 0, .inl 1, .inl 2, .inl 3, .inl 9], 2, 0), (3, [.inr 294, .inl 1, .inr 0], 0, 0), (8, [.inl 2, .inr 1], 0, 0), (12, [.inl 0, .inl 1, .inl 2, .inl 3, .inl 5], 2, 0)]
def vr_layMatch_T2 : xT := [(0, [.inl 0], 0, 0), (10, [.inl 4, .inl 5], 3, 2), (8, [.inl 1, .inr (-1)], 0, 0), (12, [.inl 0, .inl 6], 1, 0), (8, [.inl 3, .inl 2], 7, 0), (8, [.inl 6, .inr 1], 3, 0), (10, [.inl 7, .inr 1], 1, 51), (8, [.inl 3, .inl 4], 7, 0), (8, [.inl 8, .inr 1], 3, 0), (10, [.inl 9, .inr 1], 1, 46), (1, [.inr 295, .inl 2], 0, 0), (8, [.inl 10, .inl 4], 7, 0),
  (8, [.inl 11, .inr 1], 3, 0), (10, [.inl 12, .inr 1], 1, 24), (1, [.inr 295, .inl 4], 0, 0), (8, [.inl 13, .inl 2], 7, 0), (8, [.inl 14, .inr 1], 3, 0), (10, [.inl 15, .inr 1], 1, 2), (8, [.inl 4, .inr 1], 0, 0), (12, [.inl 0, .inl 1, .inl 2, .inl 3, .inl 16], 2, 0), (8, [.inl 2, .inr 1], 0, 0), (8, [.inr 128, .inl 16], 2, 0), (8, [.inr 1, .inl 4], 6, 0), (8, [.inl 3, .inl 18], 4, 0),
  (8, [.inr 1, .inl 2], 6, 0), (8, [.inl 19, .inl 20], 4, 0), (8, [.inl 17, .inl 21], 0, 0), (1, [.inr 294, .inl 22], 0, 0), (8, [.inr 1, .inl 23], 0, 0), (1, [.inr 294, .inl 1], 0, 0), (10, [.inl 24, .inl 25], 5, 4), (1, [.inr 294, .inl 1], 0, 0), (3, [.inr 294, .inl 1, .inl 26], 0, 0), (8, [.inl 4, .inr 1], 0, 0), (12, [.inl 0, .inl 1, .inl 2, .inl 3, .inl 27], 2, 0), (3, [.inr 294, .inl 1, .inl 24], 0, 0),
  (8, [.inl 4, .inr 1], 0, 0), (12, [.inl 0, .inl 1, .inl 2, .inl 3, .inl 26], 2, 0), (8, [.inl 2, .inr 1], 0, 0), (8, [.inr 128, .inl 13], 2, 0), (8, [.inr 1, .inl 4], 6, 0), (8, [.inl 3, .inl 15], 4, 0), (8, [.inr 1, .inl 2], 6, 0), (8, [.inl 16, .inl 17], 4, 0), (8, [.inl 14, .inl 18], 0, 0), (1, [.inr 294, .inl 19], 0, 0), (8, [.inr 1, .inl 20], 0, 0), (1, [.inr 294, .inl 1], 0, 0),
  (10, [.inl 21, .inl 22], 5, 4), (1, [.inr 294, .inl 1], 0, 0), (3, [.inr 294, .inl 1, .inl 23], 0, 0), (8, [.inl 4, .inr 1], 0, 0), (12, [.inl 0, .inl 1, .inl 2, .inl 3, .inl 24], 2, 0), (3, [.inr 294, .inl 1, .inl 21], 0, 0), (8, [.inl 4, .inr 1], 0, 0), (12, [.inl 0, .inl 1, .inl 2, .inl 3, .inl 23], 2, 0), (8, [.inl 4, .inr 1], 0, 0), (12, [.inl 0, .inl 1, .inl 2, .inl 3, .inl 10], 2, 0), (8, [.inl 4, .inr 1], 0, 0), (12, [.inl 0, .inl 1, .inl 2, .inl 3, .inl 8], 2, 0)]
theorem vr_layMatch_k : x_chk 215 [(2, [(0, 0), (1, 0)]), (39, [(0, 0), (1, 0)]), (92, [(0, 0), (1, 0), (2, 0), (3, 0), (4, 0)])] vr_layMatch_T [vr_layMatch_T0, vr_layMatch_T1, vr_layMatch_T2] 600 = true := by decide +kernel
theorem vr_layMatch {a0 v : Int} {h h' : fH} (hs : fS 215 [a0] h v h') (I0 : Int → Int → fH → Prop) (I1 : Int → Int → fH → Prop) (I2 : Int → Int → Int → Int → Int → fH → Prop) (Q : Int → fH → Prop) (h0 : I0 a0 0 h) (k0 : ∀ (x0 x1 : Int) (h : fH), I0 x0 x1 h → ∀ z2 : Int, z2 = h x0 0 → ((z2 ≤ x1 → ∀ z3 : Int, z3 = h x0 0 → ∀ z4 : Int, z4 = wr (128 * z3) → ∀ z5 : Int, z5 = wr (z4 + 127) → I1 x0 z5 h) ∧ (x1 < z2 → ∀ (v1 : Int) (h1 : fH), fS 213 [x0, x1] h v1 h1 → ∀ h2 : fH, h2 = fu h1 295 x1 v1 → ∀ z4 : Int, z4 = wr (x1 + 1) → I0 x0 z4 h2))) (k1 : ∀ (x0 x1 : Int) (h : fH), I1 x0 x1 h → ((x1 < 0 → Q 0 h) ∧ (0 ≤ x1 → ∀ z2 : Int, z2 = xdiv x1 128 → ∀ z3 : Int, z3 = xrem x1 128 → ∀ z4 : Int, z4 = h x0 0 → ((z2 ≠ z4 → ∀ z5 : Int, z5 = wr (z2 + 1) → ∀ z6 : Int, z6 = wr (128 * z5) → ∀ z7 : Int, z7 = wr (z6 + z3) → ∀ z8 : Int, z8 = h 294 z7 → ∀ h1 : fH, h1 = fu h 294 x1 z8 → ∀ z9 : Int, z9 = wr (z2 + 1) → I2 x0 x1 z2 z3 z9 h1) ∧ (z2 = z4 → ∀ h1 : fH, h1 = fu h 294 x1 0 → ∀ z5 : Int, z5 = wr (z2 + 1) → I2 x0 x1 z2 z3 z5 h1))))) (k2 : ∀ (x0 x1 x2 x3 x4 : Int) (h : fH), I2 x0 x1 x2 x3 x4 h → ∀ z5 : Int, z5 = h x0 0 → ((z5 ≤ x4 → ∀ z6 : Int, z6 = wr (x1 + (-1)) → I1 x0 z6 h) ∧ (x4 < z5 → ∀ z6 : Int, z6 = xshr x3 x2 → ∀ z7 : Int, z7 = xand z6 1 → ((z7 ≠ 1 → ∀ z8 : Int, z8 = xshr x3 x4 → ∀ z9 : Int, z9 = xand z8 1 → ((z9 ≠ 1 → ∀ z10 : Int, z10 = h 295 x2 → ∀ z11 : Int, z11 = xshr z10 x4 → ∀ z12 : Int, z12 = xand z11 1 → ((z12 ≠ 1 → ∀ z13 : Int, z13 = h 295 x4 → ∀ z14 : Int, z14 = xshr z13 x2 → ∀ z15 : Int, z15 = xand z14 1 → ((z15 ≠ 1 → ∀ z16 : Int, z16 = wr (x4 + 1) → I2 x0 x1 x2 x3 z16 h) ∧ (z15 = 1 → ∀ z16 : Int, z16 = wr (x2 + 1) → ∀ z17 : Int, z17 = wr (128 * z16) → ∀ z18 : Int, z18 = xshl 1 x4 → ∀ z19 : Int, z19 = xor' x3 z18 → ∀ z20 : Int, z20 = xshl 1 x2 → ∀ z21 : Int, z21 = xor' z19 z20 → ∀ z22 : Int, z22 = wr (z17 + z21) → ∀ z23 : Int, z23 = h 294 z22 → ∀ z24 : Int, z24 = wr (1 + z23) → ∀ z25 : Int, z25 = h 294 x1 → ((z24 ≤ z25 → ∀ z26 : Int, z26 = h 294 x1 → ∀ h1 : fH, h1 = fu h 294 x1 z26 → ∀ z27 : Int, z27 = wr (x4 + 1) → I2 x0 x1 x2 x3 z27 h1) ∧ (z25 < z24 → ∀ h1 : fH, h1 = fu h 294 x1 z24 → ∀ z26 : Int, z26 = wr (x4 + 1) → I2 x0 x1 x2 x3 z26 h1))))) ∧ (z12 = 1 → ∀ z13 : Int, z13 = wr (x2 + 1) → ∀ z14 : Int, z14 = wr (128 * z13) → ∀ z15 : Int, z15 = xshl 1 x4 → ∀ z16 : Int, z16 = xor' x3 z15 → ∀ z17 : Int, z17 = xshl 1 x2 → ∀ z18 : Int, z18 = xor' z16 z17 → ∀ z19 : Int, z19 = wr (z14 + z18) → ∀ z20 : Int, z20 = h 294 z19 → ∀ z21 : Int, z21 = wr (1 + z20) → ∀ z22 : Int, z22 = h 294 x1 → ((z21 ≤ z22 → ∀ z23 : Int, z23 = h 294 x1 → ∀ h1 : fH, h1 = fu h 294 x1 z23 → ∀ z24 : Int, z24 = wr (x4 + 1) → I2 x0 x1 x2 x3 z24 h1) ∧ (z22 < z21 → ∀ h1 : fH, h1 = fu h 294 x1 z21 → ∀ z23 : Int, z23 = wr (x4 + 1) → I2 x0 x1 x2 x3 z23 h1))))) ∧ (z9 = 1 → ∀ z10 : Int, z10 = wr (x4 + 1) → I2 x0 x1 x2 x3 z10 h))) ∧ (z7 = 1 → ∀ z8 : Int, z8 = wr (x4 + 1) → I2 x0 x1 x2 x3 z8 h))))) : Q v h' := by
  refine x_mef vr_layMatch_k hs (fun k l h => match k with
    | 0 => (match l with | [x0, x1] => I0 x0 x1 h | _ => False)
    | 1 => (match l with | [x0, x1] => I1 x0 x1 h | _ => False)
    | 2 => (match l with | [x0, x1, x2, x3, x4] => I2 x0 x1 x2 x3 x4 h | _ => False)
    | _ => False) Q h0 ?_
  intro i Ti hT vals h hi
  match i, hT, hi with
  | 0, hT, hi =>
    cases hT
    match vals, hi with
    | [x0, x1], hi => exact k0 _ _ _ hi
    | [], hi => exact False.elim hi
    | [_], hi => exact False.elim hi
    | _ :: _ :: _ :: _, hi => exact False.elim hi
  | 1, hT, hi =>
    cases hT
    match vals, hi with
    | [x0, x1], hi => exact k1 _ _ _ hi
    | [], hi => exact False.elim hi
    | [_], hi => exact False.elim hi
    | _ :: _ :: _ :: _, hi => exact False.elim hi
  | 2, hT, hi =>
    cases hT
    match vals, hi with
    | [x0, x1, x2, x3, x4], hi => exact k2 _ _ _ _ _ _ hi
    | [], hi => exact False.elim hi
    | [_], hi => exact False.elim hi
    | [_, _], hi => exact False.elim hi
    | [_, _, _], hi => exact False.elim hi
    | [_, _, _, _], hi => exact False.elim hi
    | _ :: _ :: _ :: _ :: _ :: _ :: _, hi => exact False.elim hi
  | _ + 3, hT, _ => cases hT
end
section
/-! the trees of the methods (made by a program) -/
def vr_partnerOf_T : xT := [(8, [.inl 1, .inr 1], 0, 0), (12, [.inl 0, .inl 1, .inl 2, .inl 3], 0, 0)]
def vr_partnerOf_T0 : xT := [(0, [.inl 0], 0, 0), (10, [.inl 3, .inl 4], 3, 1), (11, [.inr (-9)], 0, 0), (8, [.inl 2, .inl 1], 7, 0), (8, [.inl 5, .inr 1], 3, 0), (10, [.inl 6, .inr 1], 1, 47), (8, [.inl 2, .inl 3], 7, 0), (8, [.inl 7, .inr 1], 3, 0), (10, [.inl 8, .inr 1], 1, 42), (1, [.inr 295, .inl 1], 0, 0), (8, [.inl 9, .inl 3], 7, 0), (8, [.inl 10, .inr 1], 3, 0),
  (10, [.inl 11, .inr 1], 1, 22), (1, [.inr 295, .inl 3], 0, 0), (8, [.inl 12, .inl 1], 7, 0), (8, [.inl 13, .inr 1], 3, 0), (10, [.inl 14, .inr 1], 1, 2), (8, [.inl 3, .inr 1], 0, 0), (12, [.inl 0, .inl 1, .inl 2, .inl 15], 0, 0), (8, [.inl 1, .inr 1], 0, 0), (8, [.inr 128, .inl 15], 2, 0), (8, [.inr 1, .inl 3], 6, 0), (8, [.inl 2, .inl 17], 4, 0), (8, [.inr 1, .inl 1], 6, 0),
  (8, [.inl 18, .inl 19], 4, 0), (8, [.inl 16, .inl 20], 0, 0), (1, [.inr 294, .inl 21], 0, 0), (8, [.inr 1, .inl 22], 0, 0), (8, [.inr 128, .inl 1], 2, 0), (8, [.inl 24, .inl 2], 0, 0), (1, [.inr 294, .inl 25], 0, 0), (10, [.inl 23, .inl 26], 1, 2), (8, [.inl 3, .inr 1], 0, 0), (12, [.inl 0, .inl 1, .inl 2, .inl 27], 0, 0), (11, [.inl 3], 0, 0), (8, [.inl 1, .inr 1], 0, 0),
  (8, [.inr 128, .inl 12], 2, 0), (8, [.inr 1, .inl 3], 6, 0), (8, [.inl 2, .inl 14], 4, 0), (8, [.inr 1, .inl 1], 6, 0), (8, [.inl 15, .inl 16], 4, 0), (8, [.inl 13, .inl 17], 0, 0), (1, [.inr 294, .inl 18], 0, 0), (8, [.inr 1, .inl 19], 0, 0), (8, [.inr 128, .inl 1], 2, 0), (8, [.inl 21, .inl 2], 0, 0), (1, [.inr 294, .inl 22], 0, 0), (10, [.inl 20, .inl 23], 1, 2),
  (8, [.inl 3, .inr 1], 0, 0), (12, [.inl 0, .inl 1, .inl 2, .inl 24], 0, 0), (11, [.inl 3], 0, 0), (8, [.inl 3, .inr 1], 0, 0), (12, [.inl 0, .inl 1, .inl 2, .inl 9], 0, 0), (11, [.inr (-9)], 0, 0)]
theorem vr_partnerOf_k : x_chk 218 [(4, [(0, 0), (1, 0), (2, 0), (3, 0)])] vr_partnerOf_T [vr_partnerOf_T0] 600 = true := by decide +kernel
theorem vr_partnerOf {a0 a1 a2 v : Int} {h h' : fH} (hs : fS 218 [a0, a1, a2] h v h') (I0 : Int → Int → Int → Int → fH → Prop) (Q : Int → fH → Prop) (h0 : ∀ z3 : Int, z3 = wr (a1 + 1) → I0 a0 a1 a2 z3 h) (k0 : ∀ (x0 x1 x2 x3 : Int) (h : fH), I0 x0 x1 x2 x3 h → ∀ z4 : Int, z4 = h x0 0 → ((z4 ≤ x3 → Q (-9) h) ∧ (x3 < z4 → ∀ z5 : Int, z5 = xshr x2 x1 → ∀ z6 : Int, z6 = xand z5 1 → ((z6 ≠ 1 → ∀ z7 : Int, z7 = xshr x2 x3 → ∀ z8 : Int, z8 = xand z7 1 → ((z8 ≠ 1 → ∀ z9 : Int, z9 = h 295 x1 → ∀ z10 : Int, z10 = xshr z9 x3 → ∀ z11 : Int, z11 = xand z10 1 → ((z11 ≠ 1 → ∀ z12 : Int, z12 = h 295 x3 → ∀ z13 : Int, z13 = xshr z12 x1 → ∀ z14 : Int, z14 = xand z13 1 → ((z14 ≠ 1 → ∀ z15 : Int, z15 = wr (x3 + 1) → I0 x0 x1 x2 z15 h) ∧ (z14 = 1 → ∀ z15 : Int, z15 = wr (x1 + 1) → ∀ z16 : Int, z16 = wr (128 * z15) → ∀ z17 : Int, z17 = xshl 1 x3 → ∀ z18 : Int, z18 = xor' x2 z17 → ∀ z19 : Int, z19 = xshl 1 x1 → ∀ z20 : Int, z20 = xor' z18 z19 → ∀ z21 : Int, z21 = wr (z16 + z20) → ∀ z22 : Int, z22 = h 294 z21 → ∀ z23 : Int, z23 = wr (1 + z22) → ∀ z24 : Int, z24 = wr (128 * x1) → ∀ z25 : Int, z25 = wr (z24 + x2) → ∀ z26 : Int, z26 = h 294 z25 → ((z23 ≠ z26 → ∀ z27 : Int, z27 = wr (x3 + 1) → I0 x0 x1 x2 z27 h) ∧ (z23 = z26 → Q x3 h))))) ∧ (z11 = 1 → ∀ z12 : Int, z12 = wr (x1 + 1) → ∀ z13 : Int, z13 = wr (128 * z12) → ∀ z14 : Int, z14 = xshl 1 x3 → ∀ z15 : Int, z15 = xor' x2 z14 → ∀ z16 : Int, z16 = xshl 1 x1 → ∀ z17 : Int, z17 = xor' z15 z16 → ∀ z18 : Int, z18 = wr (z13 + z17) → ∀ z19 : Int, z19 = h 294 z18 → ∀ z20 : Int, z20 = wr (1 + z19) → ∀ z21 : Int, z21 = wr (128 * x1) → ∀ z22 : Int, z22 = wr (z21 + x2) → ∀ z23 : Int, z23 = h 294 z22 → ((z20 ≠ z23 → ∀ z24 : Int, z24 = wr (x3 + 1) → I0 x0 x1 x2 z24 h) ∧ (z20 = z23 → Q x3 h))))) ∧ (z8 = 1 → ∀ z9 : Int, z9 = wr (x3 + 1) → I0 x0 x1 x2 z9 h))) ∧ (z6 = 1 → Q (-9) h))))) : Q v h' := by
  refine x_mef vr_partnerOf_k hs (fun k l h => match k with
    | 0 => (match l with | [x0, x1, x2, x3] => I0 x0 x1 x2 x3 h | _ => False)
    | _ => False) Q h0 ?_
  intro i Ti hT vals h hi
  match i, hT, hi with
  | 0, hT, hi =>
    cases hT
    match vals, hi with
    | [x0, x1, x2, x3], hi => exact k0 _ _ _ _ _ hi
    | [], hi => exact False.elim hi
    | [_], hi => exact False.elim hi
    | [_, _], hi => exact False.elim hi
    | [_, _, _], hi => exact False.elim hi
    | _ :: _ :: _ :: _ :: _ :: _, hi => exact False.elim hi
  | _ + 1, hT, _ => cases hT
def vr_fix_T : xT := [(2, [.inl 0, .inr 0], 16, 0), (10, [.inl 1, .inr 0], 3, 9), (10, [.inl 1, .inr 30], 5, 3), (13, [.inl 0, .inr 290, .inr 1], 159, 0), (13, [.inl 0, .inl 1], 204, 0), (12, [.inl 0, .inl 1, .inr (-9), .inl 3, .inr 0], 0, 0), (9, [.inr (-6)], 0, 0), (1, [.inr 285, .inl 2], 0, 0), (8, [.inl 3, .inr 1], 0, 0), (3, [.inr 285, .inl 2, .inl 4], 0, 0), (11, [.inr (-6)], 0, 0), (9, [.inr (-4)], 0, 0),
  (1, [.inr 285, .inl 2], 0, 0), (8, [.inl 3, .inr 1], 0, 0), (3, [.inr 285, .inl 2, .inl 4], 0, 0), (11, [.inr (-4)], 0, 0)]
def vr_fix_T0 : xT := [(10, [.inl 4, .inr 45], 3, 1), (11, [.inl 2], 0, 0), (8, [.inl 4, .inr 9], 9, 0), (8, [.inl 4, .inr 9], 10, 0), (3, [.inr 279, .inl 5, .inl 6], 0, 0), (13, [.inl 0, .inl 1], 204, 0), (10, [.inl 7, .inl 3], 5, 5), (10, [.inl 7, .inl 3], 5, 2), (8, [.inl 4, .inr 1], 0, 0), (12, [.inl 0, .inl 1, .inl 2, .inl 3, .inl 8], 0, 0), (8, [.inl 4, .inr 1], 0, 0), (12, [.inl 0, .inl 1, .inl 2, .inl 7, .inl 8], 0, 0),
  (8, [.inl 4, .inr 9], 9, 0), (8, [.inr 10, .inl 8], 2, 0), (8, [.inl 4, .inr 9], 10, 0), (8, [.inl 9, .inl 10], 0, 0), (10, [.inl 7, .inl 3], 5, 2), (8, [.inl 4, .inr 1], 0, 0), (12, [.inl 0, .inl 1, .inl 11, .inl 3, .inl 12], 0, 0), (8, [.inl 4, .inr 1], 0, 0), (12, [.inl 0, .inl 1, .inl 11, .inl 7, .inl 12], 0, 0)]
theorem vr_fix_k : x_chk 219 [(40, [(0, 0), (1, 0), (3, 0), (4, 0), (5, 0)])] vr_fix_T [vr_fix_T0] 600 = true := by decide +kernel
theorem vr_fix {a0 a1 v : Int} {h h' : fH} (hs : fS 219 [a0, a1] h v h') (I0 : Int → Int → Int → Int → Int → fH → Prop) (Q : Int → fH → Prop) (h0 : ∀ h1 : fH, h1 = fu h a0 16 0 → ((0 ≤ a1 → ((a1 ≤ 30 → ∀ (v2 : Int) (h2 : fH), fS 159 [a0, 290, 1] h1 v2 h2 → ∀ (v3 : Int) (h3 : fH), fS 204 [a0, a1] h2 v3 h3 → I0 a0 a1 (-9) v3 0 h3) ∧ (30 < a1 → ∀ z2 : Int, z2 = wr (-(-6)) → ∀ z3 : Int, z3 = h1 285 z2 → ∀ z4 : Int, z4 = wr (z3 + 1) → ∀ h2 : fH, h2 = fu h1 285 z2 z4 → Q (-6) h2))) ∧ (a1 < 0 → ∀ z2 : Int, z2 = wr (-(-4)) → ∀ z3 : Int, z3 = h1 285 z2 → ∀ z4 : Int, z4 = wr (z3 + 1) → ∀ h2 : fH, h2 = fu h1 285 z2 z4 → Q (-4) h2))) (k0 : ∀ (x0 x1 x3 x4 x5 : Int) (h : fH), I0 x0 x1 x3 x4 x5 h → ((45 ≤ x5 → Q x3 h) ∧ (x5 < 45 → ∀ z5 : Int, z5 = xdiv x5 9 → ∀ z6 : Int, z6 = xrem x5 9 → ∀ h1 : fH, h1 = fu h 279 z5 z6 → ∀ (v2 : Int) (h2 : fH), fS 204 [x0, x1] h1 v2 h2 → ((v2 ≤ x4 → ((v2 ≤ x4 → ∀ z8 : Int, z8 = wr (x5 + 1) → I0 x0 x1 x3 x4 z8 h2) ∧ (x4 < v2 → ∀ z8 : Int, z8 = wr (x5 + 1) → I0 x0 x1 x3 v2 z8 h2))) ∧ (x4 < v2 → ∀ z8 : Int, z8 = xdiv x5 9 → ∀ z9 : Int, z9 = wr (10 * z8) → ∀ z10 : Int, z10 = xrem x5 9 → ∀ z11 : Int, z11 = wr (z9 + z10) → ((v2 ≤ x4 → ∀ z12 : Int, z12 = wr (x5 + 1) → I0 x0 x1 z11 x4 z12 h2) ∧ (x4 < v2 → ∀ z12 : Int, z12 = wr (x5 + 1) → I0 x0 x1 z11 v2 z12 h2))))))) : Q v h' := by
  refine x_mef vr_fix_k hs (fun k l h => match k with
    | 0 => (match l with | [x0, x1, x3, x4, x5] => I0 x0 x1 x3 x4 x5 h | _ => False)
    | _ => False) Q h0 ?_
  intro i Ti hT vals h hi
  match i, hT, hi with
  | 0, hT, hi =>
    cases hT
    match vals, hi with
    | [x0, x1, x3, x4, x5], hi => exact k0 _ _ _ _ _ _ hi
    | [], hi => exact False.elim hi
    | [_], hi => exact False.elim hi
    | [_, _], hi => exact False.elim hi
    | [_, _, _], hi => exact False.elim hi
    | [_, _, _, _], hi => exact False.elim hi
    | _ :: _ :: _ :: _ :: _ :: _ :: _, hi => exact False.elim hi
  | _ + 1, hT, _ => cases hT
def vr_preach_T : xT := [(2, [.inl 0, .inr 0], 16, 0), (8, [.inl 1, .inr 0], 18, 0), (10, [.inl 2, .inr 0], 2, 5), (9, [.inr (-1)], 0, 0), (1, [.inr 285, .inl 3], 0, 0), (8, [.inl 4, .inr 1], 0, 0), (3, [.inr 285, .inl 3, .inl 5], 0, 0), (11, [.inr (-1)], 0, 0), (8, [.inl 1, .inr 4], 18, 0), (10, [.inl 3, .inr 0], 4, 5), (9, [.inr (-1)], 0, 0), (1, [.inr 285, .inl 4], 0, 0),
  (8, [.inl 5, .inr 1], 0, 0), (3, [.inr 285, .inl 4, .inl 6], 0, 0), (11, [.inr (-1)], 0, 0), (12, [.inl 0, .inl 1, .inr (-9), .inr 0, .inr 0], 0, 0)]
def vr_preach_T0 : xT := [(0, [.inl 0], 0, 0), (10, [.inl 4, .inl 5], 3, 1), (11, [.inl 2], 0, 0), (13, [.inl 0, .inl 4], 213, 0), (13, [.inl 6], 199, 0), (8, [.inr 5, .inl 4], 2, 0), (8, [.inl 8, .inl 1], 0, 0), (8, [.inr 5, .inl 4], 2, 0), (8, [.inl 10, .inl 1], 0, 0), (1, [.inr 277, .inl 11], 0, 0), (8, [.inr 9, .inl 12], 1, 0), (3, [.inr 277, .inl 9, .inl 13], 0, 0),
  (13, [.inl 0, .inl 4], 213, 0), (13, [.inl 14], 199, 0), (8, [.inr 5, .inl 4], 2, 0), (8, [.inl 16, .inl 1], 0, 0), (8, [.inr 5, .inl 4], 2, 0), (8, [.inl 18, .inl 1], 0, 0), (1, [.inr 277, .inl 19], 0, 0), (8, [.inr 9, .inl 20], 1, 0), (3, [.inr 277, .inl 17, .inl 21], 0, 0), (10, [.inl 15, .inl 7], 5, 8), (10, [.inl 15, .inl 7], 5, 2), (8, [.inl 4, .inr 1], 0, 0),
  (12, [.inl 0, .inl 1, .inl 2, .inl 3, .inl 22], 0, 0), (10, [.inl 15, .inl 3], 5, 2), (8, [.inl 4, .inr 1], 0, 0), (12, [.inl 0, .inl 1, .inl 2, .inl 3, .inl 22], 0, 0), (8, [.inl 4, .inr 1], 0, 0), (12, [.inl 0, .inl 1, .inl 2, .inl 15, .inl 22], 0, 0), (10, [.inl 15, .inl 3], 5, 8), (10, [.inl 15, .inl 7], 5, 2), (8, [.inl 4, .inr 1], 0, 0), (12, [.inl 0, .inl 1, .inl 2, .inl 3, .inl 22], 0, 0), (10, [.inl 15, .inl 3], 5, 2), (8, [.inl 4, .inr 1], 0, 0),
  (12, [.inl 0, .inl 1, .inl 2, .inl 3, .inl 22], 0, 0), (8, [.inl 4, .inr 1], 0, 0), (12, [.inl 0, .inl 1, .inl 2, .inl 15, .inl 22], 0, 0), (10, [.inl 15, .inl 7], 5, 2), (8, [.inl 4, .inr 1], 0, 0), (12, [.inl 0, .inl 1, .inl 4, .inl 3, .inl 22], 0, 0), (10, [.inl 15, .inl 3], 5, 2), (8, [.inl 4, .inr 1], 0, 0), (12, [.inl 0, .inl 1, .inl 4, .inl 3, .inl 22], 0, 0), (8, [.inl 4, .inr 1], 0, 0), (12, [.inl 0, .inl 1, .inl 4, .inl 15, .inl 22], 0, 0)]
theorem vr_preach_k : x_chk 220 [(26, [(0, 0), (1, 0), (2, 0), (3, 0), (4, 0)])] vr_preach_T [vr_preach_T0] 600 = true := by decide +kernel
theorem vr_preach {a0 a1 v : Int} {h h' : fH} (hs : fS 220 [a0, a1] h v h') (I0 : Int → Int → Int → Int → Int → fH → Prop) (Q : Int → fH → Prop) (h0 : ∀ h1 : fH, h1 = fu h a0 16 0 → ∀ z2 : Int, z2 = xlcmp a1 0 → ((z2 < 0 → ∀ z3 : Int, z3 = wr (-(-1)) → ∀ z4 : Int, z4 = h1 285 z3 → ∀ z5 : Int, z5 = wr (z4 + 1) → ∀ h2 : fH, h2 = fu h1 285 z3 z5 → Q (-1) h2) ∧ (0 ≤ z2 → ∀ z3 : Int, z3 = xlcmp a1 4 → ((0 < z3 → ∀ z4 : Int, z4 = wr (-(-1)) → ∀ z5 : Int, z5 = h1 285 z4 → ∀ z6 : Int, z6 = wr (z5 + 1) → ∀ h2 : fH, h2 = fu h1 285 z4 z6 → Q (-1) h2) ∧ (z3 ≤ 0 → I0 a0 a1 (-9) 0 0 h1))))) (k0 : ∀ (x0 x1 x2 x3 x4 : Int) (h : fH), I0 x0 x1 x2 x3 x4 h → ∀ z5 : Int, z5 = h x0 0 → ((z5 ≤ x4 → Q x2 h) ∧ (x4 < z5 → ∀ (v1 : Int) (h1 : fH), fS 213 [x0, x4] h v1 h1 → ∀ (v2 : Int) (h2 : fH), fS 199 [v1] h1 v2 h2 → ∀ z8 : Int, z8 = wr (5 * x4) → ∀ z9 : Int, z9 = wr (z8 + x1) → ∀ z10 : Int, z10 = wr (5 * x4) → ∀ z11 : Int, z11 = wr (z10 + x1) → ∀ z12 : Int, z12 = h2 277 z11 → ∀ z13 : Int, z13 = wr (9 - z12) → ∀ h3 : fH, h3 = fu h2 277 z9 z13 → ∀ (v4 : Int) (h4 : fH), fS 213 [x0, x4] h3 v4 h4 → ∀ (v5 : Int) (h5 : fH), fS 199 [v4] h4 v5 h5 → ∀ z16 : Int, z16 = wr (5 * x4) → ∀ z17 : Int, z17 = wr (z16 + x1) → ∀ z18 : Int, z18 = wr (5 * x4) → ∀ z19 : Int, z19 = wr (z18 + x1) → ∀ z20 : Int, z20 = h5 277 z19 → ∀ z21 : Int, z21 = wr (9 - z20) → ∀ h6 : fH, h6 = fu h5 277 z17 z21 → ((v5 ≤ v2 → ((v5 ≤ v2 → ∀ z22 : Int, z22 = wr (x4 + 1) → I0 x0 x1 x2 x3 z22 h6) ∧ (v2 < v5 → ((v5 ≤ x3 → ∀ z22 : Int, z22 = wr (x4 + 1) → I0 x0 x1 x2 x3 z22 h6) ∧ (x3 < v5 → ∀ z22 : Int, z22 = wr (x4 + 1) → I0 x0 x1 x2 v5 z22 h6))))) ∧ (v2 < v5 → ((v5 ≤ x3 → ((v5 ≤ v2 → ∀ z22 : Int, z22 = wr (x4 + 1) → I0 x0 x1 x2 x3 z22 h6) ∧ (v2 < v5 → ((v5 ≤ x3 → ∀ z22 : Int, z22 = wr (x4 + 1) → I0 x0 x1 x2 x3 z22 h6) ∧ (x3 < v5 → ∀ z22 : Int, z22 = wr (x4 + 1) → I0 x0 x1 x2 v5 z22 h6))))) ∧ (x3 < v5 → ((v5 ≤ v2 → ∀ z22 : Int, z22 = wr (x4 + 1) → I0 x0 x1 x4 x3 z22 h6) ∧ (v2 < v5 → ((v5 ≤ x3 → ∀ z22 : Int, z22 = wr (x4 + 1) → I0 x0 x1 x4 x3 z22 h6) ∧ (x3 < v5 → ∀ z22 : Int, z22 = wr (x4 + 1) → I0 x0 x1 x4 v5 z22 h6))))))))))) : Q v h' := by
  refine x_mef vr_preach_k hs (fun k l h => match k with
    | 0 => (match l with | [x0, x1, x2, x3, x4] => I0 x0 x1 x2 x3 x4 h | _ => False)
    | _ => False) Q h0 ?_
  intro i Ti hT vals h hi
  match i, hT, hi with
  | 0, hT, hi =>
    cases hT
    match vals, hi with
    | [x0, x1, x2, x3, x4], hi => exact k0 _ _ _ _ _ _ hi
    | [], hi => exact False.elim hi
    | [_], hi => exact False.elim hi
    | [_, _], hi => exact False.elim hi
    | [_, _, _], hi => exact False.elim hi
    | [_, _, _, _], hi => exact False.elim hi
    | _ :: _ :: _ :: _ :: _ :: _ :: _, hi => exact False.elim hi
  | _ + 1, hT, _ => cases hT
def vr_fair_T : xT := [(2, [.inl 0, .inr 0], 16, 0), (8, [.inl 1, .inr 0], 18, 0), (10, [.inl 2, .inr 0], 2, 5), (9, [.inr (-2)], 0, 0), (1, [.inr 285, .inl 3], 0, 0), (8, [.inl 4, .inr 1], 0, 0), (3, [.inr 285, .inl 3, .inl 5], 0, 0), (11, [.inr (-2)], 0, 0), (8, [.inl 1, .inr 1], 18, 0), (10, [.inl 3, .inr 0], 4, 5), (9, [.inr (-2)], 0, 0), (1, [.inr 285, .inl 4], 0, 0),
  (8, [.inl 5, .inr 1], 0, 0), (3, [.inr 285, .inl 4, .inl 6], 0, 0), (11, [.inr (-2)], 0, 0), (12, [.inl 0, .inl 1, .inr 0, .inr 0, .inr 0], 0, 0)]
def vr_fair_T0 : xT := [(0, [.inl 0], 9, 0), (10, [.inl 4, .inl 5], 3, 3), (10, [.inl 1, .inr 0], 1, 1), (11, [.inl 3], 0, 0), (11, [.inl 2], 0, 0), (1, [.inr 282, .inl 4], 0, 0), (1, [.inr 280, .inl 4], 0, 0), (1, [.inr 283, .inl 4], 0, 0), (13, [.inl 0, .inl 7, .inl 6, .inl 8], 168, 0), (1, [.inr 281, .inl 4], 0, 0), (1, [.inr 283, .inl 4], 0, 0), (13, [.inl 0, .inl 10, .inl 6, .inl 11], 168, 0),
  (10, [.inl 9, .inl 12], 1, 14), (8, [.inl 2, .inr 0], 4, 0), (1, [.inr 283, .inl 4], 0, 0), (0, [.inl 0], 15, 0), (1, [.inr 284, .inl 4], 0, 0), (8, [.inl 15, .inl 16], 0, 0), (13, [.inl 0, .inl 6, .inl 14, .inl 17], 210, 0), (10, [.inl 18, .inr 0], 0, 3), (8, [.inl 3, .inr 0], 4, 0), (8, [.inl 4, .inr 1], 0, 0), (12, [.inl 0, .inl 1, .inl 13, .inl 19, .inl 20], 0, 0), (8, [.inr 1, .inl 4], 6, 0),
  (8, [.inl 3, .inl 19], 4, 0), (8, [.inl 4, .inr 1], 0, 0), (12, [.inl 0, .inl 1, .inl 13, .inl 20, .inl 21], 0, 0), (8, [.inr 1, .inl 4], 6, 0), (8, [.inl 2, .inl 13], 4, 0), (1, [.inr 283, .inl 4], 0, 0), (0, [.inl 0], 15, 0), (1, [.inr 284, .inl 4], 0, 0), (8, [.inl 16, .inl 17], 0, 0), (13, [.inl 0, .inl 6, .inl 15, .inl 18], 210, 0), (10, [.inl 19, .inr 0], 0, 3), (8, [.inl 3, .inr 0], 4, 0),
  (8, [.inl 4, .inr 1], 0, 0), (12, [.inl 0, .inl 1, .inl 14, .inl 20, .inl 21], 0, 0), (8, [.inr 1, .inl 4], 6, 0), (8, [.inl 3, .inl 20], 4, 0), (8, [.inl 4, .inr 1], 0, 0), (12, [.inl 0, .inl 1, .inl 14, .inl 21, .inl 22], 0, 0)]
theorem vr_fair_k : x_chk 221 [(29, [(0, 0), (1, 0), (2, 0), (3, 0), (4, 0)])] vr_fair_T [vr_fair_T0] 600 = true := by decide +kernel
theorem vr_fair {a0 a1 v : Int} {h h' : fH} (hs : fS 221 [a0, a1] h v h') (I0 : Int → Int → Int → Int → Int → fH → Prop) (Q : Int → fH → Prop) (h0 : ∀ h1 : fH, h1 = fu h a0 16 0 → ∀ z2 : Int, z2 = xlcmp a1 0 → ((z2 < 0 → ∀ z3 : Int, z3 = wr (-(-2)) → ∀ z4 : Int, z4 = h1 285 z3 → ∀ z5 : Int, z5 = wr (z4 + 1) → ∀ h2 : fH, h2 = fu h1 285 z3 z5 → Q (-2) h2) ∧ (0 ≤ z2 → ∀ z3 : Int, z3 = xlcmp a1 1 → ((0 < z3 → ∀ z4 : Int, z4 = wr (-(-2)) → ∀ z5 : Int, z5 = h1 285 z4 → ∀ z6 : Int, z6 = wr (z5 + 1) → ∀ h2 : fH, h2 = fu h1 285 z4 z6 → Q (-2) h2) ∧ (z3 ≤ 0 → I0 a0 a1 0 0 0 h1))))) (k0 : ∀ (x0 x1 x2 x3 x4 : Int) (h : fH), I0 x0 x1 x2 x3 x4 h → ∀ z5 : Int, z5 = h x0 9 → ((z5 ≤ x4 → ((x1 ≠ 0 → Q x3 h) ∧ (x1 = 0 → Q x2 h))) ∧ (x4 < z5 → ∀ z6 : Int, z6 = h 282 x4 → ∀ z7 : Int, z7 = h 280 x4 → ∀ z8 : Int, z8 = h 283 x4 → ∀ (v1 : Int) (h1 : fH), fS 168 [x0, z7, z6, z8] h v1 h1 → ∀ z10 : Int, z10 = h1 281 x4 → ∀ z11 : Int, z11 = h1 283 x4 → ∀ (v2 : Int) (h2 : fH), fS 168 [x0, z10, z6, z11] h1 v2 h2 → ((v1 ≠ v2 → ∀ z13 : Int, z13 = xor' x2 0 → ∀ z14 : Int, z14 = h2 283 x4 → ∀ z15 : Int, z15 = h2 x0 15 → ∀ z16 : Int, z16 = h2 284 x4 → ∀ z17 : Int, z17 = wr (z15 + z16) → ∀ (v3 : Int) (h3 : fH), fS 210 [x0, z6, z14, z17] h2 v3 h3 → ((v3 = 0 → ∀ z19 : Int, z19 = xor' x3 0 → ∀ z20 : Int, z20 = wr (x4 + 1) → I0 x0 x1 z13 z19 z20 h3) ∧ (v3 ≠ 0 → ∀ z19 : Int, z19 = xshl 1 x4 → ∀ z20 : Int, z20 = xor' x3 z19 → ∀ z21 : Int, z21 = wr (x4 + 1) → I0 x0 x1 z13 z20 z21 h3))) ∧ (v1 = v2 → ∀ z13 : Int, z13 = xshl 1 x4 → ∀ z14 : Int, z14 = xor' x2 z13 → ∀ z15 : Int, z15 = h2 283 x4 → ∀ z16 : Int, z16 = h2 x0 15 → ∀ z17 : Int, z17 = h2 284 x4 → ∀ z18 : Int, z18 = wr (z16 + z17) → ∀ (v3 : Int) (h3 : fH), fS 210 [x0, z6, z15, z18] h2 v3 h3 → ((v3 = 0 → ∀ z20 : Int, z20 = xor' x3 0 → ∀ z21 : Int, z21 = wr (x4 + 1) → I0 x0 x1 z14 z20 z21 h3) ∧ (v3 ≠ 0 → ∀ z20 : Int, z20 = xshl 1 x4 → ∀ z21 : Int, z21 = xor' x3 z20 → ∀ z22 : Int, z22 = wr (x4 + 1) → I0 x0 x1 z14 z21 z22 h3))))))) : Q v h' := by
  refine x_mef vr_fair_k hs (fun k l h => match k with
    | 0 => (match l with | [x0, x1, x2, x3, x4] => I0 x0 x1 x2 x3 x4 h | _ => False)
    | _ => False) Q h0 ?_
  intro i Ti hT vals h hi
  match i, hT, hi with
  | 0, hT, hi =>
    cases hT
    match vals, hi with
    | [x0, x1, x2, x3, x4], hi => exact k0 _ _ _ _ _ _ hi
    | [], hi => exact False.elim hi
    | [_], hi => exact False.elim hi
    | [_, _], hi => exact False.elim hi
    | [_, _, _], hi => exact False.elim hi
    | [_, _, _, _], hi => exact False.elim hi
    | _ :: _ :: _ :: _ :: _ :: _ :: _, hi => exact False.elim hi
  | _ + 1, hT, _ => cases hT
def vr_hedge_T : xT := [(2, [.inl 0, .inr 0], 16, 0), (10, [.inl 1, .inr 0], 2, 5), (9, [.inr (-4)], 0, 0), (1, [.inr 285, .inl 3], 0, 0), (8, [.inl 4, .inr 1], 0, 0), (3, [.inr 285, .inl 3, .inl 5], 0, 0), (11, [.inr (-4)], 0, 0), (10, [.inl 2, .inr 0], 3, 14), (10, [.inl 1, .inr 99], 4, 5), (9, [.inr (-6)], 0, 0), (1, [.inr 285, .inl 3], 0, 0), (8, [.inl 4, .inr 1], 0, 0),
  (3, [.inr 285, .inl 3, .inl 5], 0, 0), (11, [.inr (-6)], 0, 0), (10, [.inl 2, .inr 30], 5, 2), (13, [.inl 0, .inr 290, .inr 1], 159, 0), (12, [.inl 0, .inl 1, .inl 2, .inr (-9), .inr 9, .inr 0], 0, 0), (9, [.inr (-6)], 0, 0), (1, [.inr 285, .inl 3], 0, 0), (8, [.inl 4, .inr 1], 0, 0), (3, [.inr 285, .inl 3, .inl 5], 0, 0), (11, [.inr (-6)], 0, 0), (9, [.inr (-4)], 0, 0), (1, [.inr 285, .inl 3], 0, 0),
  (8, [.inl 4, .inr 1], 0, 0), (3, [.inr 285, .inl 3, .inl 5], 0, 0), (11, [.inr (-4)], 0, 0)]
def vr_hedge_T0 : xT := [(0, [.inl 0], 9, 0), (8, [.inr 1, .inl 6], 6, 0), (10, [.inl 5, .inl 7], 3, 1), (11, [.inl 3], 0, 0), (13, [.inl 5], 199, 0), (10, [.inl 8, .inl 4], 3, 2), (8, [.inl 5, .inr 1], 0, 0), (12, [.inl 0, .inl 1, .inl 2, .inl 3, .inl 4, .inl 9], 0, 0), (13, [.inl 0, .inl 5, .inl 2], 223, 0), (10, [.inl 9, .inl 1], 4, 2), (8, [.inl 5, .inr 1], 0, 0), (12, [.inl 0, .inl 1, .inl 2, .inl 3, .inl 4, .inl 10], 0, 0),
  (13, [.inl 5], 199, 0), (8, [.inl 5, .inr 1], 0, 0), (12, [.inl 0, .inl 1, .inl 2, .inl 5, .inl 10, .inl 11], 0, 0)]
theorem vr_hedge_k : x_chk 222 [(62, [(0, 0), (1, 0), (2, 0), (4, 0), (5, 0), (6, 0)])] vr_hedge_T [vr_hedge_T0] 600 = true := by decide +kernel
theorem vr_hedge {a0 a1 a2 v : Int} {h h' : fH} (hs : fS 222 [a0, a1, a2] h v h') (I0 : Int → Int → Int → Int → Int → Int → fH → Prop) (Q : Int → fH → Prop) (h0 : ∀ h1 : fH, h1 = fu h a0 16 0 → ((a1 < 0 → ∀ z3 : Int, z3 = wr (-(-4)) → ∀ z4 : Int, z4 = h1 285 z3 → ∀ z5 : Int, z5 = wr (z4 + 1) → ∀ h2 : fH, h2 = fu h1 285 z3 z5 → Q (-4) h2) ∧ (0 ≤ a1 → ((0 ≤ a2 → ((99 < a1 → ∀ z3 : Int, z3 = wr (-(-6)) → ∀ z4 : Int, z4 = h1 285 z3 → ∀ z5 : Int, z5 = wr (z4 + 1) → ∀ h2 : fH, h2 = fu h1 285 z3 z5 → Q (-6) h2) ∧ (a1 ≤ 99 → ((a2 ≤ 30 → ∀ (v2 : Int) (h2 : fH), fS 159 [a0, 290, 1] h1 v2 h2 → I0 a0 a1 a2 (-9) 9 0 h2) ∧ (30 < a2 → ∀ z3 : Int, z3 = wr (-(-6)) → ∀ z4 : Int, z4 = h1 285 z3 → ∀ z5 : Int, z5 = wr (z4 + 1) → ∀ h2 : fH, h2 = fu h1 285 z3 z5 → Q (-6) h2))))) ∧ (a2 < 0 → ∀ z3 : Int, z3 = wr (-(-4)) → ∀ z4 : Int, z4 = h1 285 z3 → ∀ z5 : Int, z5 = wr (z4 + 1) → ∀ h2 : fH, h2 = fu h1 285 z3 z5 → Q (-4) h2))))) (k0 : ∀ (x0 x1 x2 x4 x5 x6 : Int) (h : fH), I0 x0 x1 x2 x4 x5 x6 h → ∀ z6 : Int, z6 = h x0 9 → ∀ z7 : Int, z7 = xshl 1 z6 → ((z7 ≤ x6 → Q x4 h) ∧ (x6 < z7 → ∀ (v1 : Int) (h1 : fH), fS 199 [x6] h v1 h1 → ((x5 ≤ v1 → ∀ z9 : Int, z9 = wr (x6 + 1) → I0 x0 x1 x2 x4 x5 z9 h1) ∧ (v1 < x5 → ∀ (v2 : Int) (h2 : fH), fS 223 [x0, x6, x2] h1 v2 h2 → ((x1 < v2 → ∀ z10 : Int, z10 = wr (x6 + 1) → I0 x0 x1 x2 x4 x5 z10 h2) ∧ (v2 ≤ x1 → ∀ (v3 : Int) (h3 : fH), fS 199 [x6] h2 v3 h3 → ∀ z11 : Int, z11 = wr (x6 + 1) → I0 x0 x1 x2 x6 v3 z11 h3))))))) : Q v h' := by
  refine x_mef vr_hedge_k hs (fun k l h => match k with
    | 0 => (match l with | [x0, x1, x2, x4, x5, x6] => I0 x0 x1 x2 x4 x5 x6 h | _ => False)
    | _ => False) Q h0 ?_
  intro i Ti hT vals h hi
  match i, hT, hi with
  | 0, hT, hi =>
    cases hT
    match vals, hi with
    | [x0, x1, x2, x4, x5, x6], hi => exact k0 _ _ _ _ _ _ _ hi
    | [], hi => exact False.elim hi
    | [_], hi => exact False.elim hi
    | [_, _], hi => exact False.elim hi
    | [_, _, _], hi => exact False.elim hi
    | [_, _, _, _], hi => exact False.elim hi
    | [_, _, _, _, _], hi => exact False.elim hi
    | _ :: _ :: _ :: _ :: _ :: _ :: _ :: _, hi => exact False.elim hi
  | _ + 1, hT, _ => cases hT
def vr_tearsWithout_T : xT := [(0, [.inl 0], 9, 0), (8, [.inl 3, .inr 1], 1, 0), (12, [.inl 0, .inl 1, .inl 2, .inl 4], 0, 0)]
def vr_tearsWithout_T0 : xT := [(10, [.inl 3, .inr 0], 2, 4), (13, [.inl 0, .inl 2], 172, 0), (13, [.inl 0], 224, 0), (13, [.inl 0, .inr 290, .inr 0], 159, 0), (11, [.inl 5], 0, 0), (8, [.inl 1, .inl 3], 7, 0), (8, [.inl 4, .inr 1], 3, 0), (10, [.inl 5, .inr 1], 1, 2), (8, [.inl 3, .inr (-1)], 0, 0), (12, [.inl 0, .inl 1, .inl 2, .inl 6], 0, 0), (13, [.inl 0, .inl 3], 178, 0), (8, [.inl 3, .inr (-1)], 0, 0),
  (12, [.inl 0, .inl 1, .inl 2, .inl 7], 0, 0)]
theorem vr_tearsWithout_k : x_chk 223 [(7, [(0, 0), (1, 0), (2, 0), (3, 0)])] vr_tearsWithout_T [vr_tearsWithout_T0] 600 = true := by decide +kernel
theorem vr_tearsWithout {a0 a1 a2 v : Int} {h h' : fH} (hs : fS 223 [a0, a1, a2] h v h') (I0 : Int → Int → Int → Int → fH → Prop) (Q : Int → fH → Prop) (h0 : ∀ z3 : Int, z3 = h a0 9 → ∀ z4 : Int, z4 = wr (z3 - 1) → I0 a0 a1 a2 z4 h) (k0 : ∀ (x0 x1 x2 x3 : Int) (h : fH), I0 x0 x1 x2 x3 h → ((x3 < 0 → ∀ (v1 : Int) (h1 : fH), fS 172 [x0, x2] h v1 h1 → ∀ (v2 : Int) (h2 : fH), fS 224 [x0] h1 v2 h2 → ∀ (v3 : Int) (h3 : fH), fS 159 [x0, 290, 0] h2 v3 h3 → Q v2 h3) ∧ (0 ≤ x3 → ∀ z4 : Int, z4 = xshr x1 x3 → ∀ z5 : Int, z5 = xand z4 1 → ((z5 ≠ 1 → ∀ z6 : Int, z6 = wr (x3 + (-1)) → I0 x0 x1 x2 z6 h) ∧ (z5 = 1 → ∀ (v1 : Int) (h1 : fH), fS 178 [x0, x3] h v1 h1 → ∀ z7 : Int, z7 = wr (x3 + (-1)) → I0 x0 x1 x2 z7 h1))))) : Q v h' := by
  refine x_mef vr_tearsWithout_k hs (fun k l h => match k with
    | 0 => (match l with | [x0, x1, x2, x3] => I0 x0 x1 x2 x3 h | _ => False)
    | _ => False) Q h0 ?_
  intro i Ti hT vals h hi
  match i, hT, hi with
  | 0, hT, hi =>
    cases hT
    match vals, hi with
    | [x0, x1, x2, x3], hi => exact k0 _ _ _ _ _ hi
    | [], hi => exact False.elim hi
    | [_], hi => exact False.elim hi
    | [_, _], hi => exact False.elim hi
    | [_, _, _], hi => exact False.elim hi
    | _ :: _ :: _ :: _ :: _ :: _, hi => exact False.elim hi
  | _ + 1, hT, _ => cases hT
def vr_allTears_T : xT := [(12, [.inl 0, .inr 0, .inr 0], 0, 0)]
def vr_allTears_T0 : xT := [(0, [.inl 0], 0, 0), (10, [.inl 2, .inl 3], 3, 1), (11, [.inl 1], 0, 0), (1, [.inr 275, .inl 2], 0, 0), (8, [.inl 1, .inl 4], 0, 0), (8, [.inl 2, .inr 1], 0, 0), (12, [.inl 0, .inl 5, .inl 6], 0, 0)]
theorem vr_allTears_k : x_chk 224 [(4, [(0, 0), (1, 0), (2, 0)])] vr_allTears_T [vr_allTears_T0] 600 = true := by decide +kernel
theorem vr_allTears {a0 v : Int} {h h' : fH} (hs : fS 224 [a0] h v h') (I0 : Int → Int → Int → fH → Prop) (Q : Int → fH → Prop) (h0 : I0 a0 0 0 h) (k0 : ∀ (x0 x1 x2 : Int) (h : fH), I0 x0 x1 x2 h → ∀ z3 : Int, z3 = h x0 0 → ((z3 ≤ x2 → Q x1 h) ∧ (x2 < z3 → ∀ z4 : Int, z4 = h 275 x2 → ∀ z5 : Int, z5 = wr (x1 + z4) → ∀ z6 : Int, z6 = wr (x2 + 1) → I0 x0 z5 z6 h))) : Q v h' := by
  refine x_mef vr_allTears_k hs (fun k l h => match k with
    | 0 => (match l with | [x0, x1, x2] => I0 x0 x1 x2 h | _ => False)
    | _ => False) Q h0 ?_
  intro i Ti hT vals h hi
  match i, hT, hi with
  | 0, hT, hi =>
    cases hT
    match vals, hi with
    | [x0, x1, x2], hi => exact k0 _ _ _ _ hi
    | [], hi => exact False.elim hi
    | [_], hi => exact False.elim hi
    | [_, _], hi => exact False.elim hi
    | _ :: _ :: _ :: _ :: _, hi => exact False.elim hi
  | _ + 1, hT, _ => cases hT
def vr_uponWhat_T : xT := [(2, [.inl 0, .inr 0], 16, 0), (0, [.inl 0], 0, 0), (8, [.inl 3, .inr 1], 1, 0), (8, [.inl 1, .inr 0], 18, 0), (10, [.inl 5, .inr 0], 2, 5), (9, [.inr (-1)], 0, 0), (1, [.inr 285, .inl 6], 0, 0), (8, [.inl 7, .inr 1], 0, 0), (3, [.inr 285, .inl 6, .inl 8], 0, 0), (11, [.inr (-1)], 0, 0), (8, [.inl 1, .inl 4], 18, 0), (10, [.inl 6, .inr 0], 4, 5),
  (9, [.inr (-1)], 0, 0), (1, [.inr 285, .inl 7], 0, 0), (8, [.inl 8, .inr 1], 0, 0), (3, [.inr 285, .inl 7, .inl 9], 0, 0), (11, [.inr (-1)], 0, 0), (8, [.inl 2, .inr 0], 18, 0), (10, [.inl 7, .inr 0], 2, 5), (9, [.inr (-2)], 0, 0), (1, [.inr 285, .inl 8], 0, 0), (8, [.inl 9, .inr 1], 0, 0), (3, [.inr 285, .inl 8, .inl 10], 0, 0), (11, [.inr (-2)], 0, 0),
  (8, [.inl 2, .inr 1], 18, 0), (10, [.inl 8, .inr 0], 4, 5), (9, [.inr (-2)], 0, 0), (1, [.inr 285, .inl 9], 0, 0), (8, [.inl 10, .inr 1], 0, 0), (3, [.inr 285, .inl 9, .inl 11], 0, 0), (11, [.inr (-2)], 0, 0), (13, [.inl 0, .inl 1], 226, 0), (10, [.inl 9, .inr 0], 3, 2), (13, [.inl 0, .inr 290, .inr 1], 159, 0), (12, [.inl 0, .inl 1, .inl 2, .inl 9, .inr 0, .inr 0], 0, 0), (11, [.inr (-9)], 0, 0)]
def vr_uponWhat_T0 : xT := [(10, [.inl 2, .inr 0], 1, 50), (10, [.inl 5, .inr 2], 3, 1), (11, [.inl 4], 0, 0), (10, [.inl 2, .inr 0], 1, 24), (1, [.inr 282, .inl 3], 0, 0), (3, [.inr 282, .inl 3, .inl 6], 0, 0), (10, [.inl 2, .inr 1], 1, 11), (1, [.inr 283, .inl 3], 0, 0), (3, [.inr 283, .inl 3, .inl 7], 0, 0), (13, [.inl 0, .inl 1], 227, 0), (10, [.inl 8, .inr 0], 0, 3), (8, [.inl 4, .inr 0], 4, 0),
  (8, [.inl 5, .inr 1], 0, 0), (12, [.inl 0, .inl 1, .inl 2, .inl 3, .inl 9, .inl 10], 0, 0), (8, [.inr 1, .inl 5], 6, 0), (8, [.inl 4, .inl 9], 4, 0), (8, [.inl 5, .inr 1], 0, 0), (12, [.inl 0, .inl 1, .inl 2, .inl 3, .inl 10, .inl 11], 0, 0), (3, [.inr 283, .inl 3, .inl 5], 0, 0), (13, [.inl 0, .inl 1], 227, 0), (10, [.inl 7, .inr 0], 0, 3), (8, [.inl 4, .inr 0], 4, 0), (8, [.inl 5, .inr 1], 0, 0), (12, [.inl 0, .inl 1, .inl 2, .inl 3, .inl 8, .inl 9], 0, 0),
  (8, [.inr 1, .inl 5], 6, 0), (8, [.inl 4, .inl 8], 4, 0), (8, [.inl 5, .inr 1], 0, 0), (12, [.inl 0, .inl 1, .inl 2, .inl 3, .inl 9, .inl 10], 0, 0), (3, [.inr 282, .inl 3, .inl 5], 0, 0), (10, [.inl 2, .inr 1], 1, 11), (1, [.inr 283, .inl 3], 0, 0), (3, [.inr 283, .inl 3, .inl 6], 0, 0), (13, [.inl 0, .inl 1], 227, 0), (10, [.inl 7, .inr 0], 0, 3), (8, [.inl 4, .inr 0], 4, 0), (8, [.inl 5, .inr 1], 0, 0),
  (12, [.inl 0, .inl 1, .inl 2, .inl 3, .inl 8, .inl 9], 0, 0), (8, [.inr 1, .inl 5], 6, 0), (8, [.inl 4, .inl 8], 4, 0), (8, [.inl 5, .inr 1], 0, 0), (12, [.inl 0, .inl 1, .inl 2, .inl 3, .inl 9, .inl 10], 0, 0), (3, [.inr 283, .inl 3, .inl 5], 0, 0), (13, [.inl 0, .inl 1], 227, 0), (10, [.inl 6, .inr 0], 0, 3), (8, [.inl 4, .inr 0], 4, 0), (8, [.inl 5, .inr 1], 0, 0), (12, [.inl 0, .inl 1, .inl 2, .inl 3, .inl 7, .inl 8], 0, 0), (8, [.inr 1, .inl 5], 6, 0),
  (8, [.inl 4, .inl 7], 4, 0), (8, [.inl 5, .inr 1], 0, 0), (12, [.inl 0, .inl 1, .inl 2, .inl 3, .inl 8, .inl 9], 0, 0), (10, [.inl 5, .inr 5], 3, 1), (11, [.inl 4], 0, 0), (10, [.inl 2, .inr 0], 1, 24), (1, [.inr 282, .inl 3], 0, 0), (3, [.inr 282, .inl 3, .inl 6], 0, 0), (10, [.inl 2, .inr 1], 1, 11), (1, [.inr 283, .inl 3], 0, 0), (3, [.inr 283, .inl 3, .inl 7], 0, 0), (13, [.inl 0, .inl 1], 227, 0),
  (10, [.inl 8, .inr 0], 0, 3), (8, [.inl 4, .inr 0], 4, 0), (8, [.inl 5, .inr 1], 0, 0), (12, [.inl 0, .inl 1, .inl 2, .inl 3, .inl 9, .inl 10], 0, 0), (8, [.inr 1, .inl 5], 6, 0), (8, [.inl 4, .inl 9], 4, 0), (8, [.inl 5, .inr 1], 0, 0), (12, [.inl 0, .inl 1, .inl 2, .inl 3, .inl 10, .inl 11], 0, 0), (3, [.inr 283, .inl 3, .inl 5], 0, 0), (13, [.inl 0, .inl 1], 227, 0), (10, [.inl 7, .inr 0], 0, 3), (8, [.inl 4, .inr 0], 4, 0),
  (8, [.inl 5, .inr 1], 0, 0), (12, [.inl 0, .inl 1, .inl 2, .inl 3, .inl 8, .inl 9], 0, 0), (8, [.inr 1, .inl 5], 6, 0), (8, [.inl 4, .inl 8], 4, 0), (8, [.inl 5, .inr 1], 0, 0), (12, [.inl 0, .inl 1, .inl 2, .inl 3, .inl 9, .inl 10], 0, 0), (3, [.inr 282, .inl 3, .inl 5], 0, 0), (10, [.inl 2, .inr 1], 1, 11), (1, [.inr 283, .inl 3], 0, 0), (3, [.inr 283, .inl 3, .inl 6], 0, 0), (13, [.inl 0, .inl 1], 227, 0), (10, [.inl 7, .inr 0], 0, 3),
  (8, [.inl 4, .inr 0], 4, 0), (8, [.inl 5, .inr 1], 0, 0), (12, [.inl 0, .inl 1, .inl 2, .inl 3, .inl 8, .inl 9], 0, 0), (8, [.inr 1, .inl 5], 6, 0), (8, [.inl 4, .inl 8], 4, 0), (8, [.inl 5, .inr 1], 0, 0), (12, [.inl 0, .inl 1, .inl 2, .inl 3, .inl 9, .inl 10], 0, 0), (3, [.inr 283, .inl 3, .inl 5], 0, 0), (13, [.inl 0, .inl 1], 227, 0), (10, [.inl 6, .inr 0], 0, 3), (8, [.inl 4, .inr 0], 4, 0), (8, [.inl 5, .inr 1], 0, 0),
  (12, [.inl 0, .inl 1, .inl 2, .inl 3, .inl 7, .inl 8], 0, 0), (8, [.inr 1, .inl 5], 6, 0), (8, [.inl 4, .inl 7], 4, 0), (8, [.inl 5, .inr 1], 0, 0), (12, [.inl 0, .inl 1, .inl 2, .inl 3, .inl 8, .inl 9], 0, 0)]
theorem vr_uponWhat_k : x_chk 225 [(59, [(0, 0), (1, 0), (2, 0), (4, 0), (5, 0), (6, 0)])] vr_uponWhat_T [vr_uponWhat_T0] 600 = true := by decide +kernel
theorem vr_uponWhat {a0 a1 a2 v : Int} {h h' : fH} (hs : fS 225 [a0, a1, a2] h v h') (I0 : Int → Int → Int → Int → Int → Int → fH → Prop) (Q : Int → fH → Prop) (h0 : ∀ h1 : fH, h1 = fu h a0 16 0 → ∀ z3 : Int, z3 = h1 a0 0 → ∀ z4 : Int, z4 = wr (z3 - 1) → ∀ z5 : Int, z5 = xlcmp a1 0 → ((z5 < 0 → ∀ z6 : Int, z6 = wr (-(-1)) → ∀ z7 : Int, z7 = h1 285 z6 → ∀ z8 : Int, z8 = wr (z7 + 1) → ∀ h2 : fH, h2 = fu h1 285 z6 z8 → Q (-1) h2) ∧ (0 ≤ z5 → ∀ z6 : Int, z6 = xlcmp a1 z4 → ((0 < z6 → ∀ z7 : Int, z7 = wr (-(-1)) → ∀ z8 : Int, z8 = h1 285 z7 → ∀ z9 : Int, z9 = wr (z8 + 1) → ∀ h2 : fH, h2 = fu h1 285 z7 z9 → Q (-1) h2) ∧ (z6 ≤ 0 → ∀ z7 : Int, z7 = xlcmp a2 0 → ((z7 < 0 → ∀ z8 : Int, z8 = wr (-(-2)) → ∀ z9 : Int, z9 = h1 285 z8 → ∀ z10 : Int, z10 = wr (z9 + 1) → ∀ h2 : fH, h2 = fu h1 285 z8 z10 → Q (-2) h2) ∧ (0 ≤ z7 → ∀ z8 : Int, z8 = xlcmp a2 1 → ((0 < z8 → ∀ z9 : Int, z9 = wr (-(-2)) → ∀ z10 : Int, z10 = h1 285 z9 → ∀ z11 : Int, z11 = wr (z10 + 1) → ∀ h2 : fH, h2 = fu h1 285 z9 z11 → Q (-2) h2) ∧ (z8 ≤ 0 → ∀ (v2 : Int) (h2 : fH), fS 226 [a0, a1] h1 v2 h2 → ((0 ≤ v2 → ∀ (v3 : Int) (h3 : fH), fS 159 [a0, 290, 1] h2 v3 h3 → I0 a0 a1 a2 v2 0 0 h3) ∧ (v2 < 0 → Q (-9) h2))))))))))) (k0 : ∀ (x0 x1 x2 x4 x5 x6 : Int) (h : fH), I0 x0 x1 x2 x4 x5 x6 h → ((x2 ≠ 0 → ((2 ≤ x6 → Q x5 h) ∧ (x6 < 2 → ((x2 ≠ 0 → ∀ z6 : Int, z6 = h 282 x4 → ∀ h1 : fH, h1 = fu h 282 x4 z6 → ((x2 ≠ 1 → ∀ z7 : Int, z7 = h1 283 x4 → ∀ h2 : fH, h2 = fu h1 283 x4 z7 → ∀ (v3 : Int) (h3 : fH), fS 227 [x0, x1] h2 v3 h3 → ((v3 = 0 → ∀ z9 : Int, z9 = xor' x5 0 → ∀ z10 : Int, z10 = wr (x6 + 1) → I0 x0 x1 x2 x4 z9 z10 h3) ∧ (v3 ≠ 0 → ∀ z9 : Int, z9 = xshl 1 x6 → ∀ z10 : Int, z10 = xor' x5 z9 → ∀ z11 : Int, z11 = wr (x6 + 1) → I0 x0 x1 x2 x4 z10 z11 h3))) ∧ (x2 = 1 → ∀ h2 : fH, h2 = fu h1 283 x4 x6 → ∀ (v3 : Int) (h3 : fH), fS 227 [x0, x1] h2 v3 h3 → ((v3 = 0 → ∀ z8 : Int, z8 = xor' x5 0 → ∀ z9 : Int, z9 = wr (x6 + 1) → I0 x0 x1 x2 x4 z8 z9 h3) ∧ (v3 ≠ 0 → ∀ z8 : Int, z8 = xshl 1 x6 → ∀ z9 : Int, z9 = xor' x5 z8 → ∀ z10 : Int, z10 = wr (x6 + 1) → I0 x0 x1 x2 x4 z9 z10 h3))))) ∧ (x2 = 0 → ∀ h1 : fH, h1 = fu h 282 x4 x6 → ((x2 ≠ 1 → ∀ z6 : Int, z6 = h1 283 x4 → ∀ h2 : fH, h2 = fu h1 283 x4 z6 → ∀ (v3 : Int) (h3 : fH), fS 227 [x0, x1] h2 v3 h3 → ((v3 = 0 → ∀ z8 : Int, z8 = xor' x5 0 → ∀ z9 : Int, z9 = wr (x6 + 1) → I0 x0 x1 x2 x4 z8 z9 h3) ∧ (v3 ≠ 0 → ∀ z8 : Int, z8 = xshl 1 x6 → ∀ z9 : Int, z9 = xor' x5 z8 → ∀ z10 : Int, z10 = wr (x6 + 1) → I0 x0 x1 x2 x4 z9 z10 h3))) ∧ (x2 = 1 → ∀ h2 : fH, h2 = fu h1 283 x4 x6 → ∀ (v3 : Int) (h3 : fH), fS 227 [x0, x1] h2 v3 h3 → ((v3 = 0 → ∀ z7 : Int, z7 = xor' x5 0 → ∀ z8 : Int, z8 = wr (x6 + 1) → I0 x0 x1 x2 x4 z7 z8 h3) ∧ (v3 ≠ 0 → ∀ z7 : Int, z7 = xshl 1 x6 → ∀ z8 : Int, z8 = xor' x5 z7 → ∀ z9 : Int, z9 = wr (x6 + 1) → I0 x0 x1 x2 x4 z8 z9 h3))))))))) ∧ (x2 = 0 → ((5 ≤ x6 → Q x5 h) ∧ (x6 < 5 → ((x2 ≠ 0 → ∀ z6 : Int, z6 = h 282 x4 → ∀ h1 : fH, h1 = fu h 282 x4 z6 → ((x2 ≠ 1 → ∀ z7 : Int, z7 = h1 283 x4 → ∀ h2 : fH, h2 = fu h1 283 x4 z7 → ∀ (v3 : Int) (h3 : fH), fS 227 [x0, x1] h2 v3 h3 → ((v3 = 0 → ∀ z9 : Int, z9 = xor' x5 0 → ∀ z10 : Int, z10 = wr (x6 + 1) → I0 x0 x1 x2 x4 z9 z10 h3) ∧ (v3 ≠ 0 → ∀ z9 : Int, z9 = xshl 1 x6 → ∀ z10 : Int, z10 = xor' x5 z9 → ∀ z11 : Int, z11 = wr (x6 + 1) → I0 x0 x1 x2 x4 z10 z11 h3))) ∧ (x2 = 1 → ∀ h2 : fH, h2 = fu h1 283 x4 x6 → ∀ (v3 : Int) (h3 : fH), fS 227 [x0, x1] h2 v3 h3 → ((v3 = 0 → ∀ z8 : Int, z8 = xor' x5 0 → ∀ z9 : Int, z9 = wr (x6 + 1) → I0 x0 x1 x2 x4 z8 z9 h3) ∧ (v3 ≠ 0 → ∀ z8 : Int, z8 = xshl 1 x6 → ∀ z9 : Int, z9 = xor' x5 z8 → ∀ z10 : Int, z10 = wr (x6 + 1) → I0 x0 x1 x2 x4 z9 z10 h3))))) ∧ (x2 = 0 → ∀ h1 : fH, h1 = fu h 282 x4 x6 → ((x2 ≠ 1 → ∀ z6 : Int, z6 = h1 283 x4 → ∀ h2 : fH, h2 = fu h1 283 x4 z6 → ∀ (v3 : Int) (h3 : fH), fS 227 [x0, x1] h2 v3 h3 → ((v3 = 0 → ∀ z8 : Int, z8 = xor' x5 0 → ∀ z9 : Int, z9 = wr (x6 + 1) → I0 x0 x1 x2 x4 z8 z9 h3) ∧ (v3 ≠ 0 → ∀ z8 : Int, z8 = xshl 1 x6 → ∀ z9 : Int, z9 = xor' x5 z8 → ∀ z10 : Int, z10 = wr (x6 + 1) → I0 x0 x1 x2 x4 z9 z10 h3))) ∧ (x2 = 1 → ∀ h2 : fH, h2 = fu h1 283 x4 x6 → ∀ (v3 : Int) (h3 : fH), fS 227 [x0, x1] h2 v3 h3 → ((v3 = 0 → ∀ z7 : Int, z7 = xor' x5 0 → ∀ z8 : Int, z8 = wr (x6 + 1) → I0 x0 x1 x2 x4 z7 z8 h3) ∧ (v3 ≠ 0 → ∀ z7 : Int, z7 = xshl 1 x6 → ∀ z8 : Int, z8 = xor' x5 z7 → ∀ z9 : Int, z9 = wr (x6 + 1) → I0 x0 x1 x2 x4 z8 z9 h3))))))))))) : Q v h' := by
  refine x_mef vr_uponWhat_k hs (fun k l h => match k with
    | 0 => (match l with | [x0, x1, x2, x4, x5, x6] => I0 x0 x1 x2 x4 x5 x6 h | _ => False)
    | _ => False) Q h0 ?_
  intro i Ti hT vals h hi
  match i, hT, hi with
  | 0, hT, hi =>
    cases hT
    match vals, hi with
    | [x0, x1, x2, x4, x5, x6], hi => exact k0 _ _ _ _ _ _ _ hi
    | [], hi => exact False.elim hi
    | [_], hi => exact False.elim hi
    | [_, _], hi => exact False.elim hi
    | [_, _, _], hi => exact False.elim hi
    | [_, _, _, _], hi => exact False.elim hi
    | [_, _, _, _, _], hi => exact False.elim hi
    | _ :: _ :: _ :: _ :: _ :: _ :: _ :: _, hi => exact False.elim hi
  | _ + 1, hT, _ => cases hT
end
section
/-! the trees of the methods (made by a program) -/
def vr_wagerWith_T : xT := [(12, [.inl 0, .inl 1, .inr (-9), .inr 0], 0, 0)]
def vr_wagerWith_T0 : xT := [(0, [.inl 0], 9, 0), (10, [.inl 3, .inl 4], 3, 1), (11, [.inl 2], 0, 0), (1, [.inr 280, .inl 3], 0, 0), (10, [.inl 5, .inl 1], 0, 2), (8, [.inl 3, .inr 1], 0, 0), (12, [.inl 0, .inl 1, .inl 3, .inl 6], 0, 0), (1, [.inr 281, .inl 3], 0, 0), (10, [.inl 6, .inl 1], 1, 2), (8, [.inl 3, .inr 1], 0, 0), (12, [.inl 0, .inl 1, .inl 2, .inl 7], 0, 0), (8, [.inl 3, .inr 1], 0, 0),
  (12, [.inl 0, .inl 1, .inl 3, .inl 7], 0, 0)]
theorem vr_wagerWith_k : x_chk 226 [(5, [(0, 0), (1, 0), (2, 0), (3, 0)])] vr_wagerWith_T [vr_wagerWith_T0] 600 = true := by decide +kernel
theorem vr_wagerWith {a0 a1 v : Int} {h h' : fH} (hs : fS 226 [a0, a1] h v h') (I0 : Int → Int → Int → Int → fH → Prop) (Q : Int → fH → Prop) (h0 : I0 a0 a1 (-9) 0 h) (k0 : ∀ (x0 x1 x2 x3 : Int) (h : fH), I0 x0 x1 x2 x3 h → ∀ z4 : Int, z4 = h x0 9 → ((z4 ≤ x3 → Q x2 h) ∧ (x3 < z4 → ∀ z5 : Int, z5 = h 280 x3 → ((z5 = x1 → ∀ z6 : Int, z6 = wr (x3 + 1) → I0 x0 x1 x3 z6 h) ∧ (z5 ≠ x1 → ∀ z6 : Int, z6 = h 281 x3 → ((z6 ≠ x1 → ∀ z7 : Int, z7 = wr (x3 + 1) → I0 x0 x1 x2 z7 h) ∧ (z6 = x1 → ∀ z7 : Int, z7 = wr (x3 + 1) → I0 x0 x1 x3 z7 h))))))) : Q v h' := by
  refine x_mef vr_wagerWith_k hs (fun k l h => match k with
    | 0 => (match l with | [x0, x1, x2, x3] => I0 x0 x1 x2 x3 h | _ => False)
    | _ => False) Q h0 ?_
  intro i Ti hT vals h hi
  match i, hT, hi with
  | 0, hT, hi =>
    cases hT
    match vals, hi with
    | [x0, x1, x2, x3], hi => exact k0 _ _ _ _ _ hi
    | [], hi => exact False.elim hi
    | [_], hi => exact False.elim hi
    | [_, _], hi => exact False.elim hi
    | [_, _, _], hi => exact False.elim hi
    | _ :: _ :: _ :: _ :: _ :: _, hi => exact False.elim hi
  | _ + 1, hT, _ => cases hT
def vr_isRow_T : xT := [(12, [.inl 0, .inl 1, .inr 1, .inr 0], 0, 0)]
def vr_isRow_T0 : xT := [(0, [.inl 0], 38, 0), (10, [.inl 3, .inl 4], 3, 2), (13, [.inl 0, .inr 290, .inr 0], 159, 0), (11, [.inl 2], 0, 0), (10, [.inl 2, .inr 0], 0, 2), (13, [.inl 0, .inr 290, .inr 0], 159, 0), (11, [.inl 2], 0, 0), (1, [.inr 296, .inl 3], 0, 0), (1, [.inr 275, .inl 1], 0, 0), (10, [.inl 5, .inl 6], 1, 3), (13, [.inl 0, .inr 0], 173, 0), (8, [.inl 3, .inr 1], 0, 0),
  (12, [.inl 0, .inl 1, .inr 0, .inl 8], 0, 0), (13, [.inl 0, .inr 0], 173, 0), (8, [.inl 3, .inr 1], 0, 0), (12, [.inl 0, .inl 1, .inr 1, .inl 8], 0, 0)]
theorem vr_isRow_k : x_chk 227 [(4, [(0, 0), (1, 0), (2, 0), (3, 0)])] vr_isRow_T [vr_isRow_T0] 600 = true := by decide +kernel
theorem vr_isRow {a0 a1 v : Int} {h h' : fH} (hs : fS 227 [a0, a1] h v h') (I0 : Int → Int → Int → Int → fH → Prop) (Q : Int → fH → Prop) (h0 : I0 a0 a1 1 0 h) (k0 : ∀ (x0 x1 x2 x3 : Int) (h : fH), I0 x0 x1 x2 x3 h → ∀ z4 : Int, z4 = h x0 38 → ((z4 ≤ x3 → ∀ (v1 : Int) (h1 : fH), fS 159 [x0, 290, 0] h v1 h1 → Q x2 h1) ∧ (x3 < z4 → ((x2 = 0 → ∀ (v1 : Int) (h1 : fH), fS 159 [x0, 290, 0] h v1 h1 → Q x2 h1) ∧ (x2 ≠ 0 → ∀ z5 : Int, z5 = h 296 x3 → ∀ z6 : Int, z6 = h 275 x1 → ((z5 ≠ z6 → ∀ (v1 : Int) (h1 : fH), fS 173 [x0, 0] h v1 h1 → ∀ z8 : Int, z8 = wr (x3 + 1) → I0 x0 x1 0 z8 h1) ∧ (z5 = z6 → ∀ (v1 : Int) (h1 : fH), fS 173 [x0, 0] h v1 h1 → ∀ z8 : Int, z8 = wr (x3 + 1) → I0 x0 x1 1 z8 h1))))))) : Q v h' := by
  refine x_mef vr_isRow_k hs (fun k l h => match k with
    | 0 => (match l with | [x0, x1, x2, x3] => I0 x0 x1 x2 x3 h | _ => False)
    | _ => False) Q h0 ?_
  intro i Ti hT vals h hi
  match i, hT, hi with
  | 0, hT, hi =>
    cases hT
    match vals, hi with
    | [x0, x1, x2, x3], hi => exact k0 _ _ _ _ _ hi
    | [], hi => exact False.elim hi
    | [_], hi => exact False.elim hi
    | [_, _], hi => exact False.elim hi
    | [_, _, _], hi => exact False.elim hi
    | _ :: _ :: _ :: _ :: _ :: _, hi => exact False.elim hi
  | _ + 1, hT, _ => cases hT
def vr_whatKind_T : xT := [(2, [.inl 0, .inr 0], 16, 0), (0, [.inl 0], 0, 0), (8, [.inl 3, .inr 1], 1, 0), (8, [.inl 1, .inr 0], 18, 0), (10, [.inl 5, .inr 0], 2, 5), (9, [.inr (-1)], 0, 0), (1, [.inr 285, .inl 6], 0, 0), (8, [.inl 7, .inr 1], 0, 0), (3, [.inr 285, .inl 6, .inl 8], 0, 0), (11, [.inr (-1)], 0, 0), (8, [.inl 1, .inl 4], 18, 0), (10, [.inl 6, .inr 0], 4, 5),
  (9, [.inr (-1)], 0, 0), (1, [.inr 285, .inl 7], 0, 0), (8, [.inl 8, .inr 1], 0, 0), (3, [.inr 285, .inl 7, .inl 9], 0, 0), (11, [.inr (-1)], 0, 0), (8, [.inl 2, .inr 0], 18, 0), (10, [.inl 7, .inr 0], 2, 5), (9, [.inr (-2)], 0, 0), (1, [.inr 285, .inl 8], 0, 0), (8, [.inl 9, .inr 1], 0, 0), (3, [.inr 285, .inl 8, .inl 10], 0, 0), (11, [.inr (-2)], 0, 0),
  (8, [.inl 2, .inr 1], 18, 0), (10, [.inl 8, .inr 0], 4, 5), (9, [.inr (-2)], 0, 0), (1, [.inr 285, .inl 9], 0, 0), (8, [.inl 10, .inr 1], 0, 0), (3, [.inr 285, .inl 9, .inl 11], 0, 0), (11, [.inr (-2)], 0, 0), (13, [.inl 0, .inr 290, .inr 1], 159, 0), (12, [.inl 0, .inl 1, .inl 2, .inr 0, .inr 0], 0, 0)]
def vr_whatKind_T0 : xT := [(10, [.inl 2, .inr 0], 1, 50), (10, [.inl 4, .inr 10], 3, 1), (11, [.inl 3], 0, 0), (10, [.inl 2, .inr 0], 1, 24), (1, [.inr 272, .inl 1], 0, 0), (3, [.inr 272, .inl 1, .inl 5], 0, 0), (10, [.inl 2, .inr 1], 1, 11), (1, [.inr 273, .inl 1], 0, 0), (3, [.inr 273, .inl 1, .inl 6], 0, 0), (13, [.inl 0, .inl 1], 227, 0), (10, [.inl 7, .inr 0], 0, 3), (8, [.inl 3, .inr 0], 4, 0),
  (8, [.inl 4, .inr 1], 0, 0), (12, [.inl 0, .inl 1, .inl 2, .inl 8, .inl 9], 0, 0), (8, [.inr 1, .inl 4], 6, 0), (8, [.inl 3, .inl 8], 4, 0), (8, [.inl 4, .inr 1], 0, 0), (12, [.inl 0, .inl 1, .inl 2, .inl 9, .inl 10], 0, 0), (3, [.inr 273, .inl 1, .inl 4], 0, 0), (13, [.inl 0, .inl 1], 227, 0), (10, [.inl 6, .inr 0], 0, 3), (8, [.inl 3, .inr 0], 4, 0), (8, [.inl 4, .inr 1], 0, 0), (12, [.inl 0, .inl 1, .inl 2, .inl 7, .inl 8], 0, 0),
  (8, [.inr 1, .inl 4], 6, 0), (8, [.inl 3, .inl 7], 4, 0), (8, [.inl 4, .inr 1], 0, 0), (12, [.inl 0, .inl 1, .inl 2, .inl 8, .inl 9], 0, 0), (3, [.inr 272, .inl 1, .inl 4], 0, 0), (10, [.inl 2, .inr 1], 1, 11), (1, [.inr 273, .inl 1], 0, 0), (3, [.inr 273, .inl 1, .inl 5], 0, 0), (13, [.inl 0, .inl 1], 227, 0), (10, [.inl 6, .inr 0], 0, 3), (8, [.inl 3, .inr 0], 4, 0), (8, [.inl 4, .inr 1], 0, 0),
  (12, [.inl 0, .inl 1, .inl 2, .inl 7, .inl 8], 0, 0), (8, [.inr 1, .inl 4], 6, 0), (8, [.inl 3, .inl 7], 4, 0), (8, [.inl 4, .inr 1], 0, 0), (12, [.inl 0, .inl 1, .inl 2, .inl 8, .inl 9], 0, 0), (3, [.inr 273, .inl 1, .inl 4], 0, 0), (13, [.inl 0, .inl 1], 227, 0), (10, [.inl 5, .inr 0], 0, 3), (8, [.inl 3, .inr 0], 4, 0), (8, [.inl 4, .inr 1], 0, 0), (12, [.inl 0, .inl 1, .inl 2, .inl 6, .inl 7], 0, 0), (8, [.inr 1, .inl 4], 6, 0),
  (8, [.inl 3, .inl 6], 4, 0), (8, [.inl 4, .inr 1], 0, 0), (12, [.inl 0, .inl 1, .inl 2, .inl 7, .inl 8], 0, 0), (10, [.inl 4, .inr 6], 3, 1), (11, [.inl 3], 0, 0), (10, [.inl 2, .inr 0], 1, 24), (1, [.inr 272, .inl 1], 0, 0), (3, [.inr 272, .inl 1, .inl 5], 0, 0), (10, [.inl 2, .inr 1], 1, 11), (1, [.inr 273, .inl 1], 0, 0), (3, [.inr 273, .inl 1, .inl 6], 0, 0), (13, [.inl 0, .inl 1], 227, 0),
  (10, [.inl 7, .inr 0], 0, 3), (8, [.inl 3, .inr 0], 4, 0), (8, [.inl 4, .inr 1], 0, 0), (12, [.inl 0, .inl 1, .inl 2, .inl 8, .inl 9], 0, 0), (8, [.inr 1, .inl 4], 6, 0), (8, [.inl 3, .inl 8], 4, 0), (8, [.inl 4, .inr 1], 0, 0), (12, [.inl 0, .inl 1, .inl 2, .inl 9, .inl 10], 0, 0), (3, [.inr 273, .inl 1, .inl 4], 0, 0), (13, [.inl 0, .inl 1], 227, 0), (10, [.inl 6, .inr 0], 0, 3), (8, [.inl 3, .inr 0], 4, 0),
  (8, [.inl 4, .inr 1], 0, 0), (12, [.inl 0, .inl 1, .inl 2, .inl 7, .inl 8], 0, 0), (8, [.inr 1, .inl 4], 6, 0), (8, [.inl 3, .inl 7], 4, 0), (8, [.inl 4, .inr 1], 0, 0), (12, [.inl 0, .inl 1, .inl 2, .inl 8, .inl 9], 0, 0), (3, [.inr 272, .inl 1, .inl 4], 0, 0), (10, [.inl 2, .inr 1], 1, 11), (1, [.inr 273, .inl 1], 0, 0), (3, [.inr 273, .inl 1, .inl 5], 0, 0), (13, [.inl 0, .inl 1], 227, 0), (10, [.inl 6, .inr 0], 0, 3),
  (8, [.inl 3, .inr 0], 4, 0), (8, [.inl 4, .inr 1], 0, 0), (12, [.inl 0, .inl 1, .inl 2, .inl 7, .inl 8], 0, 0), (8, [.inr 1, .inl 4], 6, 0), (8, [.inl 3, .inl 7], 4, 0), (8, [.inl 4, .inr 1], 0, 0), (12, [.inl 0, .inl 1, .inl 2, .inl 8, .inl 9], 0, 0), (3, [.inr 273, .inl 1, .inl 4], 0, 0), (13, [.inl 0, .inl 1], 227, 0), (10, [.inl 5, .inr 0], 0, 3), (8, [.inl 3, .inr 0], 4, 0), (8, [.inl 4, .inr 1], 0, 0),
  (12, [.inl 0, .inl 1, .inl 2, .inl 6, .inl 7], 0, 0), (8, [.inr 1, .inl 4], 6, 0), (8, [.inl 3, .inl 6], 4, 0), (8, [.inl 4, .inr 1], 0, 0), (12, [.inl 0, .inl 1, .inl 2, .inl 7, .inl 8], 0, 0)]
theorem vr_whatKind_k : x_chk 228 [(44, [(0, 0), (1, 0), (2, 0), (4, 0), (5, 0)])] vr_whatKind_T [vr_whatKind_T0] 600 = true := by decide +kernel
theorem vr_whatKind {a0 a1 a2 v : Int} {h h' : fH} (hs : fS 228 [a0, a1, a2] h v h') (I0 : Int → Int → Int → Int → Int → fH → Prop) (Q : Int → fH → Prop) (h0 : ∀ h1 : fH, h1 = fu h a0 16 0 → ∀ z3 : Int, z3 = h1 a0 0 → ∀ z4 : Int, z4 = wr (z3 - 1) → ∀ z5 : Int, z5 = xlcmp a1 0 → ((z5 < 0 → ∀ z6 : Int, z6 = wr (-(-1)) → ∀ z7 : Int, z7 = h1 285 z6 → ∀ z8 : Int, z8 = wr (z7 + 1) → ∀ h2 : fH, h2 = fu h1 285 z6 z8 → Q (-1) h2) ∧ (0 ≤ z5 → ∀ z6 : Int, z6 = xlcmp a1 z4 → ((0 < z6 → ∀ z7 : Int, z7 = wr (-(-1)) → ∀ z8 : Int, z8 = h1 285 z7 → ∀ z9 : Int, z9 = wr (z8 + 1) → ∀ h2 : fH, h2 = fu h1 285 z7 z9 → Q (-1) h2) ∧ (z6 ≤ 0 → ∀ z7 : Int, z7 = xlcmp a2 0 → ((z7 < 0 → ∀ z8 : Int, z8 = wr (-(-2)) → ∀ z9 : Int, z9 = h1 285 z8 → ∀ z10 : Int, z10 = wr (z9 + 1) → ∀ h2 : fH, h2 = fu h1 285 z8 z10 → Q (-2) h2) ∧ (0 ≤ z7 → ∀ z8 : Int, z8 = xlcmp a2 1 → ((0 < z8 → ∀ z9 : Int, z9 = wr (-(-2)) → ∀ z10 : Int, z10 = h1 285 z9 → ∀ z11 : Int, z11 = wr (z10 + 1) → ∀ h2 : fH, h2 = fu h1 285 z9 z11 → Q (-2) h2) ∧ (z8 ≤ 0 → ∀ (v2 : Int) (h2 : fH), fS 159 [a0, 290, 1] h1 v2 h2 → I0 a0 a1 a2 0 0 h2))))))))) (k0 : ∀ (x0 x1 x2 x4 x5 : Int) (h : fH), I0 x0 x1 x2 x4 x5 h → ((x2 ≠ 0 → ((10 ≤ x5 → Q x4 h) ∧ (x5 < 10 → ((x2 ≠ 0 → ∀ z5 : Int, z5 = h 272 x1 → ∀ h1 : fH, h1 = fu h 272 x1 z5 → ((x2 ≠ 1 → ∀ z6 : Int, z6 = h1 273 x1 → ∀ h2 : fH, h2 = fu h1 273 x1 z6 → ∀ (v3 : Int) (h3 : fH), fS 227 [x0, x1] h2 v3 h3 → ((v3 = 0 → ∀ z8 : Int, z8 = xor' x4 0 → ∀ z9 : Int, z9 = wr (x5 + 1) → I0 x0 x1 x2 z8 z9 h3) ∧ (v3 ≠ 0 → ∀ z8 : Int, z8 = xshl 1 x5 → ∀ z9 : Int, z9 = xor' x4 z8 → ∀ z10 : Int, z10 = wr (x5 + 1) → I0 x0 x1 x2 z9 z10 h3))) ∧ (x2 = 1 → ∀ h2 : fH, h2 = fu h1 273 x1 x5 → ∀ (v3 : Int) (h3 : fH), fS 227 [x0, x1] h2 v3 h3 → ((v3 = 0 → ∀ z7 : Int, z7 = xor' x4 0 → ∀ z8 : Int, z8 = wr (x5 + 1) → I0 x0 x1 x2 z7 z8 h3) ∧ (v3 ≠ 0 → ∀ z7 : Int, z7 = xshl 1 x5 → ∀ z8 : Int, z8 = xor' x4 z7 → ∀ z9 : Int, z9 = wr (x5 + 1) → I0 x0 x1 x2 z8 z9 h3))))) ∧ (x2 = 0 → ∀ h1 : fH, h1 = fu h 272 x1 x5 → ((x2 ≠ 1 → ∀ z5 : Int, z5 = h1 273 x1 → ∀ h2 : fH, h2 = fu h1 273 x1 z5 → ∀ (v3 : Int) (h3 : fH), fS 227 [x0, x1] h2 v3 h3 → ((v3 = 0 → ∀ z7 : Int, z7 = xor' x4 0 → ∀ z8 : Int, z8 = wr (x5 + 1) → I0 x0 x1 x2 z7 z8 h3) ∧ (v3 ≠ 0 → ∀ z7 : Int, z7 = xshl 1 x5 → ∀ z8 : Int, z8 = xor' x4 z7 → ∀ z9 : Int, z9 = wr (x5 + 1) → I0 x0 x1 x2 z8 z9 h3))) ∧ (x2 = 1 → ∀ h2 : fH, h2 = fu h1 273 x1 x5 → ∀ (v3 : Int) (h3 : fH), fS 227 [x0, x1] h2 v3 h3 → ((v3 = 0 → ∀ z6 : Int, z6 = xor' x4 0 → ∀ z7 : Int, z7 = wr (x5 + 1) → I0 x0 x1 x2 z6 z7 h3) ∧ (v3 ≠ 0 → ∀ z6 : Int, z6 = xshl 1 x5 → ∀ z7 : Int, z7 = xor' x4 z6 → ∀ z8 : Int, z8 = wr (x5 + 1) → I0 x0 x1 x2 z7 z8 h3))))))))) ∧ (x2 = 0 → ((6 ≤ x5 → Q x4 h) ∧ (x5 < 6 → ((x2 ≠ 0 → ∀ z5 : Int, z5 = h 272 x1 → ∀ h1 : fH, h1 = fu h 272 x1 z5 → ((x2 ≠ 1 → ∀ z6 : Int, z6 = h1 273 x1 → ∀ h2 : fH, h2 = fu h1 273 x1 z6 → ∀ (v3 : Int) (h3 : fH), fS 227 [x0, x1] h2 v3 h3 → ((v3 = 0 → ∀ z8 : Int, z8 = xor' x4 0 → ∀ z9 : Int, z9 = wr (x5 + 1) → I0 x0 x1 x2 z8 z9 h3) ∧ (v3 ≠ 0 → ∀ z8 : Int, z8 = xshl 1 x5 → ∀ z9 : Int, z9 = xor' x4 z8 → ∀ z10 : Int, z10 = wr (x5 + 1) → I0 x0 x1 x2 z9 z10 h3))) ∧ (x2 = 1 → ∀ h2 : fH, h2 = fu h1 273 x1 x5 → ∀ (v3 : Int) (h3 : fH), fS 227 [x0, x1] h2 v3 h3 → ((v3 = 0 → ∀ z7 : Int, z7 = xor' x4 0 → ∀ z8 : Int, z8 = wr (x5 + 1) → I0 x0 x1 x2 z7 z8 h3) ∧ (v3 ≠ 0 → ∀ z7 : Int, z7 = xshl 1 x5 → ∀ z8 : Int, z8 = xor' x4 z7 → ∀ z9 : Int, z9 = wr (x5 + 1) → I0 x0 x1 x2 z8 z9 h3))))) ∧ (x2 = 0 → ∀ h1 : fH, h1 = fu h 272 x1 x5 → ((x2 ≠ 1 → ∀ z5 : Int, z5 = h1 273 x1 → ∀ h2 : fH, h2 = fu h1 273 x1 z5 → ∀ (v3 : Int) (h3 : fH), fS 227 [x0, x1] h2 v3 h3 → ((v3 = 0 → ∀ z7 : Int, z7 = xor' x4 0 → ∀ z8 : Int, z8 = wr (x5 + 1) → I0 x0 x1 x2 z7 z8 h3) ∧ (v3 ≠ 0 → ∀ z7 : Int, z7 = xshl 1 x5 → ∀ z8 : Int, z8 = xor' x4 z7 → ∀ z9 : Int, z9 = wr (x5 + 1) → I0 x0 x1 x2 z8 z9 h3))) ∧ (x2 = 1 → ∀ h2 : fH, h2 = fu h1 273 x1 x5 → ∀ (v3 : Int) (h3 : fH), fS 227 [x0, x1] h2 v3 h3 → ((v3 = 0 → ∀ z6 : Int, z6 = xor' x4 0 → ∀ z7 : Int, z7 = wr (x5 + 1) → I0 x0 x1 x2 z6 z7 h3) ∧ (v3 ≠ 0 → ∀ z6 : Int, z6 = xshl 1 x5 → ∀ z7 : Int, z7 = xor' x4 z6 → ∀ z8 : Int, z8 = wr (x5 + 1) → I0 x0 x1 x2 z7 z8 h3))))))))))) : Q v h' := by
  refine x_mef vr_whatKind_k hs (fun k l h => match k with
    | 0 => (match l with | [x0, x1, x2, x4, x5] => I0 x0 x1 x2 x4 x5 h | _ => False)
    | _ => False) Q h0 ?_
  intro i Ti hT vals h hi
  match i, hT, hi with
  | 0, hT, hi =>
    cases hT
    match vals, hi with
    | [x0, x1, x2, x4, x5], hi => exact k0 _ _ _ _ _ _ hi
    | [], hi => exact False.elim hi
    | [_], hi => exact False.elim hi
    | [_, _], hi => exact False.elim hi
    | [_, _, _], hi => exact False.elim hi
    | [_, _, _, _], hi => exact False.elim hi
    | _ :: _ :: _ :: _ :: _ :: _ :: _, hi => exact False.elim hi
  | _ + 1, hT, _ => cases hT
def vr_two_T : xT := [(2, [.inl 0, .inr 0], 16, 0), (0, [.inl 0], 0, 0), (8, [.inl 4, .inr 1], 1, 0), (8, [.inl 1, .inr 0], 18, 0), (10, [.inl 6, .inr 0], 2, 5), (9, [.inr (-1)], 0, 0), (1, [.inr 285, .inl 7], 0, 0), (8, [.inl 8, .inr 1], 0, 0), (3, [.inr 285, .inl 7, .inl 9], 0, 0), (11, [.inr (-1)], 0, 0), (8, [.inl 1, .inl 5], 18, 0), (10, [.inl 7, .inr 0], 4, 5),
  (9, [.inr (-1)], 0, 0), (1, [.inr 285, .inl 8], 0, 0), (8, [.inl 9, .inr 1], 0, 0), (3, [.inr 285, .inl 8, .inl 10], 0, 0), (11, [.inr (-1)], 0, 0), (0, [.inl 0], 0, 0), (8, [.inl 8, .inr 1], 1, 0), (8, [.inl 2, .inr 0], 18, 0), (10, [.inl 10, .inr 0], 2, 5), (9, [.inr (-1)], 0, 0), (1, [.inr 285, .inl 11], 0, 0), (8, [.inl 12, .inr 1], 0, 0),
  (3, [.inr 285, .inl 11, .inl 13], 0, 0), (11, [.inr (-1)], 0, 0), (8, [.inl 2, .inl 9], 18, 0), (10, [.inl 11, .inr 0], 4, 5), (9, [.inr (-1)], 0, 0), (1, [.inr 285, .inl 12], 0, 0), (8, [.inl 13, .inr 1], 0, 0), (3, [.inr 285, .inl 12, .inl 14], 0, 0), (11, [.inr (-1)], 0, 0), (10, [.inl 1, .inl 2], 0, 5), (9, [.inr (-1)], 0, 0), (1, [.inr 285, .inl 12], 0, 0),
  (8, [.inl 13, .inr 1], 0, 0), (3, [.inr 285, .inl 12, .inl 14], 0, 0), (11, [.inr (-1)], 0, 0), (8, [.inl 3, .inr 0], 18, 0), (10, [.inl 12, .inr 0], 2, 5), (9, [.inr (-1)], 0, 0), (1, [.inr 285, .inl 13], 0, 0), (8, [.inl 14, .inr 1], 0, 0), (3, [.inr 285, .inl 13, .inl 15], 0, 0), (11, [.inr (-1)], 0, 0), (8, [.inl 3, .inr 4], 18, 0), (10, [.inl 13, .inr 0], 4, 5),
  (9, [.inr (-1)], 0, 0), (1, [.inr 285, .inl 14], 0, 0), (8, [.inl 15, .inr 1], 0, 0), (3, [.inr 285, .inl 14, .inl 16], 0, 0), (11, [.inr (-1)], 0, 0), (13, [.inl 0, .inl 1], 167, 0), (10, [.inl 14, .inr 0], 0, 5), (9, [.inr (-3)], 0, 0), (1, [.inr 285, .inl 15], 0, 0), (8, [.inl 16, .inr 1], 0, 0), (3, [.inr 285, .inl 15, .inl 17], 0, 0), (11, [.inr (-3)], 0, 0),
  (13, [.inl 0, .inl 2], 167, 0), (10, [.inl 15, .inr 0], 1, 2), (13, [.inl 0, .inr 290, .inr 1], 159, 0), (12, [.inl 0, .inl 1, .inl 2, .inl 3, .inr 0], 0, 0), (9, [.inr (-3)], 0, 0), (1, [.inr 285, .inl 16], 0, 0), (8, [.inl 17, .inr 1], 0, 0), (3, [.inr 285, .inl 16, .inl 18], 0, 0), (11, [.inr (-3)], 0, 0)]
def vr_two_T0 : xT := [(10, [.inl 4, .inr 4], 3, 1), (12, [.inl 0, .inr 0], 1, 0), (8, [.inr 5, .inl 1], 2, 0), (8, [.inl 5, .inl 3], 0, 0), (8, [.inl 4, .inr 2], 9, 0), (8, [.inr 9, .inl 7], 2, 0), (3, [.inr 277, .inl 6, .inl 8], 0, 0), (8, [.inr 5, .inl 2], 2, 0), (8, [.inl 9, .inl 3], 0, 0), (8, [.inl 4, .inr 2], 10, 0), (8, [.inr 9, .inl 11], 2, 0), (3, [.inr 277, .inl 10, .inl 12], 0, 0),
  (13, [.inl 0, .inl 1, .inl 2, .inl 3, .inr 1], 166, 0), (10, [.inl 13, .inr 0], 0, 14), (8, [.inr 2, .inl 4], 2, 0), (8, [.inl 4, .inr 2], 9, 0), (8, [.inr 2, .inl 15], 2, 0), (8, [.inr 0, .inl 16], 1, 0), (3, [.inr 297, .inl 14, .inl 17], 0, 0), (8, [.inr 2, .inl 4], 2, 0), (8, [.inl 18, .inr 1], 0, 0), (8, [.inl 4, .inr 2], 10, 0), (8, [.inr 2, .inl 20], 2, 0), (8, [.inr 0, .inl 21], 1, 0),
  (3, [.inr 297, .inl 19, .inl 22], 0, 0), (13, [.inl 0, .inr 290, .inr 0], 159, 0), (8, [.inl 4, .inr 1], 0, 0), (12, [.inl 0, .inl 1, .inl 2, .inl 3, .inl 24], 0, 0), (0, [.inl 0], 15, 0), (8, [.inl 14, .inr 1], 0, 0), (13, [.inl 0, .inl 3, .inr 1, .inl 15], 210, 0), (10, [.inl 16, .inr 0], 0, 14), (8, [.inr 2, .inl 4], 2, 0), (8, [.inl 4, .inr 2], 9, 0), (8, [.inr 2, .inl 18], 2, 0), (8, [.inr 0, .inl 19], 1, 0),
  (3, [.inr 297, .inl 17, .inl 20], 0, 0), (8, [.inr 2, .inl 4], 2, 0), (8, [.inl 21, .inr 1], 0, 0), (8, [.inl 4, .inr 2], 10, 0), (8, [.inr 2, .inl 23], 2, 0), (8, [.inr 0, .inl 24], 1, 0), (3, [.inr 297, .inl 22, .inl 25], 0, 0), (13, [.inl 0, .inr 290, .inr 0], 159, 0), (8, [.inl 4, .inr 1], 0, 0), (12, [.inl 0, .inl 1, .inl 2, .inl 3, .inl 27], 0, 0), (8, [.inr 2, .inl 4], 2, 0), (8, [.inl 4, .inr 2], 9, 0),
  (8, [.inr 2, .inl 18], 2, 0), (8, [.inr 5, .inl 19], 1, 0), (3, [.inr 297, .inl 17, .inl 20], 0, 0), (8, [.inr 2, .inl 4], 2, 0), (8, [.inl 21, .inr 1], 0, 0), (8, [.inl 4, .inr 2], 10, 0), (8, [.inr 2, .inl 23], 2, 0), (8, [.inr 5, .inl 24], 1, 0), (3, [.inr 297, .inl 22, .inl 25], 0, 0), (13, [.inl 0, .inr 290, .inr 0], 159, 0), (8, [.inl 4, .inr 1], 0, 0), (12, [.inl 0, .inl 1, .inl 2, .inl 3, .inl 27], 0, 0)]
def vr_two_T1 : xT := [(10, [.inl 1, .inr 4], 3, 1), (11, [.inr (-9)], 0, 0), (8, [.inl 1, .inr 2], 9, 0), (8, [.inr 1, .inl 2], 1, 0), (8, [.inr 2, .inl 3], 2, 0), (8, [.inl 1, .inr 2], 10, 0), (8, [.inl 4, .inl 5], 0, 0), (8, [.inl 1, .inr 2], 9, 0), (8, [.inr 2, .inl 7], 2, 0), (8, [.inl 8, .inr 1], 0, 0), (8, [.inl 1, .inr 2], 10, 0), (8, [.inl 9, .inl 10], 1, 0),
  (8, [.inr 2, .inl 1], 2, 0), (1, [.inr 297, .inl 12], 0, 0), (8, [.inr 2, .inl 6], 2, 0), (1, [.inr 297, .inl 14], 0, 0), (10, [.inl 13, .inl 15], 2, 2), (8, [.inl 1, .inr 1], 0, 0), (12, [.inl 0, .inl 16], 1, 0), (8, [.inr 2, .inl 1], 2, 0), (8, [.inl 16, .inr 1], 0, 0), (1, [.inr 297, .inl 17], 0, 0), (8, [.inr 2, .inl 11], 2, 0), (8, [.inl 19, .inr 1], 0, 0),
  (1, [.inr 297, .inl 20], 0, 0), (10, [.inl 18, .inl 21], 2, 2), (8, [.inl 1, .inr 1], 0, 0), (12, [.inl 0, .inl 22], 1, 0), (8, [.inl 1, .inr 2], 9, 0), (8, [.inr 10, .inl 22], 2, 0), (8, [.inl 1, .inr 2], 10, 0), (8, [.inl 23, .inl 24], 0, 0), (11, [.inl 25], 0, 0)]
theorem vr_two_k : x_chk 229 [(77, [(0, 0), (1, 0), (2, 0), (3, 0), (5, 0)]), (201, [(0, 0), (5, 0)])] vr_two_T [vr_two_T0, vr_two_T1] 600 = true := by decide +kernel
theorem vr_two {a0 a1 a2 a3 v : Int} {h h' : fH} (hs : fS 229 [a0, a1, a2, a3] h v h') (I0 : Int → Int → Int → Int → Int → fH → Prop) (I1 : Int → Int → fH → Prop) (Q : Int → fH → Prop) (h0 : ∀ h1 : fH, h1 = fu h a0 16 0 → ∀ z4 : Int, z4 = h1 a0 0 → ∀ z5 : Int, z5 = wr (z4 - 1) → ∀ z6 : Int, z6 = xlcmp a1 0 → ((z6 < 0 → ∀ z7 : Int, z7 = wr (-(-1)) → ∀ z8 : Int, z8 = h1 285 z7 → ∀ z9 : Int, z9 = wr (z8 + 1) → ∀ h2 : fH, h2 = fu h1 285 z7 z9 → Q (-1) h2) ∧ (0 ≤ z6 → ∀ z7 : Int, z7 = xlcmp a1 z5 → ((0 < z7 → ∀ z8 : Int, z8 = wr (-(-1)) → ∀ z9 : Int, z9 = h1 285 z8 → ∀ z10 : Int, z10 = wr (z9 + 1) → ∀ h2 : fH, h2 = fu h1 285 z8 z10 → Q (-1) h2) ∧ (z7 ≤ 0 → ∀ z8 : Int, z8 = h1 a0 0 → ∀ z9 : Int, z9 = wr (z8 - 1) → ∀ z10 : Int, z10 = xlcmp a2 0 → ((z10 < 0 → ∀ z11 : Int, z11 = wr (-(-1)) → ∀ z12 : Int, z12 = h1 285 z11 → ∀ z13 : Int, z13 = wr (z12 + 1) → ∀ h2 : fH, h2 = fu h1 285 z11 z13 → Q (-1) h2) ∧ (0 ≤ z10 → ∀ z11 : Int, z11 = xlcmp a2 z9 → ((0 < z11 → ∀ z12 : Int, z12 = wr (-(-1)) → ∀ z13 : Int, z13 = h1 285 z12 → ∀ z14 : Int, z14 = wr (z13 + 1) → ∀ h2 : fH, h2 = fu h1 285 z12 z14 → Q (-1) h2) ∧ (z11 ≤ 0 → ((a1 = a2 → ∀ z12 : Int, z12 = wr (-(-1)) → ∀ z13 : Int, z13 = h1 285 z12 → ∀ z14 : Int, z14 = wr (z13 + 1) → ∀ h2 : fH, h2 = fu h1 285 z12 z14 → Q (-1) h2) ∧ (a1 ≠ a2 → ∀ z12 : Int, z12 = xlcmp a3 0 → ((z12 < 0 → ∀ z13 : Int, z13 = wr (-(-1)) → ∀ z14 : Int, z14 = h1 285 z13 → ∀ z15 : Int, z15 = wr (z14 + 1) → ∀ h2 : fH, h2 = fu h1 285 z13 z15 → Q (-1) h2) ∧ (0 ≤ z12 → ∀ z13 : Int, z13 = xlcmp a3 4 → ((0 < z13 → ∀ z14 : Int, z14 = wr (-(-1)) → ∀ z15 : Int, z15 = h1 285 z14 → ∀ z16 : Int, z16 = wr (z15 + 1) → ∀ h2 : fH, h2 = fu h1 285 z14 z16 → Q (-1) h2) ∧ (z13 ≤ 0 → ∀ (v2 : Int) (h2 : fH), fS 167 [a0, a1] h1 v2 h2 → ((v2 = 0 → ∀ z15 : Int, z15 = wr (-(-3)) → ∀ z16 : Int, z16 = h2 285 z15 → ∀ z17 : Int, z17 = wr (z16 + 1) → ∀ h3 : fH, h3 = fu h2 285 z15 z17 → Q (-3) h3) ∧ (v2 ≠ 0 → ∀ (v3 : Int) (h3 : fH), fS 167 [a0, a2] h2 v3 h3 → ((v3 ≠ 0 → ∀ (v4 : Int) (h4 : fH), fS 159 [a0, 290, 1] h3 v4 h4 → I0 a0 a1 a2 a3 0 h4) ∧ (v3 = 0 → ∀ z16 : Int, z16 = wr (-(-3)) → ∀ z17 : Int, z17 = h3 285 z16 → ∀ z18 : Int, z18 = wr (z17 + 1) → ∀ h4 : fH, h4 = fu h3 285 z16 z18 → Q (-3) h4))))))))))))))))))) (k0 : ∀ (x0 x1 x2 x3 x5 : Int) (h : fH), I0 x0 x1 x2 x3 x5 h → ((4 ≤ x5 → I1 x0 0 h) ∧ (x5 < 4 → ∀ z5 : Int, z5 = wr (5 * x1) → ∀ z6 : Int, z6 = wr (z5 + x3) → ∀ z7 : Int, z7 = xdiv x5 2 → ∀ z8 : Int, z8 = wr (9 * z7) → ∀ h1 : fH, h1 = fu h 277 z6 z8 → ∀ z9 : Int, z9 = wr (5 * x2) → ∀ z10 : Int, z10 = wr (z9 + x3) → ∀ z11 : Int, z11 = xrem x5 2 → ∀ z12 : Int, z12 = wr (9 * z11) → ∀ h2 : fH, h2 = fu h1 277 z10 z12 → ∀ (v3 : Int) (h3 : fH), fS 166 [x0, x1, x2, x3, 1] h2 v3 h3 → ((v3 = 0 → ∀ z14 : Int, z14 = wr (2 * x5) → ∀ z15 : Int, z15 = xdiv x5 2 → ∀ z16 : Int, z16 = wr (2 * z15) → ∀ z17 : Int, z17 = wr (0 - z16) → ∀ h4 : fH, h4 = fu h3 297 z14 z17 → ∀ z18 : Int, z18 = wr (2 * x5) → ∀ z19 : Int, z19 = wr (z18 + 1) → ∀ z20 : Int, z20 = xrem x5 2 → ∀ z21 : Int, z21 = wr (2 * z20) → ∀ z22 : Int, z22 = wr (0 - z21) → ∀ h5 : fH, h5 = fu h4 297 z19 z22 → ∀ (v6 : Int) (h6 : fH), fS 159 [x0, 290, 0] h5 v6 h6 → ∀ z24 : Int, z24 = wr (x5 + 1) → I0 x0 x1 x2 x3 z24 h6) ∧ (v3 ≠ 0 → ∀ z14 : Int, z14 = h3 x0 15 → ∀ z15 : Int, z15 = wr (z14 + 1) → ∀ (v4 : Int) (h4 : fH), fS 210 [x0, x3, 1, z15] h3 v4 h4 → ((v4 = 0 → ∀ z17 : Int, z17 = wr (2 * x5) → ∀ z18 : Int, z18 = xdiv x5 2 → ∀ z19 : Int, z19 = wr (2 * z18) → ∀ z20 : Int, z20 = wr (0 - z19) → ∀ h5 : fH, h5 = fu h4 297 z17 z20 → ∀ z21 : Int, z21 = wr (2 * x5) → ∀ z22 : Int, z22 = wr (z21 + 1) → ∀ z23 : Int, z23 = xrem x5 2 → ∀ z24 : Int, z24 = wr (2 * z23) → ∀ z25 : Int, z25 = wr (0 - z24) → ∀ h6 : fH, h6 = fu h5 297 z22 z25 → ∀ (v7 : Int) (h7 : fH), fS 159 [x0, 290, 0] h6 v7 h7 → ∀ z27 : Int, z27 = wr (x5 + 1) → I0 x0 x1 x2 x3 z27 h7) ∧ (v4 ≠ 0 → ∀ z17 : Int, z17 = wr (2 * x5) → ∀ z18 : Int, z18 = xdiv x5 2 → ∀ z19 : Int, z19 = wr (2 * z18) → ∀ z20 : Int, z20 = wr (5 - z19) → ∀ h5 : fH, h5 = fu h4 297 z17 z20 → ∀ z21 : Int, z21 = wr (2 * x5) → ∀ z22 : Int, z22 = wr (z21 + 1) → ∀ z23 : Int, z23 = xrem x5 2 → ∀ z24 : Int, z24 = wr (2 * z23) → ∀ z25 : Int, z25 = wr (5 - z24) → ∀ h6 : fH, h6 = fu h5 297 z22 z25 → ∀ (v7 : Int) (h7 : fH), fS 159 [x0, 290, 0] h6 v7 h7 → ∀ z27 : Int, z27 = wr (x5 + 1) → I0 x0 x1 x2 x3 z27 h7))))))) (k1 : ∀ (x0 x5 : Int) (h : fH), I1 x0 x5 h → ((4 ≤ x5 → Q (-9) h) ∧ (x5 < 4 → ∀ z2 : Int, z2 = xdiv x5 2 → ∀ z3 : Int, z3 = wr (1 - z2) → ∀ z4 : Int, z4 = wr (2 * z3) → ∀ z5 : Int, z5 = xrem x5 2 → ∀ z6 : Int, z6 = wr (z4 + z5) → ∀ z7 : Int, z7 = xdiv x5 2 → ∀ z8 : Int, z8 = wr (2 * z7) → ∀ z9 : Int, z9 = wr (z8 + 1) → ∀ z10 : Int, z10 = xrem x5 2 → ∀ z11 : Int, z11 = wr (z9 - z10) → ∀ z12 : Int, z12 = wr (2 * x5) → ∀ z13 : Int, z13 = h 297 z12 → ∀ z14 : Int, z14 = wr (2 * z6) → ∀ z15 : Int, z15 = h 297 z14 → ((z13 < z15 → ∀ z16 : Int, z16 = wr (x5 + 1) → I1 x0 z16 h) ∧ (z15 ≤ z13 → ∀ z16 : Int, z16 = wr (2 * x5) → ∀ z17 : Int, z17 = wr (z16 + 1) → ∀ z18 : Int, z18 = h 297 z17 → ∀ z19 : Int, z19 = wr (2 * z11) → ∀ z20 : Int, z20 = wr (z19 + 1) → ∀ z21 : Int, z21 = h 297 z20 → ((z18 < z21 → ∀ z22 : Int, z22 = wr (x5 + 1) → I1 x0 z22 h) ∧ (z21 ≤ z18 → ∀ z22 : Int, z22 = xdiv x5 2 → ∀ z23 : Int, z23 = wr (10 * z22) → ∀ z24 : Int, z24 = xrem x5 2 → ∀ z25 : Int, z25 = wr (z23 + z24) → Q z25 h))))))) : Q v h' := by
  refine x_mef vr_two_k hs (fun k l h => match k with
    | 0 => (match l with | [x0, x1, x2, x3, x5] => I0 x0 x1 x2 x3 x5 h | _ => False)
    | 1 => (match l with | [x0, x5] => I1 x0 x5 h | _ => False)
    | _ => False) Q h0 ?_
  intro i Ti hT vals h hi
  match i, hT, hi with
  | 0, hT, hi =>
    cases hT
    match vals, hi with
    | [x0, x1, x2, x3, x5], hi => exact k0 _ _ _ _ _ _ hi
    | [], hi => exact False.elim hi
    | [_], hi => exact False.elim hi
    | [_, _], hi => exact False.elim hi
    | [_, _, _], hi => exact False.elim hi
    | [_, _, _, _], hi => exact False.elim hi
    | _ :: _ :: _ :: _ :: _ :: _ :: _, hi => exact False.elim hi
  | 1, hT, hi =>
    cases hT
    match vals, hi with
    | [x0, x5], hi => exact k1 _ _ _ hi
    | [], hi => exact False.elim hi
    | [_], hi => exact False.elim hi
    | _ :: _ :: _ :: _, hi => exact False.elim hi
  | _ + 2, hT, _ => cases hT
def vr_sure_T : xT := [(2, [.inl 0, .inr 0], 16, 0), (0, [.inl 0], 0, 0), (8, [.inl 5, .inr 1], 1, 0), (8, [.inl 1, .inr 0], 18, 0), (10, [.inl 7, .inr 0], 2, 6), (9, [.inr (-1)], 0, 0), (1, [.inr 285, .inl 8], 0, 0), (8, [.inl 9, .inr 1], 0, 0), (3, [.inr 285, .inl 8, .inl 10], 0, 0), (8, [.inr 4000000000000000000, .inr (-1)], 14, 0), (11, [.inl 11], 0, 0), (8, [.inl 1, .inl 6], 18, 0),
  (10, [.inl 8, .inr 0], 4, 6), (9, [.inr (-1)], 0, 0), (1, [.inr 285, .inl 9], 0, 0), (8, [.inl 10, .inr 1], 0, 0), (3, [.inr 285, .inl 9, .inl 11], 0, 0), (8, [.inr 4000000000000000000, .inr (-1)], 14, 0), (11, [.inl 12], 0, 0), (10, [.inl 2, .inr 0], 2, 6), (9, [.inr (-4)], 0, 0), (1, [.inr 285, .inl 9], 0, 0), (8, [.inl 10, .inr 1], 0, 0), (3, [.inr 285, .inl 9, .inl 11], 0, 0),
  (8, [.inr 4000000000000000000, .inr (-4)], 14, 0), (11, [.inl 12], 0, 0), (10, [.inl 3, .inr 2], 3, 31), (10, [.inl 2, .inr 7], 4, 6), (9, [.inr (-6)], 0, 0), (1, [.inr 285, .inl 9], 0, 0), (8, [.inl 10, .inr 1], 0, 0), (3, [.inr 285, .inl 9, .inl 11], 0, 0), (8, [.inr 4000000000000000000, .inr (-6)], 14, 0), (11, [.inl 12], 0, 0), (10, [.inl 3, .inr 20], 5, 17), (8, [.inl 4, .inr 0], 18, 0),
  (10, [.inl 9, .inr 0], 2, 6), (9, [.inr (-2)], 0, 0), (1, [.inr 285, .inl 10], 0, 0), (8, [.inl 11, .inr 1], 0, 0), (3, [.inr 285, .inl 10, .inl 12], 0, 0), (8, [.inr 4000000000000000000, .inr (-2)], 14, 0), (11, [.inl 13], 0, 0), (8, [.inl 4, .inr 1], 18, 0), (10, [.inl 10, .inr 0], 4, 6), (9, [.inr (-2)], 0, 0), (1, [.inr 285, .inl 11], 0, 0), (8, [.inl 12, .inr 1], 0, 0),
  (3, [.inr 285, .inl 11, .inl 13], 0, 0), (8, [.inr 4000000000000000000, .inr (-2)], 14, 0), (11, [.inl 14], 0, 0), (12, [.inl 0, .inl 1, .inl 2, .inl 3, .inl 4, .inr 0, .inr 1, .inr 0], 0, 0), (9, [.inr (-6)], 0, 0), (1, [.inr 285, .inl 9], 0, 0), (8, [.inl 10, .inr 1], 0, 0), (3, [.inr 285, .inl 9, .inl 11], 0, 0), (8, [.inr 4000000000000000000, .inr (-6)], 14, 0), (11, [.inl 12], 0, 0), (9, [.inr (-4)], 0, 0), (1, [.inr 285, .inl 9], 0, 0),
  (8, [.inl 10, .inr 1], 0, 0), (3, [.inr 285, .inl 9, .inl 11], 0, 0), (8, [.inr 4000000000000000000, .inr (-4)], 14, 0), (11, [.inl 12], 0, 0)]
def vr_sure_T0 : xT := [(10, [.inl 7, .inl 2], 3, 2), (13, [.inl 0, .inr 290, .inr 1], 159, 0), (12, [.inl 0, .inl 1, .inl 2, .inl 3, .inl 4, .inl 5, .inl 6, .inr 0], 1, 0), (8, [.inl 6, .inl 3], 15, 0), (8, [.inl 7, .inr 1], 0, 0), (12, [.inl 0, .inl 1, .inl 2, .inl 3, .inl 4, .inl 5, .inl 8, .inl 9], 0, 0)]
def vr_sure_T1 : xT := [(8, [.inr 1, .inl 2], 6, 0), (10, [.inl 7, .inl 8], 3, 2), (13, [.inl 5, .inl 6, .inl 4], 231, 0), (11, [.inl 9], 0, 0), (12, [.inl 0, .inl 1, .inl 2, .inl 3, .inl 4, .inl 5, .inl 6, .inl 7, .inr 1, .inr 0], 2, 0)]
def vr_sure_T2 : xT := [(10, [.inl 9, .inl 2], 3, 10), (1, [.inr 276, .inl 1], 0, 0), (10, [.inl 10, .inr 0], 5, 4), (8, [.inl 5, .inr 0], 13, 0), (13, [.inl 0, .inr 290, .inr 0], 159, 0), (8, [.inl 7, .inr 1], 0, 0), (12, [.inl 0, .inl 1, .inl 2, .inl 3, .inl 4, .inl 11, .inl 6, .inl 13], 1, 0), (8, [.inl 5, .inl 8], 13, 0), (13, [.inl 0, .inr 290, .inr 0], 159, 0), (8, [.inl 7, .inr 1], 0, 0), (12, [.inl 0, .inl 1, .inl 2, .inl 3, .inl 4, .inl 11, .inl 6, .inl 13], 1, 0), (8, [.inl 7, .inl 9], 7, 0),
  (8, [.inl 10, .inr 1], 3, 0), (10, [.inl 11, .inr 1], 1, 11), (8, [.inl 3, .inr 1], 1, 0), (8, [.inl 8, .inl 12], 15, 0), (8, [.inl 7, .inl 9], 7, 0), (8, [.inl 14, .inr 1], 3, 0), (10, [.inl 15, .inr 1], 1, 3), (13, [.inl 0, .inr 0], 173, 0), (8, [.inl 9, .inr 1], 0, 0), (12, [.inl 0, .inl 1, .inl 2, .inl 3, .inl 4, .inl 5, .inl 6, .inl 7, .inl 13, .inl 17], 2, 0), (13, [.inl 0, .inr 1], 173, 0), (8, [.inl 9, .inr 1], 0, 0),
  (12, [.inl 0, .inl 1, .inl 2, .inl 3, .inl 4, .inl 5, .inl 6, .inl 7, .inl 13, .inl 17], 2, 0), (8, [.inl 8, .inr 1], 15, 0), (8, [.inl 7, .inl 9], 7, 0), (8, [.inl 13, .inr 1], 3, 0), (10, [.inl 14, .inr 1], 1, 3), (13, [.inl 0, .inr 0], 173, 0), (8, [.inl 9, .inr 1], 0, 0), (12, [.inl 0, .inl 1, .inl 2, .inl 3, .inl 4, .inl 5, .inl 6, .inl 7, .inl 12, .inl 16], 2, 0), (13, [.inl 0, .inr 1], 173, 0), (8, [.inl 9, .inr 1], 0, 0), (12, [.inl 0, .inl 1, .inl 2, .inl 3, .inl 4, .inl 5, .inl 6, .inl 7, .inl 12, .inl 16], 2, 0)]
theorem vr_sure_k : x_chk 230 [(90, [(0, 0), (1, 0), (2, 0), (3, 0), (4, 0), (6, 1), (8, 1), (10, 0)]), (116, [(0, 0), (1, 0), (2, 0), (3, 0), (4, 0), (6, 1), (8, 1), (10, 0)]), (130, [(0, 0), (1, 0), (2, 0), (3, 0), (4, 0), (6, 1), (8, 1), (10, 0), (11, 1), (13, 0)])] vr_sure_T [vr_sure_T0, vr_sure_T1, vr_sure_T2] 600 = true := by decide +kernel
theorem vr_sure {a0 a1 a2 a3 a4 v : Int} {h h' : fH} (hs : fS 230 [a0, a1, a2, a3, a4] h v h') (I0 : Int → Int → Int → Int → Int → Int → Int → Int → fH → Prop) (I1 : Int → Int → Int → Int → Int → Int → Int → Int → fH → Prop) (I2 : Int → Int → Int → Int → Int → Int → Int → Int → Int → Int → fH → Prop) (Q : Int → fH → Prop) (h0 : ∀ h1 : fH, h1 = fu h a0 16 0 → ∀ z5 : Int, z5 = h1 a0 0 → ∀ z6 : Int, z6 = wr (z5 - 1) → ∀ z7 : Int, z7 = xlcmp a1 0 → ((z7 < 0 → ∀ z8 : Int, z8 = wr (-(-1)) → ∀ z9 : Int, z9 = h1 285 z8 → ∀ z10 : Int, z10 = wr (z9 + 1) → ∀ h2 : fH, h2 = fu h1 285 z8 z10 → ∀ z11 : Int, z11 = wl (4000000000000000000 - (-1)) → Q z11 h2) ∧ (0 ≤ z7 → ∀ z8 : Int, z8 = xlcmp a1 z6 → ((0 < z8 → ∀ z9 : Int, z9 = wr (-(-1)) → ∀ z10 : Int, z10 = h1 285 z9 → ∀ z11 : Int, z11 = wr (z10 + 1) → ∀ h2 : fH, h2 = fu h1 285 z9 z11 → ∀ z12 : Int, z12 = wl (4000000000000000000 - (-1)) → Q z12 h2) ∧ (z8 ≤ 0 → ((a2 < 0 → ∀ z9 : Int, z9 = wr (-(-4)) → ∀ z10 : Int, z10 = h1 285 z9 → ∀ z11 : Int, z11 = wr (z10 + 1) → ∀ h2 : fH, h2 = fu h1 285 z9 z11 → ∀ z12 : Int, z12 = wl (4000000000000000000 - (-4)) → Q z12 h2) ∧ (0 ≤ a2 → ((2 ≤ a3 → ((7 < a2 → ∀ z9 : Int, z9 = wr (-(-6)) → ∀ z10 : Int, z10 = h1 285 z9 → ∀ z11 : Int, z11 = wr (z10 + 1) → ∀ h2 : fH, h2 = fu h1 285 z9 z11 → ∀ z12 : Int, z12 = wl (4000000000000000000 - (-6)) → Q z12 h2) ∧ (a2 ≤ 7 → ((a3 ≤ 20 → ∀ z9 : Int, z9 = xlcmp a4 0 → ((z9 < 0 → ∀ z10 : Int, z10 = wr (-(-2)) → ∀ z11 : Int, z11 = h1 285 z10 → ∀ z12 : Int, z12 = wr (z11 + 1) → ∀ h2 : fH, h2 = fu h1 285 z10 z12 → ∀ z13 : Int, z13 = wl (4000000000000000000 - (-2)) → Q z13 h2) ∧ (0 ≤ z9 → ∀ z10 : Int, z10 = xlcmp a4 1 → ((0 < z10 → ∀ z11 : Int, z11 = wr (-(-2)) → ∀ z12 : Int, z12 = h1 285 z11 → ∀ z13 : Int, z13 = wr (z12 + 1) → ∀ h2 : fH, h2 = fu h1 285 z11 z13 → ∀ z14 : Int, z14 = wl (4000000000000000000 - (-2)) → Q z14 h2) ∧ (z10 ≤ 0 → I0 a0 a1 a2 a3 a4 0 1 0 h1))))) ∧ (20 < a3 → ∀ z9 : Int, z9 = wr (-(-6)) → ∀ z10 : Int, z10 = h1 285 z9 → ∀ z11 : Int, z11 = wr (z10 + 1) → ∀ h2 : fH, h2 = fu h1 285 z9 z11 → ∀ z12 : Int, z12 = wl (4000000000000000000 - (-6)) → Q z12 h2))))) ∧ (a3 < 2 → ∀ z9 : Int, z9 = wr (-(-4)) → ∀ z10 : Int, z10 = h1 285 z9 → ∀ z11 : Int, z11 = wr (z10 + 1) → ∀ h2 : fH, h2 = fu h1 285 z9 z11 → ∀ z12 : Int, z12 = wl (4000000000000000000 - (-4)) → Q z12 h2))))))))) (k0 : ∀ (x0 x1 x2 x3 x4 x6 x8 x10 : Int) (h : fH), I0 x0 x1 x2 x3 x4 x6 x8 x10 h → ((x2 ≤ x10 → ∀ (v1 : Int) (h1 : fH), fS 159 [x0, 290, 1] h v1 h1 → I1 x0 x1 x2 x3 x4 x6 x8 0 h1) ∧ (x10 < x2 → ∀ z8 : Int, z8 = wl (x8 * x3) → ∀ z9 : Int, z9 = wr (x10 + 1) → I0 x0 x1 x2 x3 x4 x6 z8 z9 h))) (k1 : ∀ (x0 x1 x2 x3 x4 x6 x8 x10 : Int) (h : fH), I1 x0 x1 x2 x3 x4 x6 x8 x10 h → ∀ z8 : Int, z8 = xshl 1 x2 → ((z8 ≤ x10 → ∀ (v1 : Int) (h1 : fH), fS 231 [x6, x8, x4] h v1 h1 → Q v1 h1) ∧ (x10 < z8 → I2 x0 x1 x2 x3 x4 x6 x8 x10 1 0 h))) (k2 : ∀ (x0 x1 x2 x3 x4 x6 x8 x10 x11 x13 : Int) (h : fH), I2 x0 x1 x2 x3 x4 x6 x8 x10 x11 x13 h → ((x2 ≤ x13 → ∀ z10 : Int, z10 = h 276 x1 → ((z10 ≤ 0 → ∀ z11 : Int, z11 = wl (x6 + 0) → ∀ (v1 : Int) (h1 : fH), fS 159 [x0, 290, 0] h v1 h1 → ∀ z13 : Int, z13 = wr (x10 + 1) → I1 x0 x1 x2 x3 x4 z11 x8 z13 h1) ∧ (0 < z10 → ∀ z11 : Int, z11 = wl (x6 + x11) → ∀ (v1 : Int) (h1 : fH), fS 159 [x0, 290, 0] h v1 h1 → ∀ z13 : Int, z13 = wr (x10 + 1) → I1 x0 x1 x2 x3 x4 z11 x8 z13 h1))) ∧ (x13 < x2 → ∀ z10 : Int, z10 = xshr x10 x13 → ∀ z11 : Int, z11 = xand z10 1 → ((z11 ≠ 1 → ∀ z12 : Int, z12 = wr (x3 - 1) → ∀ z13 : Int, z13 = wl (x11 * z12) → ∀ z14 : Int, z14 = xshr x10 x13 → ∀ z15 : Int, z15 = xand z14 1 → ((z15 ≠ 1 → ∀ (v1 : Int) (h1 : fH), fS 173 [x0, 0] h v1 h1 → ∀ z17 : Int, z17 = wr (x13 + 1) → I2 x0 x1 x2 x3 x4 x6 x8 x10 z13 z17 h1) ∧ (z15 = 1 → ∀ (v1 : Int) (h1 : fH), fS 173 [x0, 1] h v1 h1 → ∀ z17 : Int, z17 = wr (x13 + 1) → I2 x0 x1 x2 x3 x4 x6 x8 x10 z13 z17 h1))) ∧ (z11 = 1 → ∀ z12 : Int, z12 = wl (x11 * 1) → ∀ z13 : Int, z13 = xshr x10 x13 → ∀ z14 : Int, z14 = xand z13 1 → ((z14 ≠ 1 → ∀ (v1 : Int) (h1 : fH), fS 173 [x0, 0] h v1 h1 → ∀ z16 : Int, z16 = wr (x13 + 1) → I2 x0 x1 x2 x3 x4 x6 x8 x10 z12 z16 h1) ∧ (z14 = 1 → ∀ (v1 : Int) (h1 : fH), fS 173 [x0, 1] h v1 h1 → ∀ z16 : Int, z16 = wr (x13 + 1) → I2 x0 x1 x2 x3 x4 x6 x8 x10 z12 z16 h1))))))) : Q v h' := by
  refine x_mef vr_sure_k hs (fun k l h => match k with
    | 0 => (match l with | [x0, x1, x2, x3, x4, x6, x8, x10] => I0 x0 x1 x2 x3 x4 x6 x8 x10 h | _ => False)
    | 1 => (match l with | [x0, x1, x2, x3, x4, x6, x8, x10] => I1 x0 x1 x2 x3 x4 x6 x8 x10 h | _ => False)
    | 2 => (match l with | [x0, x1, x2, x3, x4, x6, x8, x10, x11, x13] => I2 x0 x1 x2 x3 x4 x6 x8 x10 x11 x13 h | _ => False)
    | _ => False) Q h0 ?_
  intro i Ti hT vals h hi
  match i, hT, hi with
  | 0, hT, hi =>
    cases hT
    match vals, hi with
    | [x0, x1, x2, x3, x4, x6, x8, x10], hi => exact k0 _ _ _ _ _ _ _ _ _ hi
    | [], hi => exact False.elim hi
    | [_], hi => exact False.elim hi
    | [_, _], hi => exact False.elim hi
    | [_, _, _], hi => exact False.elim hi
    | [_, _, _, _], hi => exact False.elim hi
    | [_, _, _, _, _], hi => exact False.elim hi
    | [_, _, _, _, _, _], hi => exact False.elim hi
    | [_, _, _, _, _, _, _], hi => exact False.elim hi
    | _ :: _ :: _ :: _ :: _ :: _ :: _ :: _ :: _ :: _, hi => exact False.elim hi
  | 1, hT, hi =>
    cases hT
    match vals, hi with
    | [x0, x1, x2, x3, x4, x6, x8, x10], hi => exact k1 _ _ _ _ _ _ _ _ _ hi
    | [], hi => exact False.elim hi
    | [_], hi => exact False.elim hi
    | [_, _], hi => exact False.elim hi
    | [_, _, _], hi => exact False.elim hi
    | [_, _, _, _], hi => exact False.elim hi
    | [_, _, _, _, _], hi => exact False.elim hi
    | [_, _, _, _, _, _], hi => exact False.elim hi
    | [_, _, _, _, _, _, _], hi => exact False.elim hi
    | _ :: _ :: _ :: _ :: _ :: _ :: _ :: _ :: _ :: _, hi => exact False.elim hi
  | 2, hT, hi =>
    cases hT
    match vals, hi with
    | [x0, x1, x2, x3, x4, x6, x8, x10, x11, x13], hi => exact k2 _ _ _ _ _ _ _ _ _ _ _ hi
    | [], hi => exact False.elim hi
    | [_], hi => exact False.elim hi
    | [_, _], hi => exact False.elim hi
    | [_, _, _], hi => exact False.elim hi
    | [_, _, _, _], hi => exact False.elim hi
    | [_, _, _, _, _], hi => exact False.elim hi
    | [_, _, _, _, _, _], hi => exact False.elim hi
    | [_, _, _, _, _, _, _], hi => exact False.elim hi
    | [_, _, _, _, _, _, _, _], hi => exact False.elim hi
    | [_, _, _, _, _, _, _, _, _], hi => exact False.elim hi
    | _ :: _ :: _ :: _ :: _ :: _ :: _ :: _ :: _ :: _ :: _ :: _, hi => exact False.elim hi
  | _ + 3, hT, _ => cases hT
end
section
/-! the trees of the methods (made by a program) -/
def vr_partOf_T : xT := [(8, [.inl 0, .inr 0], 18, 0), (10, [.inl 3, .inr 0], 1, 6), (13, [.inl 0, .inl 1], 232, 0), (10, [.inl 2, .inr 0], 1, 2), (8, [.inl 1, .inl 4], 16, 0), (11, [.inl 5], 0, 0), (8, [.inl 0, .inl 4], 16, 0), (11, [.inl 5], 0, 0), (11, [.inl 2], 0, 0)]
theorem vr_partOf_k : x_chk 231 [] vr_partOf_T [] 600 = true := by decide +kernel
theorem vr_partOf {a0 a1 a2 v : Int} {h h' : fH} (hs : fS 231 [a0, a1, a2] h v h') (Q : Int → fH → Prop) (h0 : ∀ z3 : Int, z3 = xlcmp a0 0 → ((z3 ≠ 0 → ∀ (v1 : Int) (h1 : fH), fS 232 [a0, a1] h v1 h1 → ((a2 ≠ 0 → ∀ z5 : Int, z5 = xldiv a1 v1 → Q z5 h1) ∧ (a2 = 0 → ∀ z5 : Int, z5 = xldiv a0 v1 → Q z5 h1))) ∧ (z3 = 0 → Q a2 h))) : Q v h' := by
  exact x_mef vr_partOf_k hs (fun _ _ _ => False) Q h0 (fun i Ti hT => by cases hT)
def vr_divisor_T : xT := [(12, [.inl 0, .inl 1], 0, 0)]
def vr_divisor_T0 : xT := [(8, [.inl 1, .inr 0], 18, 0), (10, [.inl 2, .inr 0], 0, 1), (11, [.inl 0], 0, 0), (8, [.inl 0, .inl 1], 17, 0), (12, [.inl 1, .inl 3], 0, 0)]
theorem vr_divisor_k : x_chk 232 [(6, [(4, 1), (6, 1)])] vr_divisor_T [vr_divisor_T0] 600 = true := by decide +kernel
theorem vr_divisor {a0 a1 v : Int} {h h' : fH} (hs : fS 232 [a0, a1] h v h') (I0 : Int → Int → fH → Prop) (Q : Int → fH → Prop) (h0 : I0 a0 a1 h) (k0 : ∀ (x4 x6 : Int) (h : fH), I0 x4 x6 h → ∀ z2 : Int, z2 = xlcmp x6 0 → ((z2 = 0 → Q x4 h) ∧ (z2 ≠ 0 → ∀ z3 : Int, z3 = xlrem x4 x6 → I0 x6 z3 h))) : Q v h' := by
  refine x_mef vr_divisor_k hs (fun k l h => match k with
    | 0 => (match l with | [x4, x6] => I0 x4 x6 h | _ => False)
    | _ => False) Q h0 ?_
  intro i Ti hT vals h hi
  match i, hT, hi with
  | 0, hT, hi =>
    cases hT
    match vals, hi with
    | [x4, x6], hi => exact k0 _ _ _ hi
    | [], hi => exact False.elim hi
    | [_], hi => exact False.elim hi
    | _ :: _ :: _ :: _, hi => exact False.elim hi
  | _ + 1, hT, _ => cases hT
def vr_shares_T : xT := [(2, [.inl 0, .inr 0], 16, 0), (10, [.inl 1, .inr 1], 3, 27), (10, [.inl 1, .inr 9], 5, 21), (8, [.inl 2, .inr 0], 18, 0), (10, [.inl 3, .inr 0], 2, 5), (9, [.inr (-2)], 0, 0), (1, [.inr 285, .inl 4], 0, 0), (8, [.inl 5, .inr 1], 0, 0), (3, [.inr 285, .inl 4, .inl 6], 0, 0), (11, [.inr (-2)], 0, 0), (8, [.inl 2, .inr 1], 18, 0), (10, [.inl 4, .inr 0], 4, 5),
  (9, [.inr (-2)], 0, 0), (1, [.inr 285, .inl 5], 0, 0), (8, [.inl 6, .inr 1], 0, 0), (3, [.inr 285, .inl 5, .inl 7], 0, 0), (11, [.inr (-2)], 0, 0), (10, [.inl 2, .inr 0], 1, 3), (13, [.inl 0], 224, 0), (8, [.inl 5, .inl 1], 10, 0), (11, [.inl 6], 0, 0), (13, [.inl 0], 224, 0), (8, [.inl 5, .inl 1], 9, 0), (11, [.inl 6], 0, 0),
  (9, [.inr (-6)], 0, 0), (1, [.inr 285, .inl 3], 0, 0), (8, [.inl 4, .inr 1], 0, 0), (3, [.inr 285, .inl 3, .inl 5], 0, 0), (11, [.inr (-6)], 0, 0), (9, [.inr (-4)], 0, 0), (1, [.inr 285, .inl 3], 0, 0), (8, [.inl 4, .inr 1], 0, 0), (3, [.inr 285, .inl 3, .inl 5], 0, 0), (11, [.inr (-4)], 0, 0)]
theorem vr_shares_k : x_chk 233 [] vr_shares_T [] 600 = true := by decide +kernel
theorem vr_shares {a0 a1 a2 v : Int} {h h' : fH} (hs : fS 233 [a0, a1, a2] h v h') (Q : Int → fH → Prop) (h0 : ∀ h1 : fH, h1 = fu h a0 16 0 → ((1 ≤ a1 → ((a1 ≤ 9 → ∀ z3 : Int, z3 = xlcmp a2 0 → ((z3 < 0 → ∀ z4 : Int, z4 = wr (-(-2)) → ∀ z5 : Int, z5 = h1 285 z4 → ∀ z6 : Int, z6 = wr (z5 + 1) → ∀ h2 : fH, h2 = fu h1 285 z4 z6 → Q (-2) h2) ∧ (0 ≤ z3 → ∀ z4 : Int, z4 = xlcmp a2 1 → ((0 < z4 → ∀ z5 : Int, z5 = wr (-(-2)) → ∀ z6 : Int, z6 = h1 285 z5 → ∀ z7 : Int, z7 = wr (z6 + 1) → ∀ h2 : fH, h2 = fu h1 285 z5 z7 → Q (-2) h2) ∧ (z4 ≤ 0 → ((a2 ≠ 0 → ∀ (v2 : Int) (h2 : fH), fS 224 [a0] h1 v2 h2 → ∀ z6 : Int, z6 = xrem v2 a1 → Q z6 h2) ∧ (a2 = 0 → ∀ (v2 : Int) (h2 : fH), fS 224 [a0] h1 v2 h2 → ∀ z6 : Int, z6 = xdiv v2 a1 → Q z6 h2))))))) ∧ (9 < a1 → ∀ z3 : Int, z3 = wr (-(-6)) → ∀ z4 : Int, z4 = h1 285 z3 → ∀ z5 : Int, z5 = wr (z4 + 1) → ∀ h2 : fH, h2 = fu h1 285 z3 z5 → Q (-6) h2))) ∧ (a1 < 1 → ∀ z3 : Int, z3 = wr (-(-4)) → ∀ z4 : Int, z4 = h1 285 z3 → ∀ z5 : Int, z5 = wr (z4 + 1) → ∀ h2 : fH, h2 = fu h1 285 z3 z5 → Q (-4) h2))) : Q v h' := by
  exact x_mef vr_shares_k hs (fun _ _ _ => False) Q h0 (fun i Ti hT => by cases hT)
def vr_saddest_T : xT := [(2, [.inl 0, .inr 0], 16, 0), (10, [.inl 1, .inr 0], 0, 2), (13, [.inl 0], 235, 0), (11, [.inl 2], 0, 0), (10, [.inl 1, .inr 1], 0, 2), (13, [.inl 0, .inr 0], 236, 0), (11, [.inl 2], 0, 0), (10, [.inl 1, .inr 2], 0, 2), (13, [.inl 0], 238, 0), (11, [.inl 2], 0, 0), (9, [.inr (-2)], 0, 0), (1, [.inr 285, .inl 2], 0, 0),
  (8, [.inl 3, .inr 1], 0, 0), (3, [.inr 285, .inl 2, .inl 4], 0, 0), (11, [.inr (-2)], 0, 0)]
theorem vr_saddest_k : x_chk 234 [] vr_saddest_T [] 600 = true := by decide +kernel
theorem vr_saddest {a0 a1 v : Int} {h h' : fH} (hs : fS 234 [a0, a1] h v h') (Q : Int → fH → Prop) (h0 : ∀ h1 : fH, h1 = fu h a0 16 0 → ((a1 = 0 → ∀ (v2 : Int) (h2 : fH), fS 235 [a0] h1 v2 h2 → Q v2 h2) ∧ (a1 ≠ 0 → ((a1 = 1 → ∀ (v2 : Int) (h2 : fH), fS 236 [a0, 0] h1 v2 h2 → Q v2 h2) ∧ (a1 ≠ 1 → ((a1 = 2 → ∀ (v2 : Int) (h2 : fH), fS 238 [a0] h1 v2 h2 → Q v2 h2) ∧ (a1 ≠ 2 → ∀ z2 : Int, z2 = wr (-(-2)) → ∀ z3 : Int, z3 = h1 285 z2 → ∀ z4 : Int, z4 = wr (z3 + 1) → ∀ h2 : fH, h2 = fu h1 285 z2 z4 → Q (-2) h2))))))) : Q v h' := by
  exact x_mef vr_saddest_k hs (fun _ _ _ => False) Q h0 (fun i Ti hT => by cases hT)
def vr_saddestOne_T : xT := [(12, [.inl 0, .inr (-9), .inr 0], 0, 0)]
def vr_saddestOne_T0 : xT := [(0, [.inl 0], 0, 0), (10, [.inl 2, .inl 3], 3, 1), (11, [.inl 1], 0, 0), (10, [.inl 1, .inr 0], 2, 2), (8, [.inl 2, .inr 1], 0, 0), (12, [.inl 0, .inl 2, .inl 4], 0, 0), (1, [.inr 275, .inl 2], 0, 0), (1, [.inr 275, .inl 1], 0, 0), (10, [.inl 4, .inl 5], 5, 2), (8, [.inl 2, .inr 1], 0, 0), (12, [.inl 0, .inl 1, .inl 6], 0, 0), (8, [.inl 2, .inr 1], 0, 0),
  (12, [.inl 0, .inl 2, .inl 6], 0, 0)]
theorem vr_saddestOne_k : x_chk 235 [(5, [(0, 0), (1, 0), (2, 0)])] vr_saddestOne_T [vr_saddestOne_T0] 600 = true := by decide +kernel
theorem vr_saddestOne {a0 v : Int} {h h' : fH} (hs : fS 235 [a0] h v h') (I0 : Int → Int → Int → fH → Prop) (Q : Int → fH → Prop) (h0 : I0 a0 (-9) 0 h) (k0 : ∀ (x0 x1 x2 : Int) (h : fH), I0 x0 x1 x2 h → ∀ z3 : Int, z3 = h x0 0 → ((z3 ≤ x2 → Q x1 h) ∧ (x2 < z3 → ((x1 < 0 → ∀ z4 : Int, z4 = wr (x2 + 1) → I0 x0 x2 z4 h) ∧ (0 ≤ x1 → ∀ z4 : Int, z4 = h 275 x2 → ∀ z5 : Int, z5 = h 275 x1 → ((z4 ≤ z5 → ∀ z6 : Int, z6 = wr (x2 + 1) → I0 x0 x1 z6 h) ∧ (z5 < z4 → ∀ z6 : Int, z6 = wr (x2 + 1) → I0 x0 x2 z6 h))))))) : Q v h' := by
  refine x_mef vr_saddestOne_k hs (fun k l h => match k with
    | 0 => (match l with | [x0, x1, x2] => I0 x0 x1 x2 h | _ => False)
    | _ => False) Q h0 ?_
  intro i Ti hT vals h hi
  match i, hT, hi with
  | 0, hT, hi =>
    cases hT
    match vals, hi with
    | [x0, x1, x2], hi => exact k0 _ _ _ _ hi
    | [], hi => exact False.elim hi
    | [_], hi => exact False.elim hi
    | [_, _], hi => exact False.elim hi
    | _ :: _ :: _ :: _ :: _, hi => exact False.elim hi
  | _ + 1, hT, _ => cases hT
def vr_twosOf_T : xT := [(12, [.inl 0, .inl 1, .inr 0, .inr 0], 0, 0)]
def vr_twosOf_T0 : xT := [(0, [.inl 0], 0, 0), (10, [.inl 3, .inl 4], 3, 1), (11, [.inl 2], 0, 0), (8, [.inl 3, .inr 1], 0, 0), (12, [.inl 0, .inl 1, .inl 2, .inl 3, .inl 5], 1, 0)]
def vr_twosOf_T1 : xT := [(0, [.inl 0], 0, 0), (10, [.inl 4, .inl 5], 3, 2), (8, [.inl 3, .inr 1], 0, 0), (12, [.inl 0, .inl 1, .inl 2, .inl 6], 0, 0), (1, [.inr 274, .inl 3], 0, 0), (1, [.inr 274, .inl 4], 0, 0), (10, [.inl 6, .inl 7], 1, 27), (10, [.inl 1, .inr 2], 1, 23), (1, [.inr 274, .inl 3], 0, 0), (10, [.inl 8, .inl 4], 1, 3), (8, [.inl 2, .inr 0], 0, 0), (8, [.inl 4, .inr 1], 0, 0),
  (12, [.inl 0, .inl 1, .inl 9, .inl 3, .inl 10], 1, 0), (1, [.inr 274, .inl 4], 0, 0), (10, [.inl 9, .inl 3], 1, 3), (8, [.inl 2, .inr 0], 0, 0), (8, [.inl 4, .inr 1], 0, 0), (12, [.inl 0, .inl 1, .inl 10, .inl 3, .inl 11], 1, 0), (10, [.inl 1, .inr 0], 0, 3), (8, [.inl 2, .inr 1], 0, 0), (8, [.inl 4, .inr 1], 0, 0), (12, [.inl 0, .inl 1, .inl 10, .inl 3, .inl 11], 1, 0), (1, [.inr 276, .inl 3], 0, 0), (8, [.inl 4, .inr 1], 0, 0),
  (10, [.inl 10, .inl 11], 1, 3), (8, [.inl 2, .inr 0], 0, 0), (8, [.inl 4, .inr 1], 0, 0), (12, [.inl 0, .inl 1, .inl 12, .inl 3, .inl 13], 1, 0), (8, [.inl 2, .inr 1], 0, 0), (8, [.inl 4, .inr 1], 0, 0), (12, [.inl 0, .inl 1, .inl 12, .inl 3, .inl 13], 1, 0), (8, [.inl 2, .inr 0], 0, 0), (8, [.inl 4, .inr 1], 0, 0), (12, [.inl 0, .inl 1, .inl 8, .inl 3, .inl 9], 1, 0), (1, [.inr 274, .inl 3], 0, 0), (10, [.inl 8, .inl 3], 0, 27),
  (10, [.inl 1, .inr 2], 1, 23), (1, [.inr 274, .inl 3], 0, 0), (10, [.inl 9, .inl 4], 1, 3), (8, [.inl 2, .inr 0], 0, 0), (8, [.inl 4, .inr 1], 0, 0), (12, [.inl 0, .inl 1, .inl 10, .inl 3, .inl 11], 1, 0), (1, [.inr 274, .inl 4], 0, 0), (10, [.inl 10, .inl 3], 1, 3), (8, [.inl 2, .inr 0], 0, 0), (8, [.inl 4, .inr 1], 0, 0), (12, [.inl 0, .inl 1, .inl 11, .inl 3, .inl 12], 1, 0), (10, [.inl 1, .inr 0], 0, 3),
  (8, [.inl 2, .inr 1], 0, 0), (8, [.inl 4, .inr 1], 0, 0), (12, [.inl 0, .inl 1, .inl 11, .inl 3, .inl 12], 1, 0), (1, [.inr 276, .inl 3], 0, 0), (8, [.inl 4, .inr 1], 0, 0), (10, [.inl 11, .inl 12], 1, 3), (8, [.inl 2, .inr 0], 0, 0), (8, [.inl 4, .inr 1], 0, 0), (12, [.inl 0, .inl 1, .inl 13, .inl 3, .inl 14], 1, 0), (8, [.inl 2, .inr 1], 0, 0), (8, [.inl 4, .inr 1], 0, 0), (12, [.inl 0, .inl 1, .inl 13, .inl 3, .inl 14], 1, 0),
  (8, [.inl 2, .inr 0], 0, 0), (8, [.inl 4, .inr 1], 0, 0), (12, [.inl 0, .inl 1, .inl 9, .inl 3, .inl 10], 1, 0), (1, [.inr 274, .inl 3], 0, 0), (10, [.inl 9, .inl 4], 0, 27), (10, [.inl 1, .inr 2], 1, 23), (1, [.inr 274, .inl 3], 0, 0), (10, [.inl 10, .inl 4], 1, 3), (8, [.inl 2, .inr 0], 0, 0), (8, [.inl 4, .inr 1], 0, 0), (12, [.inl 0, .inl 1, .inl 11, .inl 3, .inl 12], 1, 0), (1, [.inr 274, .inl 4], 0, 0),
  (10, [.inl 11, .inl 3], 1, 3), (8, [.inl 2, .inr 0], 0, 0), (8, [.inl 4, .inr 1], 0, 0), (12, [.inl 0, .inl 1, .inl 12, .inl 3, .inl 13], 1, 0), (10, [.inl 1, .inr 0], 0, 3), (8, [.inl 2, .inr 1], 0, 0), (8, [.inl 4, .inr 1], 0, 0), (12, [.inl 0, .inl 1, .inl 12, .inl 3, .inl 13], 1, 0), (1, [.inr 276, .inl 3], 0, 0), (8, [.inl 4, .inr 1], 0, 0), (10, [.inl 12, .inl 13], 1, 3), (8, [.inl 2, .inr 0], 0, 0),
  (8, [.inl 4, .inr 1], 0, 0), (12, [.inl 0, .inl 1, .inl 14, .inl 3, .inl 15], 1, 0), (8, [.inl 2, .inr 1], 0, 0), (8, [.inl 4, .inr 1], 0, 0), (12, [.inl 0, .inl 1, .inl 14, .inl 3, .inl 15], 1, 0), (8, [.inl 2, .inr 0], 0, 0), (8, [.inl 4, .inr 1], 0, 0), (12, [.inl 0, .inl 1, .inl 10, .inl 3, .inl 11], 1, 0), (1, [.inr 274, .inl 3], 0, 0), (0, [.inl 0], 0, 0), (10, [.inl 10, .inl 11], 3, 27), (10, [.inl 1, .inr 2], 1, 23),
  (1, [.inr 274, .inl 3], 0, 0), (10, [.inl 12, .inl 4], 1, 3), (8, [.inl 2, .inr 0], 0, 0), (8, [.inl 4, .inr 1], 0, 0), (12, [.inl 0, .inl 1, .inl 13, .inl 3, .inl 14], 1, 0), (1, [.inr 274, .inl 4], 0, 0), (10, [.inl 13, .inl 3], 1, 3), (8, [.inl 2, .inr 0], 0, 0), (8, [.inl 4, .inr 1], 0, 0), (12, [.inl 0, .inl 1, .inl 14, .inl 3, .inl 15], 1, 0), (10, [.inl 1, .inr 0], 0, 3), (8, [.inl 2, .inr 1], 0, 0),
  (8, [.inl 4, .inr 1], 0, 0), (12, [.inl 0, .inl 1, .inl 14, .inl 3, .inl 15], 1, 0), (1, [.inr 276, .inl 3], 0, 0), (8, [.inl 4, .inr 1], 0, 0), (10, [.inl 14, .inl 15], 1, 3), (8, [.inl 2, .inr 0], 0, 0), (8, [.inl 4, .inr 1], 0, 0), (12, [.inl 0, .inl 1, .inl 16, .inl 3, .inl 17], 1, 0), (8, [.inl 2, .inr 1], 0, 0), (8, [.inl 4, .inr 1], 0, 0), (12, [.inl 0, .inl 1, .inl 16, .inl 3, .inl 17], 1, 0), (8, [.inl 2, .inr 0], 0, 0),
  (8, [.inl 4, .inr 1], 0, 0), (12, [.inl 0, .inl 1, .inl 12, .inl 3, .inl 13], 1, 0), (10, [.inl 1, .inr 2], 1, 23), (1, [.inr 274, .inl 3], 0, 0), (10, [.inl 12, .inl 4], 1, 3), (8, [.inl 2, .inr 0], 0, 0), (8, [.inl 4, .inr 1], 0, 0), (12, [.inl 0, .inl 1, .inl 13, .inl 3, .inl 14], 1, 0), (1, [.inr 274, .inl 4], 0, 0), (10, [.inl 13, .inl 3], 1, 3), (8, [.inl 2, .inr 0], 0, 0), (8, [.inl 4, .inr 1], 0, 0),
  (12, [.inl 0, .inl 1, .inl 14, .inl 3, .inl 15], 1, 0), (10, [.inl 1, .inr 0], 0, 3), (8, [.inl 2, .inr 1], 0, 0), (8, [.inl 4, .inr 1], 0, 0), (12, [.inl 0, .inl 1, .inl 14, .inl 3, .inl 15], 1, 0), (1, [.inr 276, .inl 3], 0, 0), (8, [.inl 4, .inr 1], 0, 0), (10, [.inl 14, .inl 15], 1, 3), (8, [.inl 2, .inr 0], 0, 0), (8, [.inl 4, .inr 1], 0, 0), (12, [.inl 0, .inl 1, .inl 16, .inl 3, .inl 17], 1, 0), (8, [.inl 2, .inr 1], 0, 0),
  (8, [.inl 4, .inr 1], 0, 0), (12, [.inl 0, .inl 1, .inl 16, .inl 3, .inl 17], 1, 0), (8, [.inl 2, .inr 1], 0, 0), (8, [.inl 4, .inr 1], 0, 0), (12, [.inl 0, .inl 1, .inl 12, .inl 3, .inl 13], 1, 0)]
theorem vr_twosOf_k : x_chk 236 [(4, [(0, 0), (1, 0), (2, 0), (3, 0)]), (17, [(0, 0), (1, 0), (2, 0), (3, 0), (4, 0)])] vr_twosOf_T [vr_twosOf_T0, vr_twosOf_T1] 600 = true := by decide +kernel
theorem vr_twosOf {a0 a1 v : Int} {h h' : fH} (hs : fS 236 [a0, a1] h v h') (I0 : Int → Int → Int → Int → fH → Prop) (I1 : Int → Int → Int → Int → Int → fH → Prop) (Q : Int → fH → Prop) (h0 : I0 a0 a1 0 0 h) (k0 : ∀ (x0 x1 x2 x3 : Int) (h : fH), I0 x0 x1 x2 x3 h → ∀ z4 : Int, z4 = h x0 0 → ((z4 ≤ x3 → Q x2 h) ∧ (x3 < z4 → ∀ z5 : Int, z5 = wr (x3 + 1) → I1 x0 x1 x2 x3 z5 h))) (k1 : ∀ (x0 x1 x2 x3 x4 : Int) (h : fH), I1 x0 x1 x2 x3 x4 h → ∀ z5 : Int, z5 = h x0 0 → ((z5 ≤ x4 → ∀ z6 : Int, z6 = wr (x3 + 1) → I0 x0 x1 x2 z6 h) ∧ (x4 < z5 → ∀ z6 : Int, z6 = h 274 x3 → ∀ z7 : Int, z7 = h 274 x4 → ((z6 ≠ z7 → ((x1 ≠ 2 → ∀ z8 : Int, z8 = h 274 x3 → ((z8 ≠ x4 → ∀ z9 : Int, z9 = wr (x2 + 0) → ∀ z10 : Int, z10 = wr (x4 + 1) → I1 x0 x1 z9 x3 z10 h) ∧ (z8 = x4 → ∀ z9 : Int, z9 = h 274 x4 → ((z9 ≠ x3 → ∀ z10 : Int, z10 = wr (x2 + 0) → ∀ z11 : Int, z11 = wr (x4 + 1) → I1 x0 x1 z10 x3 z11 h) ∧ (z9 = x3 → ((x1 = 0 → ∀ z10 : Int, z10 = wr (x2 + 1) → ∀ z11 : Int, z11 = wr (x4 + 1) → I1 x0 x1 z10 x3 z11 h) ∧ (x1 ≠ 0 → ∀ z10 : Int, z10 = h 276 x3 → ∀ z11 : Int, z11 = wr (x4 + 1) → ((z10 ≠ z11 → ∀ z12 : Int, z12 = wr (x2 + 0) → ∀ z13 : Int, z13 = wr (x4 + 1) → I1 x0 x1 z12 x3 z13 h) ∧ (z10 = z11 → ∀ z12 : Int, z12 = wr (x2 + 1) → ∀ z13 : Int, z13 = wr (x4 + 1) → I1 x0 x1 z12 x3 z13 h))))))))) ∧ (x1 = 2 → ∀ z8 : Int, z8 = wr (x2 + 0) → ∀ z9 : Int, z9 = wr (x4 + 1) → I1 x0 x1 z8 x3 z9 h))) ∧ (z6 = z7 → ∀ z8 : Int, z8 = h 274 x3 → ((z8 = x3 → ((x1 ≠ 2 → ∀ z9 : Int, z9 = h 274 x3 → ((z9 ≠ x4 → ∀ z10 : Int, z10 = wr (x2 + 0) → ∀ z11 : Int, z11 = wr (x4 + 1) → I1 x0 x1 z10 x3 z11 h) ∧ (z9 = x4 → ∀ z10 : Int, z10 = h 274 x4 → ((z10 ≠ x3 → ∀ z11 : Int, z11 = wr (x2 + 0) → ∀ z12 : Int, z12 = wr (x4 + 1) → I1 x0 x1 z11 x3 z12 h) ∧ (z10 = x3 → ((x1 = 0 → ∀ z11 : Int, z11 = wr (x2 + 1) → ∀ z12 : Int, z12 = wr (x4 + 1) → I1 x0 x1 z11 x3 z12 h) ∧ (x1 ≠ 0 → ∀ z11 : Int, z11 = h 276 x3 → ∀ z12 : Int, z12 = wr (x4 + 1) → ((z11 ≠ z12 → ∀ z13 : Int, z13 = wr (x2 + 0) → ∀ z14 : Int, z14 = wr (x4 + 1) → I1 x0 x1 z13 x3 z14 h) ∧ (z11 = z12 → ∀ z13 : Int, z13 = wr (x2 + 1) → ∀ z14 : Int, z14 = wr (x4 + 1) → I1 x0 x1 z13 x3 z14 h))))))))) ∧ (x1 = 2 → ∀ z9 : Int, z9 = wr (x2 + 0) → ∀ z10 : Int, z10 = wr (x4 + 1) → I1 x0 x1 z9 x3 z10 h))) ∧ (z8 ≠ x3 → ∀ z9 : Int, z9 = h 274 x3 → ((z9 = x4 → ((x1 ≠ 2 → ∀ z10 : Int, z10 = h 274 x3 → ((z10 ≠ x4 → ∀ z11 : Int, z11 = wr (x2 + 0) → ∀ z12 : Int, z12 = wr (x4 + 1) → I1 x0 x1 z11 x3 z12 h) ∧ (z10 = x4 → ∀ z11 : Int, z11 = h 274 x4 → ((z11 ≠ x3 → ∀ z12 : Int, z12 = wr (x2 + 0) → ∀ z13 : Int, z13 = wr (x4 + 1) → I1 x0 x1 z12 x3 z13 h) ∧ (z11 = x3 → ((x1 = 0 → ∀ z12 : Int, z12 = wr (x2 + 1) → ∀ z13 : Int, z13 = wr (x4 + 1) → I1 x0 x1 z12 x3 z13 h) ∧ (x1 ≠ 0 → ∀ z12 : Int, z12 = h 276 x3 → ∀ z13 : Int, z13 = wr (x4 + 1) → ((z12 ≠ z13 → ∀ z14 : Int, z14 = wr (x2 + 0) → ∀ z15 : Int, z15 = wr (x4 + 1) → I1 x0 x1 z14 x3 z15 h) ∧ (z12 = z13 → ∀ z14 : Int, z14 = wr (x2 + 1) → ∀ z15 : Int, z15 = wr (x4 + 1) → I1 x0 x1 z14 x3 z15 h))))))))) ∧ (x1 = 2 → ∀ z10 : Int, z10 = wr (x2 + 0) → ∀ z11 : Int, z11 = wr (x4 + 1) → I1 x0 x1 z10 x3 z11 h))) ∧ (z9 ≠ x4 → ∀ z10 : Int, z10 = h 274 x3 → ∀ z11 : Int, z11 = h x0 0 → ((z11 ≤ z10 → ((x1 ≠ 2 → ∀ z12 : Int, z12 = h 274 x3 → ((z12 ≠ x4 → ∀ z13 : Int, z13 = wr (x2 + 0) → ∀ z14 : Int, z14 = wr (x4 + 1) → I1 x0 x1 z13 x3 z14 h) ∧ (z12 = x4 → ∀ z13 : Int, z13 = h 274 x4 → ((z13 ≠ x3 → ∀ z14 : Int, z14 = wr (x2 + 0) → ∀ z15 : Int, z15 = wr (x4 + 1) → I1 x0 x1 z14 x3 z15 h) ∧ (z13 = x3 → ((x1 = 0 → ∀ z14 : Int, z14 = wr (x2 + 1) → ∀ z15 : Int, z15 = wr (x4 + 1) → I1 x0 x1 z14 x3 z15 h) ∧ (x1 ≠ 0 → ∀ z14 : Int, z14 = h 276 x3 → ∀ z15 : Int, z15 = wr (x4 + 1) → ((z14 ≠ z15 → ∀ z16 : Int, z16 = wr (x2 + 0) → ∀ z17 : Int, z17 = wr (x4 + 1) → I1 x0 x1 z16 x3 z17 h) ∧ (z14 = z15 → ∀ z16 : Int, z16 = wr (x2 + 1) → ∀ z17 : Int, z17 = wr (x4 + 1) → I1 x0 x1 z16 x3 z17 h))))))))) ∧ (x1 = 2 → ∀ z12 : Int, z12 = wr (x2 + 0) → ∀ z13 : Int, z13 = wr (x4 + 1) → I1 x0 x1 z12 x3 z13 h))) ∧ (z10 < z11 → ((x1 ≠ 2 → ∀ z12 : Int, z12 = h 274 x3 → ((z12 ≠ x4 → ∀ z13 : Int, z13 = wr (x2 + 0) → ∀ z14 : Int, z14 = wr (x4 + 1) → I1 x0 x1 z13 x3 z14 h) ∧ (z12 = x4 → ∀ z13 : Int, z13 = h 274 x4 → ((z13 ≠ x3 → ∀ z14 : Int, z14 = wr (x2 + 0) → ∀ z15 : Int, z15 = wr (x4 + 1) → I1 x0 x1 z14 x3 z15 h) ∧ (z13 = x3 → ((x1 = 0 → ∀ z14 : Int, z14 = wr (x2 + 1) → ∀ z15 : Int, z15 = wr (x4 + 1) → I1 x0 x1 z14 x3 z15 h) ∧ (x1 ≠ 0 → ∀ z14 : Int, z14 = h 276 x3 → ∀ z15 : Int, z15 = wr (x4 + 1) → ((z14 ≠ z15 → ∀ z16 : Int, z16 = wr (x2 + 0) → ∀ z17 : Int, z17 = wr (x4 + 1) → I1 x0 x1 z16 x3 z17 h) ∧ (z14 = z15 → ∀ z16 : Int, z16 = wr (x2 + 1) → ∀ z17 : Int, z17 = wr (x4 + 1) → I1 x0 x1 z16 x3 z17 h))))))))) ∧ (x1 = 2 → ∀ z12 : Int, z12 = wr (x2 + 1) → ∀ z13 : Int, z13 = wr (x4 + 1) → I1 x0 x1 z12 x3 z13 h))))))))))))) : Q v h' := by
  refine x_mef vr_twosOf_k hs (fun k l h => match k with
    | 0 => (match l with | [x0, x1, x2, x3] => I0 x0 x1 x2 x3 h | _ => False)
    | 1 => (match l with | [x0, x1, x2, x3, x4] => I1 x0 x1 x2 x3 x4 h | _ => False)
    | _ => False) Q h0 ?_
  intro i Ti hT vals h hi
  match i, hT, hi with
  | 0, hT, hi =>
    cases hT
    match vals, hi with
    | [x0, x1, x2, x3], hi => exact k0 _ _ _ _ _ hi
    | [], hi => exact False.elim hi
    | [_], hi => exact False.elim hi
    | [_, _], hi => exact False.elim hi
    | [_, _, _], hi => exact False.elim hi
    | _ :: _ :: _ :: _ :: _ :: _, hi => exact False.elim hi
  | 1, hT, hi =>
    cases hT
    match vals, hi with
    | [x0, x1, x2, x3, x4], hi => exact k1 _ _ _ _ _ _ hi
    | [], hi => exact False.elim hi
    | [_], hi => exact False.elim hi
    | [_, _], hi => exact False.elim hi
    | [_, _, _], hi => exact False.elim hi
    | [_, _, _, _], hi => exact False.elim hi
    | _ :: _ :: _ :: _ :: _ :: _ :: _, hi => exact False.elim hi
  | _ + 2, hT, _ => cases hT
def vr_freeBits_T : xT := [(12, [.inl 0, .inr 0, .inr 0], 0, 0)]
def vr_freeBits_T0 : xT := [(0, [.inl 0], 0, 0), (10, [.inl 2, .inl 3], 3, 1), (11, [.inl 1], 0, 0), (13, [.inl 0, .inl 2], 167, 0), (10, [.inl 4, .inr 0], 0, 3), (8, [.inl 1, .inr 0], 4, 0), (8, [.inl 2, .inr 1], 0, 0), (12, [.inl 0, .inl 5, .inl 6], 0, 0), (8, [.inr 1, .inl 2], 6, 0), (8, [.inl 1, .inl 5], 4, 0), (8, [.inl 2, .inr 1], 0, 0), (12, [.inl 0, .inl 6, .inl 7], 0, 0)]
theorem vr_freeBits_k : x_chk 238 [(4, [(0, 0), (1, 0), (2, 0)])] vr_freeBits_T [vr_freeBits_T0] 600 = true := by decide +kernel
theorem vr_freeBits {a0 v : Int} {h h' : fH} (hs : fS 238 [a0] h v h') (I0 : Int → Int → Int → fH → Prop) (Q : Int → fH → Prop) (h0 : I0 a0 0 0 h) (k0 : ∀ (x0 x1 x2 : Int) (h : fH), I0 x0 x1 x2 h → ∀ z3 : Int, z3 = h x0 0 → ((z3 ≤ x2 → Q x1 h) ∧ (x2 < z3 → ∀ (v1 : Int) (h1 : fH), fS 167 [x0, x2] h v1 h1 → ((v1 = 0 → ∀ z5 : Int, z5 = xor' x1 0 → ∀ z6 : Int, z6 = wr (x2 + 1) → I0 x0 z5 z6 h1) ∧ (v1 ≠ 0 → ∀ z5 : Int, z5 = xshl 1 x2 → ∀ z6 : Int, z6 = xor' x1 z5 → ∀ z7 : Int, z7 = wr (x2 + 1) → I0 x0 z6 z7 h1))))) : Q v h' := by
  refine x_mef vr_freeBits_k hs (fun k l h => match k with
    | 0 => (match l with | [x0, x1, x2] => I0 x0 x1 x2 h | _ => False)
    | _ => False) Q h0 ?_
  intro i Ti hT vals h hi
  match i, hT, hi with
  | 0, hT, hi =>
    cases hT
    match vals, hi with
    | [x0, x1, x2], hi => exact k0 _ _ _ _ hi
    | [], hi => exact False.elim hi
    | [_], hi => exact False.elim hi
    | [_, _], hi => exact False.elim hi
    | _ :: _ :: _ :: _ :: _, hi => exact False.elim hi
  | _ + 1, hT, _ => cases hT
def vr_wished_T : xT := [(2, [.inl 0, .inr 0], 16, 0), (0, [.inl 0], 0, 0), (8, [.inl 2, .inr 1], 1, 0), (8, [.inl 1, .inr 0], 18, 0), (10, [.inl 4, .inr 0], 2, 5), (9, [.inr (-1)], 0, 0), (1, [.inr 285, .inl 5], 0, 0), (8, [.inl 6, .inr 1], 0, 0), (3, [.inr 285, .inl 5, .inl 7], 0, 0), (11, [.inr (-1)], 0, 0), (8, [.inl 1, .inl 3], 18, 0), (10, [.inl 5, .inr 0], 4, 5),
  (9, [.inr (-1)], 0, 0), (1, [.inr 285, .inl 6], 0, 0), (8, [.inl 7, .inr 1], 0, 0), (3, [.inr 285, .inl 6, .inl 8], 0, 0), (11, [.inr (-1)], 0, 0), (12, [.inl 0, .inl 1, .inr 0, .inr 0], 0, 0)]
def vr_wished_T0 : xT := [(0, [.inl 0], 0, 0), (10, [.inl 3, .inl 4], 3, 1), (11, [.inl 2], 0, 0), (10, [.inl 3, .inl 1], 0, 3), (8, [.inl 2, .inr 0], 0, 0), (8, [.inl 3, .inr 1], 0, 0), (12, [.inl 0, .inl 1, .inl 5, .inl 6], 0, 0), (1, [.inr 274, .inl 3], 0, 0), (10, [.inl 5, .inl 1], 1, 3), (8, [.inl 2, .inr 0], 0, 0), (8, [.inl 3, .inr 1], 0, 0), (12, [.inl 0, .inl 1, .inl 6, .inl 7], 0, 0),
  (8, [.inl 2, .inr 1], 0, 0), (8, [.inl 3, .inr 1], 0, 0), (12, [.inl 0, .inl 1, .inl 6, .inl 7], 0, 0)]
theorem vr_wished_k : x_chk 239 [(23, [(0, 0), (1, 0), (2, 0), (3, 0)])] vr_wished_T [vr_wished_T0] 600 = true := by decide +kernel
theorem vr_wished {a0 a1 v : Int} {h h' : fH} (hs : fS 239 [a0, a1] h v h') (I0 : Int → Int → Int → Int → fH → Prop) (Q : Int → fH → Prop) (h0 : ∀ h1 : fH, h1 = fu h a0 16 0 → ∀ z2 : Int, z2 = h1 a0 0 → ∀ z3 : Int, z3 = wr (z2 - 1) → ∀ z4 : Int, z4 = xlcmp a1 0 → ((z4 < 0 → ∀ z5 : Int, z5 = wr (-(-1)) → ∀ z6 : Int, z6 = h1 285 z5 → ∀ z7 : Int, z7 = wr (z6 + 1) → ∀ h2 : fH, h2 = fu h1 285 z5 z7 → Q (-1) h2) ∧ (0 ≤ z4 → ∀ z5 : Int, z5 = xlcmp a1 z3 → ((0 < z5 → ∀ z6 : Int, z6 = wr (-(-1)) → ∀ z7 : Int, z7 = h1 285 z6 → ∀ z8 : Int, z8 = wr (z7 + 1) → ∀ h2 : fH, h2 = fu h1 285 z6 z8 → Q (-1) h2) ∧ (z5 ≤ 0 → I0 a0 a1 0 0 h1))))) (k0 : ∀ (x0 x1 x2 x3 : Int) (h : fH), I0 x0 x1 x2 x3 h → ∀ z4 : Int, z4 = h x0 0 → ((z4 ≤ x3 → Q x2 h) ∧ (x3 < z4 → ((x3 = x1 → ∀ z5 : Int, z5 = wr (x2 + 0) → ∀ z6 : Int, z6 = wr (x3 + 1) → I0 x0 x1 z5 z6 h) ∧ (x3 ≠ x1 → ∀ z5 : Int, z5 = h 274 x3 → ((z5 ≠ x1 → ∀ z6 : Int, z6 = wr (x2 + 0) → ∀ z7 : Int, z7 = wr (x3 + 1) → I0 x0 x1 z6 z7 h) ∧ (z5 = x1 → ∀ z6 : Int, z6 = wr (x2 + 1) → ∀ z7 : Int, z7 = wr (x3 + 1) → I0 x0 x1 z6 z7 h))))))) : Q v h' := by
  refine x_mef vr_wished_k hs (fun k l h => match k with
    | 0 => (match l with | [x0, x1, x2, x3] => I0 x0 x1 x2 x3 h | _ => False)
    | _ => False) Q h0 ?_
  intro i Ti hT vals h hi
  match i, hT, hi with
  | 0, hT, hi =>
    cases hT
    match vals, hi with
    | [x0, x1, x2, x3], hi => exact k0 _ _ _ _ _ hi
    | [], hi => exact False.elim hi
    | [_], hi => exact False.elim hi
    | [_, _], hi => exact False.elim hi
    | [_, _, _], hi => exact False.elim hi
    | _ :: _ :: _ :: _ :: _ :: _, hi => exact False.elim hi
  | _ + 1, hT, _ => cases hT
def vr_mean_T : xT := [(2, [.inl 0, .inr 0], 16, 0), (8, [.inl 1, .inr 0], 18, 0), (10, [.inl 3, .inr 0], 2, 6), (9, [.inr (-1)], 0, 0), (1, [.inr 285, .inl 4], 0, 0), (8, [.inl 5, .inr 1], 0, 0), (3, [.inr 285, .inl 4, .inl 6], 0, 0), (8, [.inr 4000000000000000000, .inr (-1)], 14, 0), (11, [.inl 7], 0, 0), (8, [.inl 1, .inr 4], 18, 0), (10, [.inl 4, .inr 0], 4, 6), (9, [.inr (-1)], 0, 0),
  (1, [.inr 285, .inl 5], 0, 0), (8, [.inl 6, .inr 1], 0, 0), (3, [.inr 285, .inl 5, .inl 7], 0, 0), (8, [.inr 4000000000000000000, .inr (-1)], 14, 0), (11, [.inl 8], 0, 0), (8, [.inl 2, .inr 0], 18, 0), (10, [.inl 5, .inr 0], 2, 6), (9, [.inr (-2)], 0, 0), (1, [.inr 285, .inl 6], 0, 0), (8, [.inl 7, .inr 1], 0, 0), (3, [.inr 285, .inl 6, .inl 8], 0, 0), (8, [.inr 4000000000000000000, .inr (-2)], 14, 0),
  (11, [.inl 9], 0, 0), (8, [.inl 2, .inr 1], 18, 0), (10, [.inl 6, .inr 0], 4, 6), (9, [.inr (-2)], 0, 0), (1, [.inr 285, .inl 7], 0, 0), (8, [.inl 8, .inr 1], 0, 0), (3, [.inr 285, .inl 7, .inl 9], 0, 0), (8, [.inr 4000000000000000000, .inr (-2)], 14, 0), (11, [.inl 10], 0, 0), (12, [.inl 0, .inl 1, .inl 2, .inr 0, .inr 0], 0, 0)]
def vr_mean_T0 : xT := [(0, [.inl 0], 0, 0), (10, [.inl 4, .inl 5], 3, 3), (0, [.inl 0], 0, 0), (13, [.inl 3, .inl 6, .inl 2], 231, 0), (11, [.inl 7], 0, 0), (8, [.inr 5, .inl 4], 2, 0), (8, [.inl 6, .inl 1], 0, 0), (1, [.inr 277, .inl 7], 0, 0), (8, [.inl 3, .inl 8], 13, 0), (8, [.inl 4, .inr 1], 0, 0), (12, [.inl 0, .inl 1, .inl 2, .inl 9, .inl 10], 0, 0)]
theorem vr_mean_k : x_chk 240 [(44, [(0, 0), (1, 0), (2, 0), (4, 1), (6, 0)])] vr_mean_T [vr_mean_T0] 600 = true := by decide +kernel
theorem vr_mean {a0 a1 a2 v : Int} {h h' : fH} (hs : fS 240 [a0, a1, a2] h v h') (I0 : Int → Int → Int → Int → Int → fH → Prop) (Q : Int → fH → Prop) (h0 : ∀ h1 : fH, h1 = fu h a0 16 0 → ∀ z3 : Int, z3 = xlcmp a1 0 → ((z3 < 0 → ∀ z4 : Int, z4 = wr (-(-1)) → ∀ z5 : Int, z5 = h1 285 z4 → ∀ z6 : Int, z6 = wr (z5 + 1) → ∀ h2 : fH, h2 = fu h1 285 z4 z6 → ∀ z7 : Int, z7 = wl (4000000000000000000 - (-1)) → Q z7 h2) ∧ (0 ≤ z3 → ∀ z4 : Int, z4 = xlcmp a1 4 → ((0 < z4 → ∀ z5 : Int, z5 = wr (-(-1)) → ∀ z6 : Int, z6 = h1 285 z5 → ∀ z7 : Int, z7 = wr (z6 + 1) → ∀ h2 : fH, h2 = fu h1 285 z5 z7 → ∀ z8 : Int, z8 = wl (4000000000000000000 - (-1)) → Q z8 h2) ∧ (z4 ≤ 0 → ∀ z5 : Int, z5 = xlcmp a2 0 → ((z5 < 0 → ∀ z6 : Int, z6 = wr (-(-2)) → ∀ z7 : Int, z7 = h1 285 z6 → ∀ z8 : Int, z8 = wr (z7 + 1) → ∀ h2 : fH, h2 = fu h1 285 z6 z8 → ∀ z9 : Int, z9 = wl (4000000000000000000 - (-2)) → Q z9 h2) ∧ (0 ≤ z5 → ∀ z6 : Int, z6 = xlcmp a2 1 → ((0 < z6 → ∀ z7 : Int, z7 = wr (-(-2)) → ∀ z8 : Int, z8 = h1 285 z7 → ∀ z9 : Int, z9 = wr (z8 + 1) → ∀ h2 : fH, h2 = fu h1 285 z7 z9 → ∀ z10 : Int, z10 = wl (4000000000000000000 - (-2)) → Q z10 h2) ∧ (z6 ≤ 0 → I0 a0 a1 a2 0 0 h1))))))))) (k0 : ∀ (x0 x1 x2 x4 x6 : Int) (h : fH), I0 x0 x1 x2 x4 x6 h → ∀ z5 : Int, z5 = h x0 0 → ((z5 ≤ x6 → ∀ z6 : Int, z6 = h x0 0 → ∀ (v1 : Int) (h1 : fH), fS 231 [x4, z6, x2] h v1 h1 → Q v1 h1) ∧ (x6 < z5 → ∀ z6 : Int, z6 = wr (5 * x6) → ∀ z7 : Int, z7 = wr (z6 + x1) → ∀ z8 : Int, z8 = h 277 z7 → ∀ z9 : Int, z9 = wl (x4 + z8) → ∀ z10 : Int, z10 = wr (x6 + 1) → I0 x0 x1 x2 z9 z10 h))) : Q v h' := by
  refine x_mef vr_mean_k hs (fun k l h => match k with
    | 0 => (match l with | [x0, x1, x2, x4, x6] => I0 x0 x1 x2 x4 x6 h | _ => False)
    | _ => False) Q h0 ?_
  intro i Ti hT vals h hi
  match i, hT, hi with
  | 0, hT, hi =>
    cases hT
    match vals, hi with
    | [x0, x1, x2, x4, x6], hi => exact k0 _ _ _ _ _ _ hi
    | [], hi => exact False.elim hi
    | [_], hi => exact False.elim hi
    | [_, _], hi => exact False.elim hi
    | [_, _, _], hi => exact False.elim hi
    | [_, _, _, _], hi => exact False.elim hi
    | _ :: _ :: _ :: _ :: _ :: _ :: _, hi => exact False.elim hi
  | _ + 1, hT, _ => cases hT
end
section
/-! the trees of the methods (made by a program) -/
def vr_scorn_T : xT := [(2, [.inl 0, .inr 0], 16, 0), (8, [.inl 1, .inr 0], 18, 0), (10, [.inl 2, .inr 0], 2, 5), (9, [.inr (-1)], 0, 0), (1, [.inr 285, .inl 3], 0, 0), (8, [.inl 4, .inr 1], 0, 0), (3, [.inr 285, .inl 3, .inl 5], 0, 0), (11, [.inr (-1)], 0, 0), (8, [.inl 1, .inr 4], 18, 0), (10, [.inl 3, .inr 0], 4, 5), (9, [.inr (-1)], 0, 0), (1, [.inr 285, .inl 4], 0, 0),
  (8, [.inl 5, .inr 1], 0, 0), (3, [.inr 285, .inl 4, .inl 6], 0, 0), (11, [.inr (-1)], 0, 0), (12, [.inl 0, .inl 1, .inr 0, .inr 0], 0, 0)]
def vr_scorn_T0 : xT := [(0, [.inl 0], 0, 0), (10, [.inl 3, .inl 4], 3, 1), (11, [.inl 2], 0, 0), (8, [.inr 5, .inl 3], 2, 0), (8, [.inl 5, .inl 1], 0, 0), (1, [.inr 277, .inl 6], 0, 0), (8, [.inl 7, .inr 9], 10, 0), (10, [.inl 8, .inr 0], 1, 3), (8, [.inl 2, .inr 0], 0, 0), (8, [.inl 3, .inr 1], 0, 0), (12, [.inl 0, .inl 1, .inl 9, .inl 10], 0, 0), (8, [.inl 2, .inr 1], 0, 0),
  (8, [.inl 3, .inr 1], 0, 0), (12, [.inl 0, .inl 1, .inl 9, .inl 10], 0, 0)]
theorem vr_scorn_k : x_chk 241 [(22, [(0, 0), (1, 0), (2, 0), (3, 0)])] vr_scorn_T [vr_scorn_T0] 600 = true := by decide +kernel
theorem vr_scorn {a0 a1 v : Int} {h h' : fH} (hs : fS 241 [a0, a1] h v h') (I0 : Int → Int → Int → Int → fH → Prop) (Q : Int → fH → Prop) (h0 : ∀ h1 : fH, h1 = fu h a0 16 0 → ∀ z2 : Int, z2 = xlcmp a1 0 → ((z2 < 0 → ∀ z3 : Int, z3 = wr (-(-1)) → ∀ z4 : Int, z4 = h1 285 z3 → ∀ z5 : Int, z5 = wr (z4 + 1) → ∀ h2 : fH, h2 = fu h1 285 z3 z5 → Q (-1) h2) ∧ (0 ≤ z2 → ∀ z3 : Int, z3 = xlcmp a1 4 → ((0 < z3 → ∀ z4 : Int, z4 = wr (-(-1)) → ∀ z5 : Int, z5 = h1 285 z4 → ∀ z6 : Int, z6 = wr (z5 + 1) → ∀ h2 : fH, h2 = fu h1 285 z4 z6 → Q (-1) h2) ∧ (z3 ≤ 0 → I0 a0 a1 0 0 h1))))) (k0 : ∀ (x0 x1 x2 x3 : Int) (h : fH), I0 x0 x1 x2 x3 h → ∀ z4 : Int, z4 = h x0 0 → ((z4 ≤ x3 → Q x2 h) ∧ (x3 < z4 → ∀ z5 : Int, z5 = wr (5 * x3) → ∀ z6 : Int, z6 = wr (z5 + x1) → ∀ z7 : Int, z7 = h 277 z6 → ∀ z8 : Int, z8 = xrem z7 9 → ((z8 ≠ 0 → ∀ z9 : Int, z9 = wr (x2 + 0) → ∀ z10 : Int, z10 = wr (x3 + 1) → I0 x0 x1 z9 z10 h) ∧ (z8 = 0 → ∀ z9 : Int, z9 = wr (x2 + 1) → ∀ z10 : Int, z10 = wr (x3 + 1) → I0 x0 x1 z9 z10 h))))) : Q v h' := by
  refine x_mef vr_scorn_k hs (fun k l h => match k with
    | 0 => (match l with | [x0, x1, x2, x3] => I0 x0 x1 x2 x3 h | _ => False)
    | _ => False) Q h0 ?_
  intro i Ti hT vals h hi
  match i, hT, hi with
  | 0, hT, hi =>
    cases hT
    match vals, hi with
    | [x0, x1, x2, x3], hi => exact k0 _ _ _ _ _ hi
    | [], hi => exact False.elim hi
    | [_], hi => exact False.elim hi
    | [_, _], hi => exact False.elim hi
    | [_, _, _], hi => exact False.elim hi
    | _ :: _ :: _ :: _ :: _ :: _, hi => exact False.elim hi
  | _ + 1, hT, _ => cases hT
def vr_left_T : xT := [(2, [.inl 0, .inr 0], 16, 0), (10, [.inl 1, .inr 0], 0, 2), (13, [.inl 0], 243, 0), (11, [.inl 2], 0, 0), (10, [.inl 1, .inr 1], 0, 2), (13, [.inl 0], 244, 0), (11, [.inl 2], 0, 0), (10, [.inl 1, .inr 2], 0, 2), (13, [.inl 0], 245, 0), (11, [.inl 2], 0, 0), (10, [.inl 1, .inr 3], 0, 2), (13, [.inl 0, .inr 1], 236, 0),
  (11, [.inl 2], 0, 0), (10, [.inl 1, .inr 4], 0, 2), (13, [.inl 0, .inr 2], 236, 0), (11, [.inl 2], 0, 0), (9, [.inr (-2)], 0, 0), (1, [.inr 285, .inl 2], 0, 0), (8, [.inl 3, .inr 1], 0, 0), (3, [.inr 285, .inl 2, .inl 4], 0, 0), (11, [.inr (-2)], 0, 0)]
theorem vr_left_k : x_chk 242 [] vr_left_T [] 600 = true := by decide +kernel
theorem vr_left {a0 a1 v : Int} {h h' : fH} (hs : fS 242 [a0, a1] h v h') (Q : Int → fH → Prop) (h0 : ∀ h1 : fH, h1 = fu h a0 16 0 → ((a1 = 0 → ∀ (v2 : Int) (h2 : fH), fS 243 [a0] h1 v2 h2 → Q v2 h2) ∧ (a1 ≠ 0 → ((a1 = 1 → ∀ (v2 : Int) (h2 : fH), fS 244 [a0] h1 v2 h2 → Q v2 h2) ∧ (a1 ≠ 1 → ((a1 = 2 → ∀ (v2 : Int) (h2 : fH), fS 245 [a0] h1 v2 h2 → Q v2 h2) ∧ (a1 ≠ 2 → ((a1 = 3 → ∀ (v2 : Int) (h2 : fH), fS 236 [a0, 1] h1 v2 h2 → Q v2 h2) ∧ (a1 ≠ 3 → ((a1 = 4 → ∀ (v2 : Int) (h2 : fH), fS 236 [a0, 2] h1 v2 h2 → Q v2 h2) ∧ (a1 ≠ 4 → ∀ z2 : Int, z2 = wr (-(-2)) → ∀ z3 : Int, z3 = h1 285 z2 → ∀ z4 : Int, z4 = wr (z3 + 1) → ∀ h2 : fH, h2 = fu h1 285 z2 z4 → Q (-2) h2))))))))))) : Q v h' := by
  exact x_mef vr_left_k hs (fun _ _ _ => False) Q h0 (fun i Ti hT => by cases hT)
def vr_lastDays_T : xT := [(12, [.inl 0, .inr 0, .inr 0], 0, 0)]
def vr_lastDays_T0 : xT := [(0, [.inl 0], 9, 0), (10, [.inl 2, .inl 3], 3, 1), (11, [.inl 1], 0, 0), (1, [.inr 284, .inl 2], 0, 0), (10, [.inl 4, .inl 1], 5, 2), (8, [.inl 2, .inr 1], 0, 0), (12, [.inl 0, .inl 1, .inl 5], 0, 0), (1, [.inr 284, .inl 2], 0, 0), (8, [.inl 2, .inr 1], 0, 0), (12, [.inl 0, .inl 5, .inl 6], 0, 0)]
theorem vr_lastDays_k : x_chk 243 [(4, [(0, 0), (1, 0), (2, 0)])] vr_lastDays_T [vr_lastDays_T0] 600 = true := by decide +kernel
theorem vr_lastDays {a0 v : Int} {h h' : fH} (hs : fS 243 [a0] h v h') (I0 : Int → Int → Int → fH → Prop) (Q : Int → fH → Prop) (h0 : I0 a0 0 0 h) (k0 : ∀ (x0 x1 x2 : Int) (h : fH), I0 x0 x1 x2 h → ∀ z3 : Int, z3 = h x0 9 → ((z3 ≤ x2 → Q x1 h) ∧ (x2 < z3 → ∀ z4 : Int, z4 = h 284 x2 → ((z4 ≤ x1 → ∀ z5 : Int, z5 = wr (x2 + 1) → I0 x0 x1 z5 h) ∧ (x1 < z4 → ∀ z5 : Int, z5 = h 284 x2 → ∀ z6 : Int, z6 = wr (x2 + 1) → I0 x0 z5 z6 h))))) : Q v h' := by
  refine x_mef vr_lastDays_k hs (fun k l h => match k with
    | 0 => (match l with | [x0, x1, x2] => I0 x0 x1 x2 h | _ => False)
    | _ => False) Q h0 ?_
  intro i Ti hT vals h hi
  match i, hT, hi with
  | 0, hT, hi =>
    cases hT
    match vals, hi with
    | [x0, x1, x2], hi => exact k0 _ _ _ _ hi
    | [], hi => exact False.elim hi
    | [_], hi => exact False.elim hi
    | [_, _], hi => exact False.elim hi
    | _ :: _ :: _ :: _ :: _, hi => exact False.elim hi
  | _ + 1, hT, _ => cases hT
def vr_chasteRun_T : xT := [(13, [.inl 0, .inr 290, .inr 1], 159, 0), (12, [.inl 0, .inr 0, .inr 0, .inr 0], 0, 0)]
def vr_chasteRun_T0 : xT := [(10, [.inl 3, .inr 60], 3, 2), (13, [.inl 0, .inr 290, .inr 0], 159, 0), (11, [.inl 1], 0, 0), (13, [.inl 0], 198, 0), (13, [.inl 0, .inr 0], 173, 0), (13, [.inl 0], 198, 0), (10, [.inl 6, .inl 4], 1, 5), (10, [.inr 0, .inl 1], 5, 2), (8, [.inl 3, .inr 1], 0, 0), (12, [.inl 0, .inl 1, .inr 0, .inl 7], 0, 0), (8, [.inl 3, .inr 1], 0, 0), (12, [.inl 0, .inr 0, .inr 0, .inl 7], 0, 0),
  (8, [.inl 2, .inr 1], 0, 0), (10, [.inl 7, .inl 1], 5, 2), (8, [.inl 3, .inr 1], 0, 0), (12, [.inl 0, .inl 1, .inl 7, .inl 8], 0, 0), (8, [.inl 3, .inr 1], 0, 0), (12, [.inl 0, .inl 7, .inl 7, .inl 8], 0, 0)]
theorem vr_chasteRun_k : x_chk 244 [(10, [(0, 0), (1, 0), (2, 0), (3, 0)])] vr_chasteRun_T [vr_chasteRun_T0] 600 = true := by decide +kernel
theorem vr_chasteRun {a0 v : Int} {h h' : fH} (hs : fS 244 [a0] h v h') (I0 : Int → Int → Int → Int → fH → Prop) (Q : Int → fH → Prop) (h0 : ∀ (v1 : Int) (h1 : fH), fS 159 [a0, 290, 1] h v1 h1 → I0 a0 0 0 0 h1) (k0 : ∀ (x0 x1 x2 x3 : Int) (h : fH), I0 x0 x1 x2 x3 h → ((60 ≤ x3 → ∀ (v1 : Int) (h1 : fH), fS 159 [x0, 290, 0] h v1 h1 → Q x1 h1) ∧ (x3 < 60 → ∀ (v1 : Int) (h1 : fH), fS 198 [x0] h v1 h1 → ∀ (v2 : Int) (h2 : fH), fS 173 [x0, 0] h1 v2 h2 → ∀ (v3 : Int) (h3 : fH), fS 198 [x0] h2 v3 h3 → ((v3 ≠ v1 → ((0 ≤ x1 → ∀ z7 : Int, z7 = wr (x3 + 1) → I0 x0 x1 0 z7 h3) ∧ (x1 < 0 → ∀ z7 : Int, z7 = wr (x3 + 1) → I0 x0 0 0 z7 h3))) ∧ (v3 = v1 → ∀ z7 : Int, z7 = wr (x2 + 1) → ((z7 ≤ x1 → ∀ z8 : Int, z8 = wr (x3 + 1) → I0 x0 x1 z7 z8 h3) ∧ (x1 < z7 → ∀ z8 : Int, z8 = wr (x3 + 1) → I0 x0 z7 z7 z8 h3))))))) : Q v h' := by
  refine x_mef vr_chasteRun_k hs (fun k l h => match k with
    | 0 => (match l with | [x0, x1, x2, x3] => I0 x0 x1 x2 x3 h | _ => False)
    | _ => False) Q h0 ?_
  intro i Ti hT vals h hi
  match i, hT, hi with
  | 0, hT, hi =>
    cases hT
    match vals, hi with
    | [x0, x1, x2, x3], hi => exact k0 _ _ _ _ _ hi
    | [], hi => exact False.elim hi
    | [_], hi => exact False.elim hi
    | [_, _], hi => exact False.elim hi
    | [_, _, _], hi => exact False.elim hi
    | _ :: _ :: _ :: _ :: _ :: _, hi => exact False.elim hi
  | _ + 1, hT, _ => cases hT
def vr_oddBits_T : xT := [(12, [.inl 0, .inr 0, .inr 0], 0, 0)]
def vr_oddBits_T0 : xT := [(10, [.inl 2, .inr 5], 3, 1), (11, [.inl 1], 0, 0), (0, [.inl 0], 15, 0), (1, [.inr 279, .inl 2], 0, 0), (8, [.inl 3, .inl 4], 0, 0), (1, [.inr 278, .inl 2], 0, 0), (8, [.inl 5, .inl 6], 10, 0), (10, [.inl 7, .inr 0], 1, 3), (8, [.inl 1, .inr 0], 4, 0), (8, [.inl 2, .inr 1], 0, 0), (12, [.inl 0, .inl 8, .inl 9], 0, 0), (8, [.inr 1, .inl 2], 6, 0),
  (8, [.inl 1, .inl 8], 4, 0), (8, [.inl 2, .inr 1], 0, 0), (12, [.inl 0, .inl 9, .inl 10], 0, 0)]
theorem vr_oddBits_k : x_chk 245 [(4, [(0, 0), (1, 0), (2, 0)])] vr_oddBits_T [vr_oddBits_T0] 600 = true := by decide +kernel
theorem vr_oddBits {a0 v : Int} {h h' : fH} (hs : fS 245 [a0] h v h') (I0 : Int → Int → Int → fH → Prop) (Q : Int → fH → Prop) (h0 : I0 a0 0 0 h) (k0 : ∀ (x0 x1 x2 : Int) (h : fH), I0 x0 x1 x2 h → ((5 ≤ x2 → Q x1 h) ∧ (x2 < 5 → ∀ z3 : Int, z3 = h x0 15 → ∀ z4 : Int, z4 = h 279 x2 → ∀ z5 : Int, z5 = wr (z3 + z4) → ∀ z6 : Int, z6 = h 278 x2 → ∀ z7 : Int, z7 = xrem z5 z6 → ((z7 ≠ 0 → ∀ z8 : Int, z8 = xor' x1 0 → ∀ z9 : Int, z9 = wr (x2 + 1) → I0 x0 z8 z9 h) ∧ (z7 = 0 → ∀ z8 : Int, z8 = xshl 1 x2 → ∀ z9 : Int, z9 = xor' x1 z8 → ∀ z10 : Int, z10 = wr (x2 + 1) → I0 x0 z9 z10 h))))) : Q v h' := by
  refine x_mef vr_oddBits_k hs (fun k l h => match k with
    | 0 => (match l with | [x0, x1, x2] => I0 x0 x1 x2 h | _ => False)
    | _ => False) Q h0 ?_
  intro i Ti hT vals h hi
  match i, hT, hi with
  | 0, hT, hi =>
    cases hT
    match vals, hi with
    | [x0, x1, x2], hi => exact k0 _ _ _ _ hi
    | [], hi => exact False.elim hi
    | [_], hi => exact False.elim hi
    | [_, _], hi => exact False.elim hi
    | _ :: _ :: _ :: _ :: _, hi => exact False.elim hi
  | _ + 1, hT, _ => cases hT
def vr_hope_T : xT := [(2, [.inl 0, .inr 0], 16, 0), (0, [.inl 0], 0, 0), (8, [.inl 4, .inr 1], 1, 0), (8, [.inl 1, .inr 0], 18, 0), (10, [.inl 6, .inr 0], 2, 6), (9, [.inr (-1)], 0, 0), (1, [.inr 285, .inl 7], 0, 0), (8, [.inl 8, .inr 1], 0, 0), (3, [.inr 285, .inl 7, .inl 9], 0, 0), (8, [.inr 1000000000, .inr (-1)], 1, 0), (11, [.inl 10], 0, 0), (8, [.inl 1, .inl 5], 18, 0),
  (10, [.inl 7, .inr 0], 4, 6), (9, [.inr (-1)], 0, 0), (1, [.inr 285, .inl 8], 0, 0), (8, [.inl 9, .inr 1], 0, 0), (3, [.inr 285, .inl 8, .inl 10], 0, 0), (8, [.inr 1000000000, .inr (-1)], 1, 0), (11, [.inl 11], 0, 0), (8, [.inl 2, .inr 0], 18, 0), (10, [.inl 8, .inr 0], 2, 6), (9, [.inr (-1)], 0, 0), (1, [.inr 285, .inl 9], 0, 0), (8, [.inl 10, .inr 1], 0, 0),
  (3, [.inr 285, .inl 9, .inl 11], 0, 0), (8, [.inr 1000000000, .inr (-1)], 1, 0), (11, [.inl 12], 0, 0), (8, [.inl 2, .inr 4], 18, 0), (10, [.inl 9, .inr 0], 4, 6), (9, [.inr (-1)], 0, 0), (1, [.inr 285, .inl 10], 0, 0), (8, [.inl 11, .inr 1], 0, 0), (3, [.inr 285, .inl 10, .inl 12], 0, 0), (8, [.inr 1000000000, .inr (-1)], 1, 0), (11, [.inl 13], 0, 0), (10, [.inl 3, .inr 0], 3, 13),
  (10, [.inl 3, .inr 60], 5, 6), (13, [.inl 0, .inl 1, .inl 2, .inl 3], 202, 0), (8, [.inr 5, .inl 1], 2, 0), (8, [.inl 11, .inl 2], 0, 0), (1, [.inr 277, .inl 12], 0, 0), (8, [.inl 10, .inl 13], 1, 0), (11, [.inl 14], 0, 0), (9, [.inr (-6)], 0, 0), (1, [.inr 285, .inl 10], 0, 0), (8, [.inl 11, .inr 1], 0, 0), (3, [.inr 285, .inl 10, .inl 12], 0, 0), (8, [.inr 1000000000, .inr (-6)], 1, 0),
  (11, [.inl 13], 0, 0), (9, [.inr (-4)], 0, 0), (1, [.inr 285, .inl 10], 0, 0), (8, [.inl 11, .inr 1], 0, 0), (3, [.inr 285, .inl 10, .inl 12], 0, 0), (8, [.inr 1000000000, .inr (-4)], 1, 0), (11, [.inl 13], 0, 0)]
theorem vr_hope_k : x_chk 246 [] vr_hope_T [] 600 = true := by decide +kernel
theorem vr_hope {a0 a1 a2 a3 v : Int} {h h' : fH} (hs : fS 246 [a0, a1, a2, a3] h v h') (Q : Int → fH → Prop) (h0 : ∀ h1 : fH, h1 = fu h a0 16 0 → ∀ z4 : Int, z4 = h1 a0 0 → ∀ z5 : Int, z5 = wr (z4 - 1) → ∀ z6 : Int, z6 = xlcmp a1 0 → ((z6 < 0 → ∀ z7 : Int, z7 = wr (-(-1)) → ∀ z8 : Int, z8 = h1 285 z7 → ∀ z9 : Int, z9 = wr (z8 + 1) → ∀ h2 : fH, h2 = fu h1 285 z7 z9 → ∀ z10 : Int, z10 = wr (1000000000 - (-1)) → Q z10 h2) ∧ (0 ≤ z6 → ∀ z7 : Int, z7 = xlcmp a1 z5 → ((0 < z7 → ∀ z8 : Int, z8 = wr (-(-1)) → ∀ z9 : Int, z9 = h1 285 z8 → ∀ z10 : Int, z10 = wr (z9 + 1) → ∀ h2 : fH, h2 = fu h1 285 z8 z10 → ∀ z11 : Int, z11 = wr (1000000000 - (-1)) → Q z11 h2) ∧ (z7 ≤ 0 → ∀ z8 : Int, z8 = xlcmp a2 0 → ((z8 < 0 → ∀ z9 : Int, z9 = wr (-(-1)) → ∀ z10 : Int, z10 = h1 285 z9 → ∀ z11 : Int, z11 = wr (z10 + 1) → ∀ h2 : fH, h2 = fu h1 285 z9 z11 → ∀ z12 : Int, z12 = wr (1000000000 - (-1)) → Q z12 h2) ∧ (0 ≤ z8 → ∀ z9 : Int, z9 = xlcmp a2 4 → ((0 < z9 → ∀ z10 : Int, z10 = wr (-(-1)) → ∀ z11 : Int, z11 = h1 285 z10 → ∀ z12 : Int, z12 = wr (z11 + 1) → ∀ h2 : fH, h2 = fu h1 285 z10 z12 → ∀ z13 : Int, z13 = wr (1000000000 - (-1)) → Q z13 h2) ∧ (z9 ≤ 0 → ((0 ≤ a3 → ((a3 ≤ 60 → ∀ (v2 : Int) (h2 : fH), fS 202 [a0, a1, a2, a3] h1 v2 h2 → ∀ z11 : Int, z11 = wr (5 * a1) → ∀ z12 : Int, z12 = wr (z11 + a2) → ∀ z13 : Int, z13 = h2 277 z12 → ∀ z14 : Int, z14 = wr (v2 - z13) → Q z14 h2) ∧ (60 < a3 → ∀ z10 : Int, z10 = wr (-(-6)) → ∀ z11 : Int, z11 = h1 285 z10 → ∀ z12 : Int, z12 = wr (z11 + 1) → ∀ h2 : fH, h2 = fu h1 285 z10 z12 → ∀ z13 : Int, z13 = wr (1000000000 - (-6)) → Q z13 h2))) ∧ (a3 < 0 → ∀ z10 : Int, z10 = wr (-(-4)) → ∀ z11 : Int, z11 = h1 285 z10 → ∀ z12 : Int, z12 = wr (z11 + 1) → ∀ h2 : fH, h2 = fu h1 285 z10 z12 → ∀ z13 : Int, z13 = wr (1000000000 - (-4)) → Q z13 h2))))))))))) : Q v h' := by
  exact x_mef vr_hope_k hs (fun _ _ _ => False) Q h0 (fun i Ti hT => by cases hT)
def vr_row_T : xT := [(2, [.inl 0, .inr 0], 16, 0), (10, [.inl 1, .inr 0], 3, 20), (10, [.inl 1, .inr 99], 4, 5), (9, [.inr (-6)], 0, 0), (1, [.inr 285, .inl 2], 0, 0), (8, [.inl 3, .inr 1], 0, 0), (3, [.inr 285, .inl 2, .inl 4], 0, 0), (11, [.inr (-6)], 0, 0), (0, [.inl 0], 38, 0), (10, [.inl 2, .inr 12], 1, 7), (0, [.inl 0], 38, 0), (3, [.inr 296, .inl 3, .inl 1], 0, 0),
  (0, [.inl 0], 38, 0), (8, [.inl 4, .inr 1], 0, 0), (2, [.inl 0, .inl 5], 38, 0), (0, [.inl 0], 38, 0), (11, [.inl 6], 0, 0), (9, [.inr (-6)], 0, 0), (1, [.inr 285, .inl 3], 0, 0), (8, [.inl 4, .inr 1], 0, 0), (3, [.inr 285, .inl 3, .inl 5], 0, 0), (11, [.inr (-6)], 0, 0), (9, [.inr (-4)], 0, 0), (1, [.inr 285, .inl 2], 0, 0),
  (8, [.inl 3, .inr 1], 0, 0), (3, [.inr 285, .inl 2, .inl 4], 0, 0), (11, [.inr (-4)], 0, 0)]
theorem vr_row_k : x_chk 247 [] vr_row_T [] 600 = true := by decide +kernel
theorem vr_row {a0 a1 v : Int} {h h' : fH} (hs : fS 247 [a0, a1] h v h') (Q : Int → fH → Prop) (h0 : ∀ h1 : fH, h1 = fu h a0 16 0 → ((0 ≤ a1 → ((99 < a1 → ∀ z2 : Int, z2 = wr (-(-6)) → ∀ z3 : Int, z3 = h1 285 z2 → ∀ z4 : Int, z4 = wr (z3 + 1) → ∀ h2 : fH, h2 = fu h1 285 z2 z4 → Q (-6) h2) ∧ (a1 ≤ 99 → ∀ z2 : Int, z2 = h1 a0 38 → ((z2 ≠ 12 → ∀ z3 : Int, z3 = h1 a0 38 → ∀ h2 : fH, h2 = fu h1 296 z3 a1 → ∀ z4 : Int, z4 = h2 a0 38 → ∀ z5 : Int, z5 = wr (z4 + 1) → ∀ h3 : fH, h3 = fu h2 a0 38 z5 → ∀ z6 : Int, z6 = h3 a0 38 → Q z6 h3) ∧ (z2 = 12 → ∀ z3 : Int, z3 = wr (-(-6)) → ∀ z4 : Int, z4 = h1 285 z3 → ∀ z5 : Int, z5 = wr (z4 + 1) → ∀ h2 : fH, h2 = fu h1 285 z3 z5 → Q (-6) h2))))) ∧ (a1 < 0 → ∀ z2 : Int, z2 = wr (-(-4)) → ∀ z3 : Int, z3 = h1 285 z2 → ∀ z4 : Int, z4 = wr (z3 + 1) → ∀ h2 : fH, h2 = fu h1 285 z2 z4 → Q (-4) h2))) : Q v h' := by
  exact x_mef vr_row_k hs (fun _ _ _ => False) Q h0 (fun i Ti hT => by cases hT)
def vr_judge_T : xT := [(2, [.inl 0, .inr 0], 16, 0), (0, [.inl 0], 38, 0), (2, [.inl 0, .inr 0], 38, 0), (12, [.inl 0, .inl 1, .inr 0], 0, 0)]
def vr_judge_T0 : xT := [(10, [.inl 2, .inl 1], 3, 1), (11, [.inr (-9)], 0, 0), (0, [.inl 0], 0, 0), (10, [.inl 2, .inl 3], 3, 1), (11, [.inl 2], 0, 0), (1, [.inr 296, .inl 2], 0, 0), (8, [.inr 5, .inl 2], 2, 0), (1, [.inr 277, .inl 5], 0, 0), (10, [.inl 4, .inl 6], 0, 2), (8, [.inl 2, .inr 1], 0, 0), (12, [.inl 0, .inl 1, .inl 7], 0, 0), (11, [.inl 2], 0, 0)]
theorem vr_judge_k : x_chk 248 [(17, [(0, 0), (1, 0), (2, 0)])] vr_judge_T [vr_judge_T0] 600 = true := by decide +kernel
theorem vr_judge {a0 v : Int} {h h' : fH} (hs : fS 248 [a0] h v h') (I0 : Int → Int → Int → fH → Prop) (Q : Int → fH → Prop) (h0 : ∀ h1 : fH, h1 = fu h a0 16 0 → ∀ z1 : Int, z1 = h1 a0 38 → ∀ h2 : fH, h2 = fu h1 a0 38 0 → I0 a0 z1 0 h2) (k0 : ∀ (x0 x1 x2 : Int) (h : fH), I0 x0 x1 x2 h → ((x1 ≤ x2 → Q (-9) h) ∧ (x2 < x1 → ∀ z3 : Int, z3 = h x0 0 → ((z3 ≤ x2 → Q x2 h) ∧ (x2 < z3 → ∀ z4 : Int, z4 = h 296 x2 → ∀ z5 : Int, z5 = wr (5 * x2) → ∀ z6 : Int, z6 = h 277 z5 → ((z4 = z6 → ∀ z7 : Int, z7 = wr (x2 + 1) → I0 x0 x1 z7 h) ∧ (z4 ≠ z6 → Q x2 h))))))) : Q v h' := by
  refine x_mef vr_judge_k hs (fun k l h => match k with
    | 0 => (match l with | [x0, x1, x2] => I0 x0 x1 x2 h | _ => False)
    | _ => False) Q h0 ?_
  intro i Ti hT vals h hi
  match i, hT, hi with
  | 0, hT, hi =>
    cases hT
    match vals, hi with
    | [x0, x1, x2], hi => exact k0 _ _ _ _ hi
    | [], hi => exact False.elim hi
    | [_], hi => exact False.elim hi
    | [_, _], hi => exact False.elim hi
    | _ :: _ :: _ :: _ :: _, hi => exact False.elim hi
  | _ + 1, hT, _ => cases hT
def vr_clear_T : xT := [(2, [.inl 0, .inr 0], 16, 0), (0, [.inl 0], 38, 0), (2, [.inl 0, .inr 0], 38, 0), (11, [.inl 1], 0, 0)]
theorem vr_clear_k : x_chk 249 [] vr_clear_T [] 600 = true := by decide +kernel
theorem vr_clear {a0 v : Int} {h h' : fH} (hs : fS 249 [a0] h v h') (Q : Int → fH → Prop) (h0 : ∀ h1 : fH, h1 = fu h a0 16 0 → ∀ z1 : Int, z1 = h1 a0 38 → ∀ h2 : fH, h2 = fu h1 a0 38 0 → Q z1 h2) : Q v h' := by
  exact x_mef vr_clear_k hs (fun _ _ _ => False) Q h0 (fun i Ti hT => by cases hT)
def vr_lots_T : xT := [(2, [.inl 0, .inr 0], 16, 0), (10, [.inl 1, .inr 1], 3, 23), (10, [.inl 1, .inr 20], 5, 17), (8, [.inl 3, .inr 0], 18, 0), (10, [.inl 4, .inr 0], 2, 5), (9, [.inr (-2)], 0, 0), (1, [.inr 285, .inl 5], 0, 0), (8, [.inl 6, .inr 1], 0, 0), (3, [.inr 285, .inl 5, .inl 7], 0, 0), (11, [.inr (-2)], 0, 0), (8, [.inl 3, .inr 1], 18, 0), (10, [.inl 5, .inr 0], 4, 5),
  (9, [.inr (-2)], 0, 0), (1, [.inr 285, .inl 6], 0, 0), (8, [.inl 7, .inr 1], 0, 0), (3, [.inr 285, .inl 6, .inl 8], 0, 0), (11, [.inr (-2)], 0, 0), (2, [.inl 0, .inl 2], 40, 0), (13, [.inl 0, .inr 290, .inr 1], 159, 0), (12, [.inl 0, .inl 1, .inl 3, .inr 0, .inr 0], 0, 0), (9, [.inr (-6)], 0, 0), (1, [.inr 285, .inl 4], 0, 0), (8, [.inl 5, .inr 1], 0, 0), (3, [.inr 285, .inl 4, .inl 6], 0, 0),
  (11, [.inr (-6)], 0, 0), (9, [.inr (-4)], 0, 0), (1, [.inr 285, .inl 4], 0, 0), (8, [.inl 5, .inr 1], 0, 0), (3, [.inr 285, .inl 4, .inl 6], 0, 0), (11, [.inr (-4)], 0, 0)]
def vr_lots_T0 : xT := [(10, [.inl 4, .inl 1], 3, 1), (11, [.inl 3], 0, 0), (12, [.inl 0, .inl 1, .inl 2, .inl 3, .inl 4, .inr 0], 1, 0)]
def vr_lots_T1 : xT := [(10, [.inl 5, .inr 5], 3, 13), (13, [.inl 0, .inr 10], 172, 0), (10, [.inl 2, .inr 0], 1, 5), (13, [.inl 0], 224, 0), (8, [.inl 3, .inl 7], 0, 0), (13, [.inl 0, .inr 290, .inr 0], 159, 0), (8, [.inl 4, .inr 1], 0, 0), (12, [.inl 0, .inl 1, .inl 2, .inl 8, .inl 10], 0, 0), (13, [.inl 0], 198, 0), (13, [.inl 7], 199, 0), (8, [.inl 3, .inl 8], 0, 0), (13, [.inl 0, .inr 290, .inr 0], 159, 0),
  (8, [.inl 4, .inr 1], 0, 0), (12, [.inl 0, .inl 1, .inl 2, .inl 9, .inl 11], 0, 0), (13, [.inl 0, .inr 9], 251, 0), (3, [.inr 279, .inl 5, .inl 6], 0, 0), (8, [.inl 5, .inr 1], 0, 0), (12, [.inl 0, .inl 1, .inl 2, .inl 3, .inl 4, .inl 7], 1, 0)]
theorem vr_lots_k : x_chk 250 [(46, [(0, 0), (1, 0), (3, 0), (5, 0), (6, 0)]), (55, [(0, 0), (1, 0), (3, 0), (5, 0), (6, 0), (7, 0)])] vr_lots_T [vr_lots_T0, vr_lots_T1] 600 = true := by decide +kernel
theorem vr_lots {a0 a1 a2 a3 v : Int} {h h' : fH} (hs : fS 250 [a0, a1, a2, a3] h v h') (I0 : Int → Int → Int → Int → Int → fH → Prop) (I1 : Int → Int → Int → Int → Int → Int → fH → Prop) (Q : Int → fH → Prop) (h0 : ∀ h1 : fH, h1 = fu h a0 16 0 → ((1 ≤ a1 → ((a1 ≤ 20 → ∀ z4 : Int, z4 = xlcmp a3 0 → ((z4 < 0 → ∀ z5 : Int, z5 = wr (-(-2)) → ∀ z6 : Int, z6 = h1 285 z5 → ∀ z7 : Int, z7 = wr (z6 + 1) → ∀ h2 : fH, h2 = fu h1 285 z5 z7 → Q (-2) h2) ∧ (0 ≤ z4 → ∀ z5 : Int, z5 = xlcmp a3 1 → ((0 < z5 → ∀ z6 : Int, z6 = wr (-(-2)) → ∀ z7 : Int, z7 = h1 285 z6 → ∀ z8 : Int, z8 = wr (z7 + 1) → ∀ h2 : fH, h2 = fu h1 285 z6 z8 → Q (-2) h2) ∧ (z5 ≤ 0 → ∀ h2 : fH, h2 = fu h1 a0 40 a2 → ∀ (v3 : Int) (h3 : fH), fS 159 [a0, 290, 1] h2 v3 h3 → I0 a0 a1 a3 0 0 h3))))) ∧ (20 < a1 → ∀ z4 : Int, z4 = wr (-(-6)) → ∀ z5 : Int, z5 = h1 285 z4 → ∀ z6 : Int, z6 = wr (z5 + 1) → ∀ h2 : fH, h2 = fu h1 285 z4 z6 → Q (-6) h2))) ∧ (a1 < 1 → ∀ z4 : Int, z4 = wr (-(-4)) → ∀ z5 : Int, z5 = h1 285 z4 → ∀ z6 : Int, z6 = wr (z5 + 1) → ∀ h2 : fH, h2 = fu h1 285 z4 z6 → Q (-4) h2))) (k0 : ∀ (x0 x1 x3 x5 x6 : Int) (h : fH), I0 x0 x1 x3 x5 x6 h → ((x1 ≤ x6 → Q x5 h) ∧ (x6 < x1 → I1 x0 x1 x3 x5 x6 0 h))) (k1 : ∀ (x0 x1 x3 x5 x6 x7 : Int) (h : fH), I1 x0 x1 x3 x5 x6 x7 h → ((5 ≤ x7 → ∀ (v1 : Int) (h1 : fH), fS 172 [x0, 10] h v1 h1 → ((x3 ≠ 0 → ∀ (v2 : Int) (h2 : fH), fS 224 [x0] h1 v2 h2 → ∀ z8 : Int, z8 = wr (x5 + v2) → ∀ (v3 : Int) (h3 : fH), fS 159 [x0, 290, 0] h2 v3 h3 → ∀ z10 : Int, z10 = wr (x6 + 1) → I0 x0 x1 x3 z8 z10 h3) ∧ (x3 = 0 → ∀ (v2 : Int) (h2 : fH), fS 198 [x0] h1 v2 h2 → ∀ (v3 : Int) (h3 : fH), fS 199 [v2] h2 v3 h3 → ∀ z9 : Int, z9 = wr (x5 + v3) → ∀ (v4 : Int) (h4 : fH), fS 159 [x0, 290, 0] h3 v4 h4 → ∀ z11 : Int, z11 = wr (x6 + 1) → I0 x0 x1 x3 z9 z11 h4))) ∧ (x7 < 5 → ∀ (v1 : Int) (h1 : fH), fS 251 [x0, 9] h v1 h1 → ∀ h2 : fH, h2 = fu h1 279 x7 v1 → ∀ z7 : Int, z7 = wr (x7 + 1) → I1 x0 x1 x3 x5 x6 z7 h2))) : Q v h' := by
  refine x_mef vr_lots_k hs (fun k l h => match k with
    | 0 => (match l with | [x0, x1, x3, x5, x6] => I0 x0 x1 x3 x5 x6 h | _ => False)
    | 1 => (match l with | [x0, x1, x3, x5, x6, x7] => I1 x0 x1 x3 x5 x6 x7 h | _ => False)
    | _ => False) Q h0 ?_
  intro i Ti hT vals h hi
  match i, hT, hi with
  | 0, hT, hi =>
    cases hT
    match vals, hi with
    | [x0, x1, x3, x5, x6], hi => exact k0 _ _ _ _ _ _ hi
    | [], hi => exact False.elim hi
    | [_], hi => exact False.elim hi
    | [_, _], hi => exact False.elim hi
    | [_, _, _], hi => exact False.elim hi
    | [_, _, _, _], hi => exact False.elim hi
    | _ :: _ :: _ :: _ :: _ :: _ :: _, hi => exact False.elim hi
  | 1, hT, hi =>
    cases hT
    match vals, hi with
    | [x0, x1, x3, x5, x6, x7], hi => exact k1 _ _ _ _ _ _ _ hi
    | [], hi => exact False.elim hi
    | [_], hi => exact False.elim hi
    | [_, _], hi => exact False.elim hi
    | [_, _, _], hi => exact False.elim hi
    | [_, _, _, _], hi => exact False.elim hi
    | [_, _, _, _, _], hi => exact False.elim hi
    | _ :: _ :: _ :: _ :: _ :: _ :: _ :: _, hi => exact False.elim hi
  | _ + 2, hT, _ => cases hT
def vr_drawBelow_T : xT := [(0, [.inl 0], 40, 0), (8, [.inl 2, .inr 1103515245], 2, 0), (8, [.inl 3, .inr 12345], 0, 0), (2, [.inl 0, .inl 4], 40, 0), (0, [.inl 0], 40, 0), (8, [.inl 5, .inr 2147483647], 3, 0), (8, [.inl 6, .inr 65536], 9, 0), (8, [.inl 7, .inl 1], 10, 0), (11, [.inl 8], 0, 0)]
theorem vr_drawBelow_k : x_chk 251 [] vr_drawBelow_T [] 600 = true := by decide +kernel
theorem vr_drawBelow {a0 a1 v : Int} {h h' : fH} (hs : fS 251 [a0, a1] h v h') (Q : Int → fH → Prop) (h0 : ∀ z2 : Int, z2 = h a0 40 → ∀ z3 : Int, z3 = wr (z2 * 1103515245) → ∀ z4 : Int, z4 = wr (z3 + 12345) → ∀ h1 : fH, h1 = fu h a0 40 z4 → ∀ z5 : Int, z5 = h1 a0 40 → ∀ z6 : Int, z6 = xand z5 2147483647 → ∀ z7 : Int, z7 = xdiv z6 65536 → ∀ z8 : Int, z8 = xrem z7 a1 → Q z8 h1) : Q v h' := by
  exact x_mef vr_drawBelow_k hs (fun _ _ _ => False) Q h0 (fun i Ti hT => by cases hT)
def vr_count_T : xT := [(2, [.inl 0, .inr 0], 16, 0), (10, [.inl 1, .inr 0], 0, 2), (0, [.inl 0], 0, 0), (11, [.inl 2], 0, 0), (10, [.inl 1, .inr 1], 0, 2), (0, [.inl 0], 15, 0), (11, [.inl 2], 0, 0), (10, [.inl 1, .inr 2], 0, 2), (0, [.inl 0], 9, 0), (11, [.inl 2], 0, 0), (10, [.inl 1, .inr 3], 0, 2), (13, [.inl 0], 198, 0),
  (11, [.inl 2], 0, 0), (10, [.inl 1, .inr 4], 0, 2), (13, [.inl 0], 224, 0), (11, [.inl 2], 0, 0), (10, [.inl 1, .inr 5], 0, 2), (0, [.inl 0], 19, 0), (11, [.inl 2], 0, 0), (10, [.inl 1, .inr 6], 0, 2), (0, [.inl 0], 38, 0), (11, [.inl 2], 0, 0), (10, [.inl 1, .inr 7], 0, 2), (0, [.inl 0], 34, 0),
  (11, [.inl 2], 0, 0), (8, [.inl 1, .inr 11], 18, 0), (10, [.inl 2, .inr 0], 2, 1), (11, [.inr (-9)], 0, 0), (8, [.inl 1, .inr 16], 18, 0), (10, [.inl 3, .inr 0], 4, 1), (11, [.inr (-9)], 0, 0), (8, [.inl 1, .inr 10], 1, 0), (1, [.inr 285, .inl 4], 0, 0), (11, [.inl 5], 0, 0)]
theorem vr_count_k : x_chk 252 [] vr_count_T [] 600 = true := by decide +kernel
theorem vr_count {a0 a1 v : Int} {h h' : fH} (hs : fS 252 [a0, a1] h v h') (Q : Int → fH → Prop) (h0 : ∀ h1 : fH, h1 = fu h a0 16 0 → ((a1 = 0 → ∀ z2 : Int, z2 = h1 a0 0 → Q z2 h1) ∧ (a1 ≠ 0 → ((a1 = 1 → ∀ z2 : Int, z2 = h1 a0 15 → Q z2 h1) ∧ (a1 ≠ 1 → ((a1 = 2 → ∀ z2 : Int, z2 = h1 a0 9 → Q z2 h1) ∧ (a1 ≠ 2 → ((a1 = 3 → ∀ (v2 : Int) (h2 : fH), fS 198 [a0] h1 v2 h2 → Q v2 h2) ∧ (a1 ≠ 3 → ((a1 = 4 → ∀ (v2 : Int) (h2 : fH), fS 224 [a0] h1 v2 h2 → Q v2 h2) ∧ (a1 ≠ 4 → ((a1 = 5 → ∀ z2 : Int, z2 = h1 a0 19 → Q z2 h1) ∧ (a1 ≠ 5 → ((a1 = 6 → ∀ z2 : Int, z2 = h1 a0 38 → Q z2 h1) ∧ (a1 ≠ 6 → ((a1 = 7 → ∀ z2 : Int, z2 = h1 a0 34 → Q z2 h1) ∧ (a1 ≠ 7 → ∀ z2 : Int, z2 = xlcmp a1 11 → ((z2 < 0 → Q (-9) h1) ∧ (0 ≤ z2 → ∀ z3 : Int, z3 = xlcmp a1 16 → ((0 < z3 → Q (-9) h1) ∧ (z3 ≤ 0 → ∀ z4 : Int, z4 = wr (a1 - 10) → ∀ z5 : Int, z5 = h1 285 z4 → Q z5 h1))))))))))))))))))))) : Q v h' := by
  exact x_mef vr_count_k hs (fun _ _ _ => False) Q h0 (fun i Ti hT => by cases hT)
end
