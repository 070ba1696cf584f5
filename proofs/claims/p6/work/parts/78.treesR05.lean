/-! the trees of the methods (made by a program) -/
def vr_days_T : xT := [(2, [.inl 0, .inr 0], 16, 0), (10, [.inl 1, .inr 1], 3, 19), (10, [.inl 1, .inr 60], 5, 13), (0, [.inl 0], 15, 0), (8, [.inl 2, .inl 1], 0, 0), (10, [.inl 3, .inr 999], 5, 5), (13, [.inl 0], 192, 0), (13, [.inl 0, .inl 1], 172, 0), (13, [.inl 0], 198, 0), (13, [.inl 6], 199, 0), (11, [.inl 7], 0, 0), (9, [.inr (-6)], 0, 0),
  (1, [.inr 285, .inl 4], 0, 0), (8, [.inl 5, .inr 1], 0, 0), (3, [.inr 285, .inl 4, .inl 6], 0, 0), (11, [.inr (-6)], 0, 0), (9, [.inr (-6)], 0, 0), (1, [.inr 285, .inl 2], 0, 0), (8, [.inl 3, .inr 1], 0, 0), (3, [.inr 285, .inl 2, .inl 4], 0, 0), (11, [.inr (-6)], 0, 0), (9, [.inr (-4)], 0, 0), (1, [.inr 285, .inl 2], 0, 0), (8, [.inl 3, .inr 1], 0, 0),
  (3, [.inr 285, .inl 2, .inl 4], 0, 0), (11, [.inr (-4)], 0, 0)]
theorem vr_days_k : x_chk 197 [] vr_days_T [] 600 = true := by decide +kernel
theorem vr_days {a0 a1 v : Int} {h h' : fH} (hs : fS 197 [a0, a1] h v h') (Q : Int → fH → Prop) (h0 : ∀ h1 : fH, h1 = fu h a0 16 0 → ((1 ≤ a1 → ((a1 ≤ 60 → ∀ z2 : Int, z2 = h1 a0 15 → ∀ z3 : Int, z3 = wr (z2 + a1) → ((z3 ≤ 999 → ∀ (v2 : Int) (h2 : fH), fS 192 [a0] h1 v2 h2 → ∀ (v3 : Int) (h3 : fH), fS 172 [a0, a1] h2 v3 h3 → ∀ (v4 : Int) (h4 : fH), fS 198 [a0] h3 v4 h4 → ∀ (v5 : Int) (h5 : fH), fS 199 [v4] h4 v5 h5 → Q v5 h5) ∧ (999 < z3 → ∀ z4 : Int, z4 = wr (-(-6)) → ∀ z5 : Int, z5 = h1 285 z4 → ∀ z6 : Int, z6 = wr (z5 + 1) → ∀ h2 : fH, h2 = fu h1 285 z4 z6 → Q (-6) h2))) ∧ (60 < a1 → ∀ z2 : Int, z2 = wr (-(-6)) → ∀ z3 : Int, z3 = h1 285 z2 → ∀ z4 : Int, z4 = wr (z3 + 1) → ∀ h2 : fH, h2 = fu h1 285 z2 z4 → Q (-6) h2))) ∧ (a1 < 1 → ∀ z2 : Int, z2 = wr (-(-4)) → ∀ z3 : Int, z3 = h1 285 z2 → ∀ z4 : Int, z4 = wr (z3 + 1) → ∀ h2 : fH, h2 = fu h1 285 z2 z4 → Q (-4) h2))) : Q v h' := by
  exact x_mef vr_days_k hs (fun _ _ _ => False) Q h0 (fun i Ti hT => by cases hT)
def vr_wedBits_T : xT := [(12, [.inl 0, .inr 0, .inr 0], 0, 0)]
def vr_wedBits_T0 : xT := [(0, [.inl 0], 0, 0), (10, [.inl 2, .inl 3], 3, 1), (11, [.inl 1], 0, 0), (1, [.inr 276, .inl 2], 0, 0), (10, [.inl 4, .inr 0], 5, 3), (8, [.inl 1, .inr 0], 4, 0), (8, [.inl 2, .inr 1], 0, 0), (12, [.inl 0, .inl 5, .inl 6], 0, 0), (8, [.inr 1, .inl 2], 6, 0), (8, [.inl 1, .inl 5], 4, 0), (8, [.inl 2, .inr 1], 0, 0), (12, [.inl 0, .inl 6, .inl 7], 0, 0)]
theorem vr_wedBits_k : x_chk 198 [(4, [(0, 0), (1, 0), (2, 0)])] vr_wedBits_T [vr_wedBits_T0] 600 = true := by decide +kernel
theorem vr_wedBits {a0 v : Int} {h h' : fH} (hs : fS 198 [a0] h v h') (I0 : Int → Int → Int → fH → Prop) (Q : Int → fH → Prop) (h0 : I0 a0 0 0 h) (k0 : ∀ (x0 x1 x2 : Int) (h : fH), I0 x0 x1 x2 h → ∀ z3 : Int, z3 = h x0 0 → ((z3 ≤ x2 → Q x1 h) ∧ (x2 < z3 → ∀ z4 : Int, z4 = h 276 x2 → ((z4 ≤ 0 → ∀ z5 : Int, z5 = xor' x1 0 → ∀ z6 : Int, z6 = wr (x2 + 1) → I0 x0 z5 z6 h) ∧ (0 < z4 → ∀ z5 : Int, z5 = xshl 1 x2 → ∀ z6 : Int, z6 = xor' x1 z5 → ∀ z7 : Int, z7 = wr (x2 + 1) → I0 x0 z6 z7 h))))) : Q v h' := by
  refine x_mef vr_wedBits_k hs (fun k l h => match k with
    | 0 => (match l with | [x0, x1, x2] => I0 x0 x1 x2 h | _ => False)
    | _ => False) Q h0 ?_
  intro i Ti hT vals h hi
  match i, hT, hi with
  | 0, hT, hi =>
    cases hT
    match vals, hi with
    | [x0, x1, x2], hi => exact k0 _ _ _ _ hi
    | [], hi => exact False.elim hi
    | [_], hi => exact False.elim hi
    | [_, _], hi => exact False.elim hi
    | _ :: _ :: _ :: _ :: _, hi => exact False.elim hi
  | _ + 1, hT, _ => cases hT
def vr_onesOf_T : xT := [(12, [.inr 0, .inl 0], 0, 0)]
def vr_onesOf_T0 : xT := [(10, [.inl 1, .inr 0], 0, 1), (11, [.inl 0], 0, 0), (8, [.inl 0, .inr 1], 0, 0), (8, [.inl 1, .inr 1], 1, 0), (8, [.inl 1, .inl 3], 3, 0), (12, [.inl 2, .inl 4], 0, 0)]
theorem vr_onesOf_k : x_chk 199 [(4, [(1, 0), (2, 0)])] vr_onesOf_T [vr_onesOf_T0] 600 = true := by decide +kernel
theorem vr_onesOf {a0 v : Int} {h h' : fH} (hs : fS 199 [a0] h v h') (I0 : Int → Int → fH → Prop) (Q : Int → fH → Prop) (h0 : I0 0 a0 h) (k0 : ∀ (x1 x2 : Int) (h : fH), I0 x1 x2 h → ((x2 = 0 → Q x1 h) ∧ (x2 ≠ 0 → ∀ z2 : Int, z2 = wr (x1 + 1) → ∀ z3 : Int, z3 = wr (x2 - 1) → ∀ z4 : Int, z4 = xand x2 z3 → I0 z2 z4 h))) : Q v h' := by
  refine x_mef vr_onesOf_k hs (fun k l h => match k with
    | 0 => (match l with | [x1, x2] => I0 x1 x2 h | _ => False)
    | _ => False) Q h0 ?_
  intro i Ti hT vals h hi
  match i, hT, hi with
  | 0, hT, hi =>
    cases hT
    match vals, hi with
    | [x1, x2], hi => exact k0 _ _ _ hi
    | [], hi => exact False.elim hi
    | [_], hi => exact False.elim hi
    | _ :: _ :: _ :: _, hi => exact False.elim hi
  | _ + 1, hT, _ => cases hT
def vr_personIn_T : xT := [(2, [.inl 0, .inr 0], 16, 0), (0, [.inl 0], 0, 0), (8, [.inl 4, .inr 1], 1, 0), (8, [.inl 1, .inr 0], 18, 0), (10, [.inl 6, .inr 0], 2, 5), (9, [.inr (-1)], 0, 0), (1, [.inr 285, .inl 7], 0, 0), (8, [.inl 8, .inr 1], 0, 0), (3, [.inr 285, .inl 7, .inl 9], 0, 0), (11, [.inr (-1)], 0, 0), (8, [.inl 1, .inl 5], 18, 0), (10, [.inl 7, .inr 0], 4, 5),
  (9, [.inr (-1)], 0, 0), (1, [.inr 285, .inl 8], 0, 0), (8, [.inl 9, .inr 1], 0, 0), (3, [.inr 285, .inl 8, .inl 10], 0, 0), (11, [.inr (-1)], 0, 0), (10, [.inl 2, .inr 0], 3, 34), (10, [.inl 2, .inr 60], 5, 28), (8, [.inl 3, .inr 0], 18, 0), (10, [.inl 8, .inr 0], 2, 5), (9, [.inr (-2)], 0, 0), (1, [.inr 285, .inl 9], 0, 0), (8, [.inl 10, .inr 1], 0, 0),
  (3, [.inr 285, .inl 9, .inl 11], 0, 0), (11, [.inr (-2)], 0, 0), (8, [.inl 3, .inr 1], 18, 0), (10, [.inl 9, .inr 0], 4, 5), (9, [.inr (-2)], 0, 0), (1, [.inr 285, .inl 10], 0, 0), (8, [.inl 11, .inr 1], 0, 0), (3, [.inr 285, .inl 10, .inl 12], 0, 0), (11, [.inr (-2)], 0, 0), (13, [.inl 0, .inr 290, .inr 1], 159, 0), (13, [.inl 0, .inl 2], 172, 0), (10, [.inl 3, .inr 1], 1, 8),
  (1, [.inr 276, .inl 1], 0, 0), (10, [.inl 12, .inr 0], 1, 4), (1, [.inr 276, .inl 1], 0, 0), (8, [.inl 13, .inr 1], 1, 0), (13, [.inl 0, .inr 290, .inr 0], 159, 0), (11, [.inl 14], 0, 0), (13, [.inl 0, .inr 290, .inr 0], 159, 0), (11, [.inr (-9)], 0, 0), (1, [.inr 275, .inl 1], 0, 0), (13, [.inl 0, .inr 290, .inr 0], 159, 0), (11, [.inl 12], 0, 0), (9, [.inr (-6)], 0, 0),
  (1, [.inr 285, .inl 8], 0, 0), (8, [.inl 9, .inr 1], 0, 0), (3, [.inr 285, .inl 8, .inl 10], 0, 0), (11, [.inr (-6)], 0, 0), (9, [.inr (-4)], 0, 0), (1, [.inr 285, .inl 8], 0, 0), (8, [.inl 9, .inr 1], 0, 0), (3, [.inr 285, .inl 8, .inl 10], 0, 0), (11, [.inr (-4)], 0, 0)]
theorem vr_personIn_k : x_chk 200 [] vr_personIn_T [] 600 = true := by decide +kernel
theorem vr_personIn {a0 a1 a2 a3 v : Int} {h h' : fH} (hs : fS 200 [a0, a1, a2, a3] h v h') (Q : Int → fH → Prop) (h0 : ∀ h1 : fH, h1 = fu h a0 16 0 → ∀ z4 : Int, z4 = h1 a0 0 → ∀ z5 : Int, z5 = wr (z4 - 1) → ∀ z6 : Int, z6 = xlcmp a1 0 → ((z6 < 0 → ∀ z7 : Int, z7 = wr (-(-1)) → ∀ z8 : Int, z8 = h1 285 z7 → ∀ z9 : Int, z9 = wr (z8 + 1) → ∀ h2 : fH, h2 = fu h1 285 z7 z9 → Q (-1) h2) ∧ (0 ≤ z6 → ∀ z7 : Int, z7 = xlcmp a1 z5 → ((0 < z7 → ∀ z8 : Int, z8 = wr (-(-1)) → ∀ z9 : Int, z9 = h1 285 z8 → ∀ z10 : Int, z10 = wr (z9 + 1) → ∀ h2 : fH, h2 = fu h1 285 z8 z10 → Q (-1) h2) ∧ (z7 ≤ 0 → ((0 ≤ a2 → ((a2 ≤ 60 → ∀ z8 : Int, z8 = xlcmp a3 0 → ((z8 < 0 → ∀ z9 : Int, z9 = wr (-(-2)) → ∀ z10 : Int, z10 = h1 285 z9 → ∀ z11 : Int, z11 = wr (z10 + 1) → ∀ h2 : fH, h2 = fu h1 285 z9 z11 → Q (-2) h2) ∧ (0 ≤ z8 → ∀ z9 : Int, z9 = xlcmp a3 1 → ((0 < z9 → ∀ z10 : Int, z10 = wr (-(-2)) → ∀ z11 : Int, z11 = h1 285 z10 → ∀ z12 : Int, z12 = wr (z11 + 1) → ∀ h2 : fH, h2 = fu h1 285 z10 z12 → Q (-2) h2) ∧ (z9 ≤ 0 → ∀ (v2 : Int) (h2 : fH), fS 159 [a0, 290, 1] h1 v2 h2 → ∀ (v3 : Int) (h3 : fH), fS 172 [a0, a2] h2 v3 h3 → ((a3 ≠ 1 → ∀ z12 : Int, z12 = h3 276 a1 → ((z12 ≠ 0 → ∀ z13 : Int, z13 = h3 276 a1 → ∀ z14 : Int, z14 = wr (z13 - 1) → ∀ (v4 : Int) (h4 : fH), fS 159 [a0, 290, 0] h3 v4 h4 → Q z14 h4) ∧ (z12 = 0 → ∀ (v4 : Int) (h4 : fH), fS 159 [a0, 290, 0] h3 v4 h4 → Q (-9) h4))) ∧ (a3 = 1 → ∀ z12 : Int, z12 = h3 275 a1 → ∀ (v4 : Int) (h4 : fH), fS 159 [a0, 290, 0] h3 v4 h4 → Q z12 h4))))))) ∧ (60 < a2 → ∀ z8 : Int, z8 = wr (-(-6)) → ∀ z9 : Int, z9 = h1 285 z8 → ∀ z10 : Int, z10 = wr (z9 + 1) → ∀ h2 : fH, h2 = fu h1 285 z8 z10 → Q (-6) h2))) ∧ (a2 < 0 → ∀ z8 : Int, z8 = wr (-(-4)) → ∀ z9 : Int, z9 = h1 285 z8 → ∀ z10 : Int, z10 = wr (z9 + 1) → ∀ h2 : fH, h2 = fu h1 285 z8 z10 → Q (-4) h2))))))) : Q v h' := by
  exact x_mef vr_personIn_k hs (fun _ _ _ => False) Q h0 (fun i Ti hT => by cases hT)
def vr_beliefIn_T : xT := [(2, [.inl 0, .inr 0], 16, 0), (0, [.inl 0], 0, 0), (8, [.inl 4, .inr 1], 1, 0), (8, [.inl 1, .inr 0], 18, 0), (10, [.inl 6, .inr 0], 2, 5), (9, [.inr (-1)], 0, 0), (1, [.inr 285, .inl 7], 0, 0), (8, [.inl 8, .inr 1], 0, 0), (3, [.inr 285, .inl 7, .inl 9], 0, 0), (11, [.inr (-1)], 0, 0), (8, [.inl 1, .inl 5], 18, 0), (10, [.inl 7, .inr 0], 4, 5),
  (9, [.inr (-1)], 0, 0), (1, [.inr 285, .inl 8], 0, 0), (8, [.inl 9, .inr 1], 0, 0), (3, [.inr 285, .inl 8, .inl 10], 0, 0), (11, [.inr (-1)], 0, 0), (8, [.inl 2, .inr 0], 18, 0), (10, [.inl 8, .inr 0], 2, 5), (9, [.inr (-1)], 0, 0), (1, [.inr 285, .inl 9], 0, 0), (8, [.inl 10, .inr 1], 0, 0), (3, [.inr 285, .inl 9, .inl 11], 0, 0), (11, [.inr (-1)], 0, 0),
  (8, [.inl 2, .inr 4], 18, 0), (10, [.inl 9, .inr 0], 4, 5), (9, [.inr (-1)], 0, 0), (1, [.inr 285, .inl 10], 0, 0), (8, [.inl 11, .inr 1], 0, 0), (3, [.inr 285, .inl 10, .inl 12], 0, 0), (11, [.inr (-1)], 0, 0), (10, [.inl 3, .inr 0], 3, 8), (10, [.inl 3, .inr 60], 5, 2), (13, [.inl 0, .inl 1, .inl 2, .inl 3], 202, 0), (11, [.inl 10], 0, 0), (9, [.inr (-6)], 0, 0),
  (1, [.inr 285, .inl 10], 0, 0), (8, [.inl 11, .inr 1], 0, 0), (3, [.inr 285, .inl 10, .inl 12], 0, 0), (11, [.inr (-6)], 0, 0), (9, [.inr (-4)], 0, 0), (1, [.inr 285, .inl 10], 0, 0), (8, [.inl 11, .inr 1], 0, 0), (3, [.inr 285, .inl 10, .inl 12], 0, 0), (11, [.inr (-4)], 0, 0)]
theorem vr_beliefIn_k : x_chk 201 [] vr_beliefIn_T [] 600 = true := by decide +kernel
theorem vr_beliefIn {a0 a1 a2 a3 v : Int} {h h' : fH} (hs : fS 201 [a0, a1, a2, a3] h v h') (Q : Int → fH → Prop) (h0 : ∀ h1 : fH, h1 = fu h a0 16 0 → ∀ z4 : Int, z4 = h1 a0 0 → ∀ z5 : Int, z5 = wr (z4 - 1) → ∀ z6 : Int, z6 = xlcmp a1 0 → ((z6 < 0 → ∀ z7 : Int, z7 = wr (-(-1)) → ∀ z8 : Int, z8 = h1 285 z7 → ∀ z9 : Int, z9 = wr (z8 + 1) → ∀ h2 : fH, h2 = fu h1 285 z7 z9 → Q (-1) h2) ∧ (0 ≤ z6 → ∀ z7 : Int, z7 = xlcmp a1 z5 → ((0 < z7 → ∀ z8 : Int, z8 = wr (-(-1)) → ∀ z9 : Int, z9 = h1 285 z8 → ∀ z10 : Int, z10 = wr (z9 + 1) → ∀ h2 : fH, h2 = fu h1 285 z8 z10 → Q (-1) h2) ∧ (z7 ≤ 0 → ∀ z8 : Int, z8 = xlcmp a2 0 → ((z8 < 0 → ∀ z9 : Int, z9 = wr (-(-1)) → ∀ z10 : Int, z10 = h1 285 z9 → ∀ z11 : Int, z11 = wr (z10 + 1) → ∀ h2 : fH, h2 = fu h1 285 z9 z11 → Q (-1) h2) ∧ (0 ≤ z8 → ∀ z9 : Int, z9 = xlcmp a2 4 → ((0 < z9 → ∀ z10 : Int, z10 = wr (-(-1)) → ∀ z11 : Int, z11 = h1 285 z10 → ∀ z12 : Int, z12 = wr (z11 + 1) → ∀ h2 : fH, h2 = fu h1 285 z10 z12 → Q (-1) h2) ∧ (z9 ≤ 0 → ((0 ≤ a3 → ((a3 ≤ 60 → ∀ (v2 : Int) (h2 : fH), fS 202 [a0, a1, a2, a3] h1 v2 h2 → Q v2 h2) ∧ (60 < a3 → ∀ z10 : Int, z10 = wr (-(-6)) → ∀ z11 : Int, z11 = h1 285 z10 → ∀ z12 : Int, z12 = wr (z11 + 1) → ∀ h2 : fH, h2 = fu h1 285 z10 z12 → Q (-6) h2))) ∧ (a3 < 0 → ∀ z10 : Int, z10 = wr (-(-4)) → ∀ z11 : Int, z11 = h1 285 z10 → ∀ z12 : Int, z12 = wr (z11 + 1) → ∀ h2 : fH, h2 = fu h1 285 z10 z12 → Q (-4) h2))))))))))) : Q v h' := by
  exact x_mef vr_beliefIn_k hs (fun _ _ _ => False) Q h0 (fun i Ti hT => by cases hT)
def vr_beliefThen_T : xT := [(13, [.inl 0, .inr 290, .inr 1], 159, 0), (13, [.inl 0, .inl 3], 172, 0), (8, [.inr 5, .inl 1], 2, 0), (8, [.inl 6, .inl 2], 0, 0), (1, [.inr 277, .inl 7], 0, 0), (13, [.inl 0, .inr 290, .inr 0], 159, 0), (11, [.inl 8], 0, 0)]
theorem vr_beliefThen_k : x_chk 202 [] vr_beliefThen_T [] 600 = true := by decide +kernel
theorem vr_beliefThen {a0 a1 a2 a3 v : Int} {h h' : fH} (hs : fS 202 [a0, a1, a2, a3] h v h') (Q : Int → fH → Prop) (h0 : ∀ (v1 : Int) (h1 : fH), fS 159 [a0, 290, 1] h v1 h1 → ∀ (v2 : Int) (h2 : fH), fS 172 [a0, a3] h1 v2 h2 → ∀ z6 : Int, z6 = wr (5 * a1) → ∀ z7 : Int, z7 = wr (z6 + a2) → ∀ z8 : Int, z8 = h2 277 z7 → ∀ (v3 : Int) (h3 : fH), fS 159 [a0, 290, 0] h2 v3 h3 → Q z8 h3) : Q v h' := by
  exact x_mef vr_beliefThen_k hs (fun _ _ _ => False) Q h0 (fun i Ti hT => by cases hT)
def vr_wedIn_T : xT := [(2, [.inl 0, .inr 0], 16, 0), (10, [.inl 1, .inr 0], 3, 9), (10, [.inl 1, .inr 60], 5, 3), (13, [.inl 0, .inr 290, .inr 1], 159, 0), (13, [.inl 0, .inl 1], 204, 0), (11, [.inl 3], 0, 0), (9, [.inr (-6)], 0, 0), (1, [.inr 285, .inl 2], 0, 0), (8, [.inl 3, .inr 1], 0, 0), (3, [.inr 285, .inl 2, .inl 4], 0, 0), (11, [.inr (-6)], 0, 0), (9, [.inr (-4)], 0, 0),
  (1, [.inr 285, .inl 2], 0, 0), (8, [.inl 3, .inr 1], 0, 0), (3, [.inr 285, .inl 2, .inl 4], 0, 0), (11, [.inr (-4)], 0, 0)]
theorem vr_wedIn_k : x_chk 203 [] vr_wedIn_T [] 600 = true := by decide +kernel
theorem vr_wedIn {a0 a1 v : Int} {h h' : fH} (hs : fS 203 [a0, a1] h v h') (Q : Int → fH → Prop) (h0 : ∀ h1 : fH, h1 = fu h a0 16 0 → ((0 ≤ a1 → ((a1 ≤ 60 → ∀ (v2 : Int) (h2 : fH), fS 159 [a0, 290, 1] h1 v2 h2 → ∀ (v3 : Int) (h3 : fH), fS 204 [a0, a1] h2 v3 h3 → Q v3 h3) ∧ (60 < a1 → ∀ z2 : Int, z2 = wr (-(-6)) → ∀ z3 : Int, z3 = h1 285 z2 → ∀ z4 : Int, z4 = wr (z3 + 1) → ∀ h2 : fH, h2 = fu h1 285 z2 z4 → Q (-6) h2))) ∧ (a1 < 0 → ∀ z2 : Int, z2 = wr (-(-4)) → ∀ z3 : Int, z3 = h1 285 z2 → ∀ z4 : Int, z4 = wr (z3 + 1) → ∀ h2 : fH, h2 = fu h1 285 z2 z4 → Q (-4) h2))) : Q v h' := by
  exact x_mef vr_wedIn_k hs (fun _ _ _ => False) Q h0 (fun i Ti hT => by cases hT)
def vr_wedThen_T : xT := [(13, [.inl 0, .inl 1], 172, 0), (13, [.inl 0], 198, 0), (13, [.inl 3], 199, 0), (13, [.inl 0, .inr 290, .inr 0], 159, 0), (11, [.inl 4], 0, 0)]
theorem vr_wedThen_k : x_chk 204 [] vr_wedThen_T [] 600 = true := by decide +kernel
theorem vr_wedThen {a0 a1 v : Int} {h h' : fH} (hs : fS 204 [a0, a1] h v h') (Q : Int → fH → Prop) (h0 : ∀ (v1 : Int) (h1 : fH), fS 172 [a0, a1] h v1 h1 → ∀ (v2 : Int) (h2 : fH), fS 198 [a0] h1 v2 h2 → ∀ (v3 : Int) (h3 : fH), fS 199 [v2] h2 v3 h3 → ∀ (v4 : Int) (h4 : fH), fS 159 [a0, 290, 0] h3 v4 h4 → Q v3 h4) : Q v h' := by
  exact x_mef vr_wedThen_k hs (fun _ _ _ => False) Q h0 (fun i Ti hT => by cases hT)
def vr_wedWhen_T : xT := [(2, [.inl 0, .inr 0], 16, 0), (0, [.inl 0], 0, 0), (8, [.inl 2, .inr 1], 1, 0), (8, [.inl 1, .inr (-1)], 18, 0), (10, [.inl 4, .inr 0], 2, 5), (9, [.inr (-1)], 0, 0), (1, [.inr 285, .inl 5], 0, 0), (8, [.inl 6, .inr 1], 0, 0), (3, [.inr 285, .inl 5, .inl 7], 0, 0), (11, [.inr (-1)], 0, 0), (8, [.inl 1, .inl 3], 18, 0), (10, [.inl 5, .inr 0], 4, 5),
  (9, [.inr (-1)], 0, 0), (1, [.inr 285, .inl 6], 0, 0), (8, [.inl 7, .inr 1], 0, 0), (3, [.inr 285, .inl 6, .inl 8], 0, 0), (11, [.inr (-1)], 0, 0), (10, [.inl 1, .inr 0], 2, 1), (12, [.inl 0, .inr (-9), .inr 61, .inr 0], 0, 0), (13, [.inl 0, .inl 1], 206, 0), (10, [.inl 6, .inr 61], 1, 1), (11, [.inl 6], 0, 0), (11, [.inr (-9)], 0, 0)]
def vr_wedWhen_T0 : xT := [(0, [.inl 0], 0, 0), (10, [.inl 3, .inl 4], 3, 1), (11, [.inl 1], 0, 0), (1, [.inr 276, .inl 3], 0, 0), (10, [.inl 5, .inr 0], 5, 12), (13, [.inl 0, .inl 3], 206, 0), (10, [.inl 6, .inl 2], 3, 5), (10, [.inl 6, .inl 2], 3, 2), (8, [.inl 3, .inr 1], 0, 0), (12, [.inl 0, .inl 1, .inl 2, .inl 7], 0, 0), (8, [.inl 3, .inr 1], 0, 0), (12, [.inl 0, .inl 1, .inl 6, .inl 7], 0, 0),
  (10, [.inl 6, .inl 2], 3, 2), (8, [.inl 3, .inr 1], 0, 0), (12, [.inl 0, .inl 3, .inl 2, .inl 7], 0, 0), (8, [.inl 3, .inr 1], 0, 0), (12, [.inl 0, .inl 3, .inl 6, .inl 7], 0, 0), (10, [.inr 61, .inl 2], 3, 5), (10, [.inr 61, .inl 2], 3, 2), (8, [.inl 3, .inr 1], 0, 0), (12, [.inl 0, .inl 1, .inl 2, .inl 6], 0, 0), (8, [.inl 3, .inr 1], 0, 0), (12, [.inl 0, .inl 1, .inr 61, .inl 6], 0, 0), (10, [.inr 61, .inl 2], 3, 2),
  (8, [.inl 3, .inr 1], 0, 0), (12, [.inl 0, .inl 3, .inl 2, .inl 6], 0, 0), (8, [.inl 3, .inr 1], 0, 0), (12, [.inl 0, .inl 3, .inr 61, .inl 6], 0, 0)]
theorem vr_wedWhen_k : x_chk 205 [(61, [(0, 0), (2, 0), (3, 0), (4, 0)])] vr_wedWhen_T [vr_wedWhen_T0] 600 = true := by decide +kernel
theorem vr_wedWhen {a0 a1 v : Int} {h h' : fH} (hs : fS 205 [a0, a1] h v h') (I0 : Int → Int → Int → Int → fH → Prop) (Q : Int → fH → Prop) (h0 : ∀ h1 : fH, h1 = fu h a0 16 0 → ∀ z2 : Int, z2 = h1 a0 0 → ∀ z3 : Int, z3 = wr (z2 - 1) → ∀ z4 : Int, z4 = xlcmp a1 (-1) → ((z4 < 0 → ∀ z5 : Int, z5 = wr (-(-1)) → ∀ z6 : Int, z6 = h1 285 z5 → ∀ z7 : Int, z7 = wr (z6 + 1) → ∀ h2 : fH, h2 = fu h1 285 z5 z7 → Q (-1) h2) ∧ (0 ≤ z4 → ∀ z5 : Int, z5 = xlcmp a1 z3 → ((0 < z5 → ∀ z6 : Int, z6 = wr (-(-1)) → ∀ z7 : Int, z7 = h1 285 z6 → ∀ z8 : Int, z8 = wr (z7 + 1) → ∀ h2 : fH, h2 = fu h1 285 z6 z8 → Q (-1) h2) ∧ (z5 ≤ 0 → ((a1 < 0 → I0 a0 (-9) 61 0 h1) ∧ (0 ≤ a1 → ∀ (v2 : Int) (h2 : fH), fS 206 [a0, a1] h1 v2 h2 → ((v2 ≠ 61 → Q v2 h2) ∧ (v2 = 61 → Q (-9) h2))))))))) (k0 : ∀ (x0 x2 x3 x4 : Int) (h : fH), I0 x0 x2 x3 x4 h → ∀ z4 : Int, z4 = h x0 0 → ((z4 ≤ x4 → Q x2 h) ∧ (x4 < z4 → ∀ z5 : Int, z5 = h 276 x4 → ((z5 ≤ 0 → ∀ (v1 : Int) (h1 : fH), fS 206 [x0, x4] h v1 h1 → ((x3 ≤ v1 → ((x3 ≤ v1 → ∀ z7 : Int, z7 = wr (x4 + 1) → I0 x0 x2 x3 z7 h1) ∧ (v1 < x3 → ∀ z7 : Int, z7 = wr (x4 + 1) → I0 x0 x2 v1 z7 h1))) ∧ (v1 < x3 → ((x3 ≤ v1 → ∀ z7 : Int, z7 = wr (x4 + 1) → I0 x0 x4 x3 z7 h1) ∧ (v1 < x3 → ∀ z7 : Int, z7 = wr (x4 + 1) → I0 x0 x4 v1 z7 h1))))) ∧ (0 < z5 → ((x3 ≤ 61 → ((x3 ≤ 61 → ∀ z6 : Int, z6 = wr (x4 + 1) → I0 x0 x2 x3 z6 h) ∧ (61 < x3 → ∀ z6 : Int, z6 = wr (x4 + 1) → I0 x0 x2 61 z6 h))) ∧ (61 < x3 → ((x3 ≤ 61 → ∀ z6 : Int, z6 = wr (x4 + 1) → I0 x0 x4 x3 z6 h) ∧ (61 < x3 → ∀ z6 : Int, z6 = wr (x4 + 1) → I0 x0 x4 61 z6 h))))))))) : Q v h' := by
  refine x_mef vr_wedWhen_k hs (fun k l h => match k with
    | 0 => (match l with | [x0, x2, x3, x4] => I0 x0 x2 x3 x4 h | _ => False)
    | _ => False) Q h0 ?_
  intro i Ti hT vals h hi
  match i, hT, hi with
  | 0, hT, hi =>
    cases hT
    match vals, hi with
    | [x0, x2, x3, x4], hi => exact k0 _ _ _ _ _ hi
    | [], hi => exact False.elim hi
    | [_], hi => exact False.elim hi
    | [_, _], hi => exact False.elim hi
    | [_, _, _], hi => exact False.elim hi
    | _ :: _ :: _ :: _ :: _ :: _, hi => exact False.elim hi
  | _ + 1, hT, _ => cases hT
def vr_wedSoon_T : xT := [(13, [.inl 0, .inr 290, .inr 1], 159, 0), (12, [.inl 0, .inl 1, .inr 61, .inr 0], 0, 0)]
def vr_wedSoon_T0 : xT := [(10, [.inl 3, .inr 60], 4, 2), (13, [.inl 0, .inr 290, .inr 0], 159, 0), (11, [.inl 2], 0, 0), (10, [.inl 2, .inr 61], 1, 2), (13, [.inl 0, .inr 290, .inr 0], 159, 0), (11, [.inl 2], 0, 0), (1, [.inr 276, .inl 1], 0, 0), (10, [.inl 4, .inr 0], 5, 3), (13, [.inl 0, .inr 0], 173, 0), (8, [.inl 3, .inr 1], 0, 0), (12, [.inl 0, .inl 1, .inr 61, .inl 6], 0, 0), (13, [.inl 0, .inr 0], 173, 0),
  (8, [.inl 3, .inr 1], 0, 0), (12, [.inl 0, .inl 1, .inl 3, .inl 6], 0, 0)]
theorem vr_wedSoon_k : x_chk 206 [(9, [(0, 0), (1, 0), (2, 0), (3, 0)])] vr_wedSoon_T [vr_wedSoon_T0] 600 = true := by decide +kernel
theorem vr_wedSoon {a0 a1 v : Int} {h h' : fH} (hs : fS 206 [a0, a1] h v h') (I0 : Int → Int → Int → Int → fH → Prop) (Q : Int → fH → Prop) (h0 : ∀ (v1 : Int) (h1 : fH), fS 159 [a0, 290, 1] h v1 h1 → I0 a0 a1 61 0 h1) (k0 : ∀ (x0 x1 x2 x3 : Int) (h : fH), I0 x0 x1 x2 x3 h → ((60 < x3 → ∀ (v1 : Int) (h1 : fH), fS 159 [x0, 290, 0] h v1 h1 → Q x2 h1) ∧ (x3 ≤ 60 → ((x2 ≠ 61 → ∀ (v1 : Int) (h1 : fH), fS 159 [x0, 290, 0] h v1 h1 → Q x2 h1) ∧ (x2 = 61 → ∀ z4 : Int, z4 = h 276 x1 → ((z4 ≤ 0 → ∀ (v1 : Int) (h1 : fH), fS 173 [x0, 0] h v1 h1 → ∀ z6 : Int, z6 = wr (x3 + 1) → I0 x0 x1 61 z6 h1) ∧ (0 < z4 → ∀ (v1 : Int) (h1 : fH), fS 173 [x0, 0] h v1 h1 → ∀ z6 : Int, z6 = wr (x3 + 1) → I0 x0 x1 x3 z6 h1))))))) : Q v h' := by
  refine x_mef vr_wedSoon_k hs (fun k l h => match k with
    | 0 => (match l with | [x0, x1, x2, x3] => I0 x0 x1 x2 x3 h | _ => False)
    | _ => False) Q h0 ?_
  intro i Ti hT vals h hi
  match i, hT, hi with
  | 0, hT, hi =>
    cases hT
    match vals, hi with
    | [x0, x1, x2, x3], hi => exact k0 _ _ _ _ _ hi
    | [], hi => exact False.elim hi
    | [_], hi => exact False.elim hi
    | [_, _], hi => exact False.elim hi
    | [_, _, _], hi => exact False.elim hi
    | _ :: _ :: _ :: _ :: _ :: _, hi => exact False.elim hi
  | _ + 1, hT, _ => cases hT
def vr_happens_T : xT := [(2, [.inl 0, .inr 0], 16, 0), (8, [.inl 1, .inr 0], 18, 0), (10, [.inl 3, .inr 0], 2, 5), (9, [.inr (-1)], 0, 0), (1, [.inr 285, .inl 4], 0, 0), (8, [.inl 5, .inr 1], 0, 0), (3, [.inr 285, .inl 4, .inl 6], 0, 0), (11, [.inr (-1)], 0, 0), (8, [.inl 1, .inr 4], 18, 0), (10, [.inl 4, .inr 0], 4, 5), (9, [.inr (-1)], 0, 0), (1, [.inr 285, .inl 5], 0, 0),
  (8, [.inl 6, .inr 1], 0, 0), (3, [.inr 285, .inl 5, .inl 7], 0, 0), (11, [.inr (-1)], 0, 0), (10, [.inl 2, .inr 0], 3, 7), (10, [.inl 2, .inr 60], 5, 1), (12, [.inl 0, .inl 1, .inl 2, .inr 0, .inr 1], 0, 0), (9, [.inr (-6)], 0, 0), (1, [.inr 285, .inl 5], 0, 0), (8, [.inl 6, .inr 1], 0, 0), (3, [.inr 285, .inl 5, .inl 7], 0, 0), (11, [.inr (-6)], 0, 0), (9, [.inr (-4)], 0, 0),
  (1, [.inr 285, .inl 5], 0, 0), (8, [.inl 6, .inr 1], 0, 0), (3, [.inr 285, .inl 5, .inl 7], 0, 0), (11, [.inr (-4)], 0, 0)]
def vr_happens_T0 : xT := [(10, [.inl 4, .inl 2], 4, 1), (11, [.inl 3], 0, 0), (0, [.inl 0], 15, 0), (8, [.inl 5, .inl 4], 0, 0), (1, [.inr 279, .inl 1], 0, 0), (8, [.inl 6, .inl 7], 0, 0), (1, [.inr 278, .inl 1], 0, 0), (8, [.inl 8, .inl 9], 10, 0), (10, [.inl 10, .inr 0], 1, 3), (8, [.inl 3, .inr 0], 0, 0), (8, [.inl 4, .inr 1], 0, 0), (12, [.inl 0, .inl 1, .inl 2, .inl 11, .inl 12], 0, 0),
  (8, [.inl 3, .inr 1], 0, 0), (8, [.inl 4, .inr 1], 0, 0), (12, [.inl 0, .inl 1, .inl 2, .inl 11, .inl 12], 0, 0)]
theorem vr_happens_k : x_chk 207 [(40, [(0, 0), (1, 0), (2, 0), (4, 0), (5, 0)])] vr_happens_T [vr_happens_T0] 600 = true := by decide +kernel
theorem vr_happens {a0 a1 a2 v : Int} {h h' : fH} (hs : fS 207 [a0, a1, a2] h v h') (I0 : Int → Int → Int → Int → Int → fH → Prop) (Q : Int → fH → Prop) (h0 : ∀ h1 : fH, h1 = fu h a0 16 0 → ∀ z3 : Int, z3 = xlcmp a1 0 → ((z3 < 0 → ∀ z4 : Int, z4 = wr (-(-1)) → ∀ z5 : Int, z5 = h1 285 z4 → ∀ z6 : Int, z6 = wr (z5 + 1) → ∀ h2 : fH, h2 = fu h1 285 z4 z6 → Q (-1) h2) ∧ (0 ≤ z3 → ∀ z4 : Int, z4 = xlcmp a1 4 → ((0 < z4 → ∀ z5 : Int, z5 = wr (-(-1)) → ∀ z6 : Int, z6 = h1 285 z5 → ∀ z7 : Int, z7 = wr (z6 + 1) → ∀ h2 : fH, h2 = fu h1 285 z5 z7 → Q (-1) h2) ∧ (z4 ≤ 0 → ((0 ≤ a2 → ((a2 ≤ 60 → I0 a0 a1 a2 0 1 h1) ∧ (60 < a2 → ∀ z5 : Int, z5 = wr (-(-6)) → ∀ z6 : Int, z6 = h1 285 z5 → ∀ z7 : Int, z7 = wr (z6 + 1) → ∀ h2 : fH, h2 = fu h1 285 z5 z7 → Q (-6) h2))) ∧ (a2 < 0 → ∀ z5 : Int, z5 = wr (-(-4)) → ∀ z6 : Int, z6 = h1 285 z5 → ∀ z7 : Int, z7 = wr (z6 + 1) → ∀ h2 : fH, h2 = fu h1 285 z5 z7 → Q (-4) h2))))))) (k0 : ∀ (x0 x1 x2 x4 x5 : Int) (h : fH), I0 x0 x1 x2 x4 x5 h → ((x2 < x5 → Q x4 h) ∧ (x5 ≤ x2 → ∀ z5 : Int, z5 = h x0 15 → ∀ z6 : Int, z6 = wr (z5 + x5) → ∀ z7 : Int, z7 = h 279 x1 → ∀ z8 : Int, z8 = wr (z6 + z7) → ∀ z9 : Int, z9 = h 278 x1 → ∀ z10 : Int, z10 = xrem z8 z9 → ((z10 ≠ 0 → ∀ z11 : Int, z11 = wr (x4 + 0) → ∀ z12 : Int, z12 = wr (x5 + 1) → I0 x0 x1 x2 z11 z12 h) ∧ (z10 = 0 → ∀ z11 : Int, z11 = wr (x4 + 1) → ∀ z12 : Int, z12 = wr (x5 + 1) → I0 x0 x1 x2 z11 z12 h))))) : Q v h' := by
  refine x_mef vr_happens_k hs (fun k l h => match k with
    | 0 => (match l with | [x0, x1, x2, x4, x5] => I0 x0 x1 x2 x4 x5 h | _ => False)
    | _ => False) Q h0 ?_
  intro i Ti hT vals h hi
  match i, hT, hi with
  | 0, hT, hi =>
    cases hT
    match vals, hi with
    | [x0, x1, x2, x4, x5], hi => exact k0 _ _ _ _ _ _ hi
    | [], hi => exact False.elim hi
    | [_], hi => exact False.elim hi
    | [_, _], hi => exact False.elim hi
    | [_, _, _], hi => exact False.elim hi
    | [_, _, _, _], hi => exact False.elim hi
    | _ :: _ :: _ :: _ :: _ :: _ :: _, hi => exact False.elim hi
  | _ + 1, hT, _ => cases hT
def vr_bet_T : xT := [(2, [.inl 0, .inr 0], 16, 0), (0, [.inl 0], 0, 0), (8, [.inl 3, .inr 1], 1, 0), (8, [.inl 1, .inr 0], 18, 0), (10, [.inl 5, .inr 0], 2, 5), (9, [.inr (-1)], 0, 0), (1, [.inr 285, .inl 6], 0, 0), (8, [.inl 7, .inr 1], 0, 0), (3, [.inr 285, .inl 6, .inl 8], 0, 0), (11, [.inr (-1)], 0, 0), (8, [.inl 1, .inl 4], 18, 0), (10, [.inl 6, .inr 0], 4, 5),
  (9, [.inr (-1)], 0, 0), (1, [.inr 285, .inl 7], 0, 0), (8, [.inl 8, .inr 1], 0, 0), (3, [.inr 285, .inl 7, .inl 9], 0, 0), (11, [.inr (-1)], 0, 0), (0, [.inl 0], 0, 0), (8, [.inl 7, .inr 1], 1, 0), (8, [.inl 2, .inr 0], 18, 0), (10, [.inl 9, .inr 0], 2, 5), (9, [.inr (-1)], 0, 0), (1, [.inr 285, .inl 10], 0, 0), (8, [.inl 11, .inr 1], 0, 0),
  (3, [.inr 285, .inl 10, .inl 12], 0, 0), (11, [.inr (-1)], 0, 0), (8, [.inl 2, .inl 8], 18, 0), (10, [.inl 10, .inr 0], 4, 5), (9, [.inr (-1)], 0, 0), (1, [.inr 285, .inl 11], 0, 0), (8, [.inl 12, .inr 1], 0, 0), (3, [.inr 285, .inl 11, .inl 13], 0, 0), (11, [.inr (-1)], 0, 0), (10, [.inl 1, .inl 2], 0, 5), (9, [.inr (-1)], 0, 0), (1, [.inr 285, .inl 11], 0, 0),
  (8, [.inl 12, .inr 1], 0, 0), (3, [.inr 285, .inl 11, .inl 13], 0, 0), (11, [.inr (-1)], 0, 0), (13, [.inl 0, .inl 1, .inl 2], 209, 0), (11, [.inl 11], 0, 0)]
theorem vr_bet_k : x_chk 208 [] vr_bet_T [] 600 = true := by decide +kernel
theorem vr_bet {a0 a1 a2 v : Int} {h h' : fH} (hs : fS 208 [a0, a1, a2] h v h') (Q : Int → fH → Prop) (h0 : ∀ h1 : fH, h1 = fu h a0 16 0 → ∀ z3 : Int, z3 = h1 a0 0 → ∀ z4 : Int, z4 = wr (z3 - 1) → ∀ z5 : Int, z5 = xlcmp a1 0 → ((z5 < 0 → ∀ z6 : Int, z6 = wr (-(-1)) → ∀ z7 : Int, z7 = h1 285 z6 → ∀ z8 : Int, z8 = wr (z7 + 1) → ∀ h2 : fH, h2 = fu h1 285 z6 z8 → Q (-1) h2) ∧ (0 ≤ z5 → ∀ z6 : Int, z6 = xlcmp a1 z4 → ((0 < z6 → ∀ z7 : Int, z7 = wr (-(-1)) → ∀ z8 : Int, z8 = h1 285 z7 → ∀ z9 : Int, z9 = wr (z8 + 1) → ∀ h2 : fH, h2 = fu h1 285 z7 z9 → Q (-1) h2) ∧ (z6 ≤ 0 → ∀ z7 : Int, z7 = h1 a0 0 → ∀ z8 : Int, z8 = wr (z7 - 1) → ∀ z9 : Int, z9 = xlcmp a2 0 → ((z9 < 0 → ∀ z10 : Int, z10 = wr (-(-1)) → ∀ z11 : Int, z11 = h1 285 z10 → ∀ z12 : Int, z12 = wr (z11 + 1) → ∀ h2 : fH, h2 = fu h1 285 z10 z12 → Q (-1) h2) ∧ (0 ≤ z9 → ∀ z10 : Int, z10 = xlcmp a2 z8 → ((0 < z10 → ∀ z11 : Int, z11 = wr (-(-1)) → ∀ z12 : Int, z12 = h1 285 z11 → ∀ z13 : Int, z13 = wr (z12 + 1) → ∀ h2 : fH, h2 = fu h1 285 z11 z13 → Q (-1) h2) ∧ (z10 ≤ 0 → ((a1 = a2 → ∀ z11 : Int, z11 = wr (-(-1)) → ∀ z12 : Int, z12 = h1 285 z11 → ∀ z13 : Int, z13 = wr (z12 + 1) → ∀ h2 : fH, h2 = fu h1 285 z11 z13 → Q (-1) h2) ∧ (a1 ≠ a2 → ∀ (v2 : Int) (h2 : fH), fS 209 [a0, a1, a2] h1 v2 h2 → Q v2 h2))))))))))) : Q v h' := by
  exact x_mef vr_bet_k hs (fun _ _ _ => False) Q h0 (fun i Ti hT => by cases hT)
