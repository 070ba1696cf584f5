/-! the trees of the methods (made by a program) -/
def vr_scorn_T : xT := [(2, [.inl 0, .inr 0], 16, 0), (8, [.inl 1, .inr 0], 18, 0), (10, [.inl 2, .inr 0], 2, 5), (9, [.inr (-1)], 0, 0), (1, [.inr 285, .inl 3], 0, 0), (8, [.inl 4, .inr 1], 0, 0), (3, [.inr 285, .inl 3, .inl 5], 0, 0), (11, [.inr (-1)], 0, 0), (8, [.inl 1, .inr 4], 18, 0), (10, [.inl 3, .inr 0], 4, 5), (9, [.inr (-1)], 0, 0), (1, [.inr 285, .inl 4], 0, 0),
  (8, [.inl 5, .inr 1], 0, 0), (3, [.inr 285, .inl 4, .inl 6], 0, 0), (11, [.inr (-1)], 0, 0), (12, [.inl 0, .inl 1, .inr 0, .inr 0], 0, 0)]
def vr_scorn_T0 : xT := [(0, [.inl 0], 0, 0), (10, [.inl 3, .inl 4], 3, 1), (11, [.inl 2], 0, 0), (8, [.inr 5, .inl 3], 2, 0), (8, [.inl 5, .inl 1], 0, 0), (1, [.inr 277, .inl 6], 0, 0), (8, [.inl 7, .inr 9], 10, 0), (10, [.inl 8, .inr 0], 1, 3), (8, [.inl 2, .inr 0], 0, 0), (8, [.inl 3, .inr 1], 0, 0), (12, [.inl 0, .inl 1, .inl 9, .inl 10], 0, 0), (8, [.inl 2, .inr 1], 0, 0),
  (8, [.inl 3, .inr 1], 0, 0), (12, [.inl 0, .inl 1, .inl 9, .inl 10], 0, 0)]
theorem vr_scorn_k : x_chk 241 [(22, [(0, 0), (1, 0), (2, 0), (3, 0)])] vr_scorn_T [vr_scorn_T0] 600 = true := by decide +kernel
theorem vr_scorn {a0 a1 v : Int} {h h' : fH} (hs : fS 241 [a0, a1] h v h') (I0 : Int → Int → Int → Int → fH → Prop) (Q : Int → fH → Prop) (h0 : ∀ h1 : fH, h1 = fu h a0 16 0 → ∀ z2 : Int, z2 = xlcmp a1 0 → ((z2 < 0 → ∀ z3 : Int, z3 = wr (-(-1)) → ∀ z4 : Int, z4 = h1 285 z3 → ∀ z5 : Int, z5 = wr (z4 + 1) → ∀ h2 : fH, h2 = fu h1 285 z3 z5 → Q (-1) h2) ∧ (0 ≤ z2 → ∀ z3 : Int, z3 = xlcmp a1 4 → ((0 < z3 → ∀ z4 : Int, z4 = wr (-(-1)) → ∀ z5 : Int, z5 = h1 285 z4 → ∀ z6 : Int, z6 = wr (z5 + 1) → ∀ h2 : fH, h2 = fu h1 285 z4 z6 → Q (-1) h2) ∧ (z3 ≤ 0 → I0 a0 a1 0 0 h1))))) (k0 : ∀ (x0 x1 x2 x3 : Int) (h : fH), I0 x0 x1 x2 x3 h → ∀ z4 : Int, z4 = h x0 0 → ((z4 ≤ x3 → Q x2 h) ∧ (x3 < z4 → ∀ z5 : Int, z5 = wr (5 * x3) → ∀ z6 : Int, z6 = wr (z5 + x1) → ∀ z7 : Int, z7 = h 277 z6 → ∀ z8 : Int, z8 = xrem z7 9 → ((z8 ≠ 0 → ∀ z9 : Int, z9 = wr (x2 + 0) → ∀ z10 : Int, z10 = wr (x3 + 1) → I0 x0 x1 z9 z10 h) ∧ (z8 = 0 → ∀ z9 : Int, z9 = wr (x2 + 1) → ∀ z10 : Int, z10 = wr (x3 + 1) → I0 x0 x1 z9 z10 h))))) : Q v h' := by
  refine x_mef vr_scorn_k hs (fun k l h => match k with
    | 0 => (match l with | [x0, x1, x2, x3] => I0 x0 x1 x2 x3 h | _ => False)
    | _ => False) Q h0 ?_
  intro i Ti hT vals h hi
  match i, hT, hi with
  | 0, hT, hi =>
    cases hT
    match vals, hi with
    | [x0, x1, x2, x3], hi => exact k0 _ _ _ _ _ hi
    | [], hi => exact False.elim hi
    | [_], hi => exact False.elim hi
    | [_, _], hi => exact False.elim hi
    | [_, _, _], hi => exact False.elim hi
    | _ :: _ :: _ :: _ :: _ :: _, hi => exact False.elim hi
  | _ + 1, hT, _ => cases hT
def vr_left_T : xT := [(2, [.inl 0, .inr 0], 16, 0), (10, [.inl 1, .inr 0], 0, 2), (13, [.inl 0], 243, 0), (11, [.inl 2], 0, 0), (10, [.inl 1, .inr 1], 0, 2), (13, [.inl 0], 244, 0), (11, [.inl 2], 0, 0), (10, [.inl 1, .inr 2], 0, 2), (13, [.inl 0], 245, 0), (11, [.inl 2], 0, 0), (10, [.inl 1, .inr 3], 0, 2), (13, [.inl 0, .inr 1], 236, 0),
  (11, [.inl 2], 0, 0), (10, [.inl 1, .inr 4], 0, 2), (13, [.inl 0, .inr 2], 236, 0), (11, [.inl 2], 0, 0), (9, [.inr (-2)], 0, 0), (1, [.inr 285, .inl 2], 0, 0), (8, [.inl 3, .inr 1], 0, 0), (3, [.inr 285, .inl 2, .inl 4], 0, 0), (11, [.inr (-2)], 0, 0)]
theorem vr_left_k : x_chk 242 [] vr_left_T [] 600 = true := by decide +kernel
theorem vr_left {a0 a1 v : Int} {h h' : fH} (hs : fS 242 [a0, a1] h v h') (Q : Int → fH → Prop) (h0 : ∀ h1 : fH, h1 = fu h a0 16 0 → ((a1 = 0 → ∀ (v2 : Int) (h2 : fH), fS 243 [a0] h1 v2 h2 → Q v2 h2) ∧ (a1 ≠ 0 → ((a1 = 1 → ∀ (v2 : Int) (h2 : fH), fS 244 [a0] h1 v2 h2 → Q v2 h2) ∧ (a1 ≠ 1 → ((a1 = 2 → ∀ (v2 : Int) (h2 : fH), fS 245 [a0] h1 v2 h2 → Q v2 h2) ∧ (a1 ≠ 2 → ((a1 = 3 → ∀ (v2 : Int) (h2 : fH), fS 236 [a0, 1] h1 v2 h2 → Q v2 h2) ∧ (a1 ≠ 3 → ((a1 = 4 → ∀ (v2 : Int) (h2 : fH), fS 236 [a0, 2] h1 v2 h2 → Q v2 h2) ∧ (a1 ≠ 4 → ∀ z2 : Int, z2 = wr (-(-2)) → ∀ z3 : Int, z3 = h1 285 z2 → ∀ z4 : Int, z4 = wr (z3 + 1) → ∀ h2 : fH, h2 = fu h1 285 z2 z4 → Q (-2) h2))))))))))) : Q v h' := by
  exact x_mef vr_left_k hs (fun _ _ _ => False) Q h0 (fun i Ti hT => by cases hT)
def vr_lastDays_T : xT := [(12, [.inl 0, .inr 0, .inr 0], 0, 0)]
def vr_lastDays_T0 : xT := [(0, [.inl 0], 9, 0), (10, [.inl 2, .inl 3], 3, 1), (11, [.inl 1], 0, 0), (1, [.inr 284, .inl 2], 0, 0), (10, [.inl 4, .inl 1], 5, 2), (8, [.inl 2, .inr 1], 0, 0), (12, [.inl 0, .inl 1, .inl 5], 0, 0), (1, [.inr 284, .inl 2], 0, 0), (8, [.inl 2, .inr 1], 0, 0), (12, [.inl 0, .inl 5, .inl 6], 0, 0)]
theorem vr_lastDays_k : x_chk 243 [(4, [(0, 0), (1, 0), (2, 0)])] vr_lastDays_T [vr_lastDays_T0] 600 = true := by decide +kernel
theorem vr_lastDays {a0 v : Int} {h h' : fH} (hs : fS 243 [a0] h v h') (I0 : Int → Int → Int → fH → Prop) (Q : Int → fH → Prop) (h0 : I0 a0 0 0 h) (k0 : ∀ (x0 x1 x2 : Int) (h : fH), I0 x0 x1 x2 h → ∀ z3 : Int, z3 = h x0 9 → ((z3 ≤ x2 → Q x1 h) ∧ (x2 < z3 → ∀ z4 : Int, z4 = h 284 x2 → ((z4 ≤ x1 → ∀ z5 : Int, z5 = wr (x2 + 1) → I0 x0 x1 z5 h) ∧ (x1 < z4 → ∀ z5 : Int, z5 = h 284 x2 → ∀ z6 : Int, z6 = wr (x2 + 1) → I0 x0 z5 z6 h))))) : Q v h' := by
  refine x_mef vr_lastDays_k hs (fun k l h => match k with
    | 0 => (match l with | [x0, x1, x2] => I0 x0 x1 x2 h | _ => False)
    | _ => False) Q h0 ?_
  intro i Ti hT vals h hi
  match i, hT, hi with
  | 0, hT, hi =>
    cases hT
    match vals, hi with
    | [x0, x1, x2], hi => exact k0 _ _ _ _ hi
    | [], hi => exact False.elim hi
    | [_], hi => exact False.elim hi
    | [_, _], hi => exact False.elim hi
    | _ :: _ :: _ :: _ :: _, hi => exact False.elim hi
  | _ + 1, hT, _ => cases hT
def vr_chasteRun_T : xT := [(13, [.inl 0, .inr 290, .inr 1], 159, 0), (12, [.inl 0, .inr 0, .inr 0, .inr 0], 0, 0)]
def vr_chasteRun_T0 : xT := [(10, [.inl 3, .inr 60], 3, 2), (13, [.inl 0, .inr 290, .inr 0], 159, 0), (11, [.inl 1], 0, 0), (13, [.inl 0], 198, 0), (13, [.inl 0, .inr 0], 173, 0), (13, [.inl 0], 198, 0), (10, [.inl 6, .inl 4], 1, 5), (10, [.inr 0, .inl 1], 5, 2), (8, [.inl 3, .inr 1], 0, 0), (12, [.inl 0, .inl 1, .inr 0, .inl 7], 0, 0), (8, [.inl 3, .inr 1], 0, 0), (12, [.inl 0, .inr 0, .inr 0, .inl 7], 0, 0),
  (8, [.inl 2, .inr 1], 0, 0), (10, [.inl 7, .inl 1], 5, 2), (8, [.inl 3, .inr 1], 0, 0), (12, [.inl 0, .inl 1, .inl 7, .inl 8], 0, 0), (8, [.inl 3, .inr 1], 0, 0), (12, [.inl 0, .inl 7, .inl 7, .inl 8], 0, 0)]
theorem vr_chasteRun_k : x_chk 244 [(10, [(0, 0), (1, 0), (2, 0), (3, 0)])] vr_chasteRun_T [vr_chasteRun_T0] 600 = true := by decide +kernel
theorem vr_chasteRun {a0 v : Int} {h h' : fH} (hs : fS 244 [a0] h v h') (I0 : Int → Int → Int → Int → fH → Prop) (Q : Int → fH → Prop) (h0 : ∀ (v1 : Int) (h1 : fH), fS 159 [a0, 290, 1] h v1 h1 → I0 a0 0 0 0 h1) (k0 : ∀ (x0 x1 x2 x3 : Int) (h : fH), I0 x0 x1 x2 x3 h → ((60 ≤ x3 → ∀ (v1 : Int) (h1 : fH), fS 159 [x0, 290, 0] h v1 h1 → Q x1 h1) ∧ (x3 < 60 → ∀ (v1 : Int) (h1 : fH), fS 198 [x0] h v1 h1 → ∀ (v2 : Int) (h2 : fH), fS 173 [x0, 0] h1 v2 h2 → ∀ (v3 : Int) (h3 : fH), fS 198 [x0] h2 v3 h3 → ((v3 ≠ v1 → ((0 ≤ x1 → ∀ z7 : Int, z7 = wr (x3 + 1) → I0 x0 x1 0 z7 h3) ∧ (x1 < 0 → ∀ z7 : Int, z7 = wr (x3 + 1) → I0 x0 0 0 z7 h3))) ∧ (v3 = v1 → ∀ z7 : Int, z7 = wr (x2 + 1) → ((z7 ≤ x1 → ∀ z8 : Int, z8 = wr (x3 + 1) → I0 x0 x1 z7 z8 h3) ∧ (x1 < z7 → ∀ z8 : Int, z8 = wr (x3 + 1) → I0 x0 z7 z7 z8 h3))))))) : Q v h' := by
  refine x_mef vr_chasteRun_k hs (fun k l h => match k with
    | 0 => (match l with | [x0, x1, x2, x3] => I0 x0 x1 x2 x3 h | _ => False)
    | _ => False) Q h0 ?_
  intro i Ti hT vals h hi
  match i, hT, hi with
  | 0, hT, hi =>
    cases hT
    match vals, hi with
    | [x0, x1, x2, x3], hi => exact k0 _ _ _ _ _ hi
    | [], hi => exact False.elim hi
    | [_], hi => exact False.elim hi
    | [_, _], hi => exact False.elim hi
    | [_, _, _], hi => exact False.elim hi
    | _ :: _ :: _ :: _ :: _ :: _, hi => exact False.elim hi
  | _ + 1, hT, _ => cases hT
def vr_oddBits_T : xT := [(12, [.inl 0, .inr 0, .inr 0], 0, 0)]
def vr_oddBits_T0 : xT := [(10, [.inl 2, .inr 5], 3, 1), (11, [.inl 1], 0, 0), (0, [.inl 0], 15, 0), (1, [.inr 279, .inl 2], 0, 0), (8, [.inl 3, .inl 4], 0, 0), (1, [.inr 278, .inl 2], 0, 0), (8, [.inl 5, .inl 6], 10, 0), (10, [.inl 7, .inr 0], 1, 3), (8, [.inl 1, .inr 0], 4, 0), (8, [.inl 2, .inr 1], 0, 0), (12, [.inl 0, .inl 8, .inl 9], 0, 0), (8, [.inr 1, .inl 2], 6, 0),
  (8, [.inl 1, .inl 8], 4, 0), (8, [.inl 2, .inr 1], 0, 0), (12, [.inl 0, .inl 9, .inl 10], 0, 0)]
theorem vr_oddBits_k : x_chk 245 [(4, [(0, 0), (1, 0), (2, 0)])] vr_oddBits_T [vr_oddBits_T0] 600 = true := by decide +kernel
theorem vr_oddBits {a0 v : Int} {h h' : fH} (hs : fS 245 [a0] h v h') (I0 : Int → Int → Int → fH → Prop) (Q : Int → fH → Prop) (h0 : I0 a0 0 0 h) (k0 : ∀ (x0 x1 x2 : Int) (h : fH), I0 x0 x1 x2 h → ((5 ≤ x2 → Q x1 h) ∧ (x2 < 5 → ∀ z3 : Int, z3 = h x0 15 → ∀ z4 : Int, z4 = h 279 x2 → ∀ z5 : Int, z5 = wr (z3 + z4) → ∀ z6 : Int, z6 = h 278 x2 → ∀ z7 : Int, z7 = xrem z5 z6 → ((z7 ≠ 0 → ∀ z8 : Int, z8 = xor' x1 0 → ∀ z9 : Int, z9 = wr (x2 + 1) → I0 x0 z8 z9 h) ∧ (z7 = 0 → ∀ z8 : Int, z8 = xshl 1 x2 → ∀ z9 : Int, z9 = xor' x1 z8 → ∀ z10 : Int, z10 = wr (x2 + 1) → I0 x0 z9 z10 h))))) : Q v h' := by
  refine x_mef vr_oddBits_k hs (fun k l h => match k with
    | 0 => (match l with | [x0, x1, x2] => I0 x0 x1 x2 h | _ => False)
    | _ => False) Q h0 ?_
  intro i Ti hT vals h hi
  match i, hT, hi with
  | 0, hT, hi =>
    cases hT
    match vals, hi with
    | [x0, x1, x2], hi => exact k0 _ _ _ _ hi
    | [], hi => exact False.elim hi
    | [_], hi => exact False.elim hi
    | [_, _], hi => exact False.elim hi
    | _ :: _ :: _ :: _ :: _, hi => exact False.elim hi
  | _ + 1, hT, _ => cases hT
def vr_hope_T : xT := [(2, [.inl 0, .inr 0], 16, 0), (0, [.inl 0], 0, 0), (8, [.inl 4, .inr 1], 1, 0), (8, [.inl 1, .inr 0], 18, 0), (10, [.inl 6, .inr 0], 2, 6), (9, [.inr (-1)], 0, 0), (1, [.inr 285, .inl 7], 0, 0), (8, [.inl 8, .inr 1], 0, 0), (3, [.inr 285, .inl 7, .inl 9], 0, 0), (8, [.inr 1000000000, .inr (-1)], 1, 0), (11, [.inl 10], 0, 0), (8, [.inl 1, .inl 5], 18, 0),
  (10, [.inl 7, .inr 0], 4, 6), (9, [.inr (-1)], 0, 0), (1, [.inr 285, .inl 8], 0, 0), (8, [.inl 9, .inr 1], 0, 0), (3, [.inr 285, .inl 8, .inl 10], 0, 0), (8, [.inr 1000000000, .inr (-1)], 1, 0), (11, [.inl 11], 0, 0), (8, [.inl 2, .inr 0], 18, 0), (10, [.inl 8, .inr 0], 2, 6), (9, [.inr (-1)], 0, 0), (1, [.inr 285, .inl 9], 0, 0), (8, [.inl 10, .inr 1], 0, 0),
  (3, [.inr 285, .inl 9, .inl 11], 0, 0), (8, [.inr 1000000000, .inr (-1)], 1, 0), (11, [.inl 12], 0, 0), (8, [.inl 2, .inr 4], 18, 0), (10, [.inl 9, .inr 0], 4, 6), (9, [.inr (-1)], 0, 0), (1, [.inr 285, .inl 10], 0, 0), (8, [.inl 11, .inr 1], 0, 0), (3, [.inr 285, .inl 10, .inl 12], 0, 0), (8, [.inr 1000000000, .inr (-1)], 1, 0), (11, [.inl 13], 0, 0), (10, [.inl 3, .inr 0], 3, 13),
  (10, [.inl 3, .inr 60], 5, 6), (13, [.inl 0, .inl 1, .inl 2, .inl 3], 202, 0), (8, [.inr 5, .inl 1], 2, 0), (8, [.inl 11, .inl 2], 0, 0), (1, [.inr 277, .inl 12], 0, 0), (8, [.inl 10, .inl 13], 1, 0), (11, [.inl 14], 0, 0), (9, [.inr (-6)], 0, 0), (1, [.inr 285, .inl 10], 0, 0), (8, [.inl 11, .inr 1], 0, 0), (3, [.inr 285, .inl 10, .inl 12], 0, 0), (8, [.inr 1000000000, .inr (-6)], 1, 0),
  (11, [.inl 13], 0, 0), (9, [.inr (-4)], 0, 0), (1, [.inr 285, .inl 10], 0, 0), (8, [.inl 11, .inr 1], 0, 0), (3, [.inr 285, .inl 10, .inl 12], 0, 0), (8, [.inr 1000000000, .inr (-4)], 1, 0), (11, [.inl 13], 0, 0)]
theorem vr_hope_k : x_chk 246 [] vr_hope_T [] 600 = true := by decide +kernel
theorem vr_hope {a0 a1 a2 a3 v : Int} {h h' : fH} (hs : fS 246 [a0, a1, a2, a3] h v h') (Q : Int → fH → Prop) (h0 : ∀ h1 : fH, h1 = fu h a0 16 0 → ∀ z4 : Int, z4 = h1 a0 0 → ∀ z5 : Int, z5 = wr (z4 - 1) → ∀ z6 : Int, z6 = xlcmp a1 0 → ((z6 < 0 → ∀ z7 : Int, z7 = wr (-(-1)) → ∀ z8 : Int, z8 = h1 285 z7 → ∀ z9 : Int, z9 = wr (z8 + 1) → ∀ h2 : fH, h2 = fu h1 285 z7 z9 → ∀ z10 : Int, z10 = wr (1000000000 - (-1)) → Q z10 h2) ∧ (0 ≤ z6 → ∀ z7 : Int, z7 = xlcmp a1 z5 → ((0 < z7 → ∀ z8 : Int, z8 = wr (-(-1)) → ∀ z9 : Int, z9 = h1 285 z8 → ∀ z10 : Int, z10 = wr (z9 + 1) → ∀ h2 : fH, h2 = fu h1 285 z8 z10 → ∀ z11 : Int, z11 = wr (1000000000 - (-1)) → Q z11 h2) ∧ (z7 ≤ 0 → ∀ z8 : Int, z8 = xlcmp a2 0 → ((z8 < 0 → ∀ z9 : Int, z9 = wr (-(-1)) → ∀ z10 : Int, z10 = h1 285 z9 → ∀ z11 : Int, z11 = wr (z10 + 1) → ∀ h2 : fH, h2 = fu h1 285 z9 z11 → ∀ z12 : Int, z12 = wr (1000000000 - (-1)) → Q z12 h2) ∧ (0 ≤ z8 → ∀ z9 : Int, z9 = xlcmp a2 4 → ((0 < z9 → ∀ z10 : Int, z10 = wr (-(-1)) → ∀ z11 : Int, z11 = h1 285 z10 → ∀ z12 : Int, z12 = wr (z11 + 1) → ∀ h2 : fH, h2 = fu h1 285 z10 z12 → ∀ z13 : Int, z13 = wr (1000000000 - (-1)) → Q z13 h2) ∧ (z9 ≤ 0 → ((0 ≤ a3 → ((a3 ≤ 60 → ∀ (v2 : Int) (h2 : fH), fS 202 [a0, a1, a2, a3] h1 v2 h2 → ∀ z11 : Int, z11 = wr (5 * a1) → ∀ z12 : Int, z12 = wr (z11 + a2) → ∀ z13 : Int, z13 = h2 277 z12 → ∀ z14 : Int, z14 = wr (v2 - z13) → Q z14 h2) ∧ (60 < a3 → ∀ z10 : Int, z10 = wr (-(-6)) → ∀ z11 : Int, z11 = h1 285 z10 → ∀ z12 : Int, z12 = wr (z11 + 1) → ∀ h2 : fH, h2 = fu h1 285 z10 z12 → ∀ z13 : Int, z13 = wr (1000000000 - (-6)) → Q z13 h2))) ∧ (a3 < 0 → ∀ z10 : Int, z10 = wr (-(-4)) → ∀ z11 : Int, z11 = h1 285 z10 → ∀ z12 : Int, z12 = wr (z11 + 1) → ∀ h2 : fH, h2 = fu h1 285 z10 z12 → ∀ z13 : Int, z13 = wr (1000000000 - (-4)) → Q z13 h2))))))))))) : Q v h' := by
  exact x_mef vr_hope_k hs (fun _ _ _ => False) Q h0 (fun i Ti hT => by cases hT)
def vr_row_T : xT := [(2, [.inl 0, .inr 0], 16, 0), (10, [.inl 1, .inr 0], 3, 20), (10, [.inl 1, .inr 99], 4, 5), (9, [.inr (-6)], 0, 0), (1, [.inr 285, .inl 2], 0, 0), (8, [.inl 3, .inr 1], 0, 0), (3, [.inr 285, .inl 2, .inl 4], 0, 0), (11, [.inr (-6)], 0, 0), (0, [.inl 0], 38, 0), (10, [.inl 2, .inr 12], 1, 7), (0, [.inl 0], 38, 0), (3, [.inr 296, .inl 3, .inl 1], 0, 0),
  (0, [.inl 0], 38, 0), (8, [.inl 4, .inr 1], 0, 0), (2, [.inl 0, .inl 5], 38, 0), (0, [.inl 0], 38, 0), (11, [.inl 6], 0, 0), (9, [.inr (-6)], 0, 0), (1, [.inr 285, .inl 3], 0, 0), (8, [.inl 4, .inr 1], 0, 0), (3, [.inr 285, .inl 3, .inl 5], 0, 0), (11, [.inr (-6)], 0, 0), (9, [.inr (-4)], 0, 0), (1, [.inr 285, .inl 2], 0, 0),
  (8, [.inl 3, .inr 1], 0, 0), (3, [.inr 285, .inl 2, .inl 4], 0, 0), (11, [.inr (-4)], 0, 0)]
theorem vr_row_k : x_chk 247 [] vr_row_T [] 600 = true := by decide +kernel
theorem vr_row {a0 a1 v : Int} {h h' : fH} (hs : fS 247 [a0, a1] h v h') (Q : Int → fH → Prop) (h0 : ∀ h1 : fH, h1 = fu h a0 16 0 → ((0 ≤ a1 → ((99 < a1 → ∀ z2 : Int, z2 = wr (-(-6)) → ∀ z3 : Int, z3 = h1 285 z2 → ∀ z4 : Int, z4 = wr (z3 + 1) → ∀ h2 : fH, h2 = fu h1 285 z2 z4 → Q (-6) h2) ∧ (a1 ≤ 99 → ∀ z2 : Int, z2 = h1 a0 38 → ((z2 ≠ 12 → ∀ z3 : Int, z3 = h1 a0 38 → ∀ h2 : fH, h2 = fu h1 296 z3 a1 → ∀ z4 : Int, z4 = h2 a0 38 → ∀ z5 : Int, z5 = wr (z4 + 1) → ∀ h3 : fH, h3 = fu h2 a0 38 z5 → ∀ z6 : Int, z6 = h3 a0 38 → Q z6 h3) ∧ (z2 = 12 → ∀ z3 : Int, z3 = wr (-(-6)) → ∀ z4 : Int, z4 = h1 285 z3 → ∀ z5 : Int, z5 = wr (z4 + 1) → ∀ h2 : fH, h2 = fu h1 285 z3 z5 → Q (-6) h2))))) ∧ (a1 < 0 → ∀ z2 : Int, z2 = wr (-(-4)) → ∀ z3 : Int, z3 = h1 285 z2 → ∀ z4 : Int, z4 = wr (z3 + 1) → ∀ h2 : fH, h2 = fu h1 285 z2 z4 → Q (-4) h2))) : Q v h' := by
  exact x_mef vr_row_k hs (fun _ _ _ => False) Q h0 (fun i Ti hT => by cases hT)
def vr_judge_T : xT := [(2, [.inl 0, .inr 0], 16, 0), (0, [.inl 0], 38, 0), (2, [.inl 0, .inr 0], 38, 0), (12, [.inl 0, .inl 1, .inr 0], 0, 0)]
def vr_judge_T0 : xT := [(10, [.inl 2, .inl 1], 3, 1), (11, [.inr (-9)], 0, 0), (0, [.inl 0], 0, 0), (10, [.inl 2, .inl 3], 3, 1), (11, [.inl 2], 0, 0), (1, [.inr 296, .inl 2], 0, 0), (8, [.inr 5, .inl 2], 2, 0), (1, [.inr 277, .inl 5], 0, 0), (10, [.inl 4, .inl 6], 0, 2), (8, [.inl 2, .inr 1], 0, 0), (12, [.inl 0, .inl 1, .inl 7], 0, 0), (11, [.inl 2], 0, 0)]
theorem vr_judge_k : x_chk 248 [(17, [(0, 0), (1, 0), (2, 0)])] vr_judge_T [vr_judge_T0] 600 = true := by decide +kernel
theorem vr_judge {a0 v : Int} {h h' : fH} (hs : fS 248 [a0] h v h') (I0 : Int → Int → Int → fH → Prop) (Q : Int → fH → Prop) (h0 : ∀ h1 : fH, h1 = fu h a0 16 0 → ∀ z1 : Int, z1 = h1 a0 38 → ∀ h2 : fH, h2 = fu h1 a0 38 0 → I0 a0 z1 0 h2) (k0 : ∀ (x0 x1 x2 : Int) (h : fH), I0 x0 x1 x2 h → ((x1 ≤ x2 → Q (-9) h) ∧ (x2 < x1 → ∀ z3 : Int, z3 = h x0 0 → ((z3 ≤ x2 → Q x2 h) ∧ (x2 < z3 → ∀ z4 : Int, z4 = h 296 x2 → ∀ z5 : Int, z5 = wr (5 * x2) → ∀ z6 : Int, z6 = h 277 z5 → ((z4 = z6 → ∀ z7 : Int, z7 = wr (x2 + 1) → I0 x0 x1 z7 h) ∧ (z4 ≠ z6 → Q x2 h))))))) : Q v h' := by
  refine x_mef vr_judge_k hs (fun k l h => match k with
    | 0 => (match l with | [x0, x1, x2] => I0 x0 x1 x2 h | _ => False)
    | _ => False) Q h0 ?_
  intro i Ti hT vals h hi
  match i, hT, hi with
  | 0, hT, hi =>
    cases hT
    match vals, hi with
    | [x0, x1, x2], hi => exact k0 _ _ _ _ hi
    | [], hi => exact False.elim hi
    | [_], hi => exact False.elim hi
    | [_, _], hi => exact False.elim hi
    | _ :: _ :: _ :: _ :: _, hi => exact False.elim hi
  | _ + 1, hT, _ => cases hT
def vr_clear_T : xT := [(2, [.inl 0, .inr 0], 16, 0), (0, [.inl 0], 38, 0), (2, [.inl 0, .inr 0], 38, 0), (11, [.inl 1], 0, 0)]
theorem vr_clear_k : x_chk 249 [] vr_clear_T [] 600 = true := by decide +kernel
theorem vr_clear {a0 v : Int} {h h' : fH} (hs : fS 249 [a0] h v h') (Q : Int → fH → Prop) (h0 : ∀ h1 : fH, h1 = fu h a0 16 0 → ∀ z1 : Int, z1 = h1 a0 38 → ∀ h2 : fH, h2 = fu h1 a0 38 0 → Q z1 h2) : Q v h' := by
  exact x_mef vr_clear_k hs (fun _ _ _ => False) Q h0 (fun i Ti hT => by cases hT)
def vr_lots_T : xT := [(2, [.inl 0, .inr 0], 16, 0), (10, [.inl 1, .inr 1], 3, 23), (10, [.inl 1, .inr 20], 5, 17), (8, [.inl 3, .inr 0], 18, 0), (10, [.inl 4, .inr 0], 2, 5), (9, [.inr (-2)], 0, 0), (1, [.inr 285, .inl 5], 0, 0), (8, [.inl 6, .inr 1], 0, 0), (3, [.inr 285, .inl 5, .inl 7], 0, 0), (11, [.inr (-2)], 0, 0), (8, [.inl 3, .inr 1], 18, 0), (10, [.inl 5, .inr 0], 4, 5),
  (9, [.inr (-2)], 0, 0), (1, [.inr 285, .inl 6], 0, 0), (8, [.inl 7, .inr 1], 0, 0), (3, [.inr 285, .inl 6, .inl 8], 0, 0), (11, [.inr (-2)], 0, 0), (2, [.inl 0, .inl 2], 40, 0), (13, [.inl 0, .inr 290, .inr 1], 159, 0), (12, [.inl 0, .inl 1, .inl 3, .inr 0, .inr 0], 0, 0), (9, [.inr (-6)], 0, 0), (1, [.inr 285, .inl 4], 0, 0), (8, [.inl 5, .inr 1], 0, 0), (3, [.inr 285, .inl 4, .inl 6], 0, 0),
  (11, [.inr (-6)], 0, 0), (9, [.inr (-4)], 0, 0), (1, [.inr 285, .inl 4], 0, 0), (8, [.inl 5, .inr 1], 0, 0), (3, [.inr 285, .inl 4, .inl 6], 0, 0), (11, [.inr (-4)], 0, 0)]
def vr_lots_T0 : xT := [(10, [.inl 4, .inl 1], 3, 1), (11, [.inl 3], 0, 0), (12, [.inl 0, .inl 1, .inl 2, .inl 3, .inl 4, .inr 0], 1, 0)]
def vr_lots_T1 : xT := [(10, [.inl 5, .inr 5], 3, 13), (13, [.inl 0, .inr 10], 172, 0), (10, [.inl 2, .inr 0], 1, 5), (13, [.inl 0], 224, 0), (8, [.inl 3, .inl 7], 0, 0), (13, [.inl 0, .inr 290, .inr 0], 159, 0), (8, [.inl 4, .inr 1], 0, 0), (12, [.inl 0, .inl 1, .inl 2, .inl 8, .inl 10], 0, 0), (13, [.inl 0], 198, 0), (13, [.inl 7], 199, 0), (8, [.inl 3, .inl 8], 0, 0), (13, [.inl 0, .inr 290, .inr 0], 159, 0),
  (8, [.inl 4, .inr 1], 0, 0), (12, [.inl 0, .inl 1, .inl 2, .inl 9, .inl 11], 0, 0), (13, [.inl 0, .inr 9], 251, 0), (3, [.inr 279, .inl 5, .inl 6], 0, 0), (8, [.inl 5, .inr 1], 0, 0), (12, [.inl 0, .inl 1, .inl 2, .inl 3, .inl 4, .inl 7], 1, 0)]
theorem vr_lots_k : x_chk 250 [(46, [(0, 0), (1, 0), (3, 0), (5, 0), (6, 0)]), (55, [(0, 0), (1, 0), (3, 0), (5, 0), (6, 0), (7, 0)])] vr_lots_T [vr_lots_T0, vr_lots_T1] 600 = true := by decide +kernel
theorem vr_lots {a0 a1 a2 a3 v : Int} {h h' : fH} (hs : fS 250 [a0, a1, a2, a3] h v h') (I0 : Int → Int → Int → Int → Int → fH → Prop) (I1 : Int → Int → Int → Int → Int → Int → fH → Prop) (Q : Int → fH → Prop) (h0 : ∀ h1 : fH, h1 = fu h a0 16 0 → ((1 ≤ a1 → ((a1 ≤ 20 → ∀ z4 : Int, z4 = xlcmp a3 0 → ((z4 < 0 → ∀ z5 : Int, z5 = wr (-(-2)) → ∀ z6 : Int, z6 = h1 285 z5 → ∀ z7 : Int, z7 = wr (z6 + 1) → ∀ h2 : fH, h2 = fu h1 285 z5 z7 → Q (-2) h2) ∧ (0 ≤ z4 → ∀ z5 : Int, z5 = xlcmp a3 1 → ((0 < z5 → ∀ z6 : Int, z6 = wr (-(-2)) → ∀ z7 : Int, z7 = h1 285 z6 → ∀ z8 : Int, z8 = wr (z7 + 1) → ∀ h2 : fH, h2 = fu h1 285 z6 z8 → Q (-2) h2) ∧ (z5 ≤ 0 → ∀ h2 : fH, h2 = fu h1 a0 40 a2 → ∀ (v3 : Int) (h3 : fH), fS 159 [a0, 290, 1] h2 v3 h3 → I0 a0 a1 a3 0 0 h3))))) ∧ (20 < a1 → ∀ z4 : Int, z4 = wr (-(-6)) → ∀ z5 : Int, z5 = h1 285 z4 → ∀ z6 : Int, z6 = wr (z5 + 1) → ∀ h2 : fH, h2 = fu h1 285 z4 z6 → Q (-6) h2))) ∧ (a1 < 1 → ∀ z4 : Int, z4 = wr (-(-4)) → ∀ z5 : Int, z5 = h1 285 z4 → ∀ z6 : Int, z6 = wr (z5 + 1) → ∀ h2 : fH, h2 = fu h1 285 z4 z6 → Q (-4) h2))) (k0 : ∀ (x0 x1 x3 x5 x6 : Int) (h : fH), I0 x0 x1 x3 x5 x6 h → ((x1 ≤ x6 → Q x5 h) ∧ (x6 < x1 → I1 x0 x1 x3 x5 x6 0 h))) (k1 : ∀ (x0 x1 x3 x5 x6 x7 : Int) (h : fH), I1 x0 x1 x3 x5 x6 x7 h → ((5 ≤ x7 → ∀ (v1 : Int) (h1 : fH), fS 172 [x0, 10] h v1 h1 → ((x3 ≠ 0 → ∀ (v2 : Int) (h2 : fH), fS 224 [x0] h1 v2 h2 → ∀ z8 : Int, z8 = wr (x5 + v2) → ∀ (v3 : Int) (h3 : fH), fS 159 [x0, 290, 0] h2 v3 h3 → ∀ z10 : Int, z10 = wr (x6 + 1) → I0 x0 x1 x3 z8 z10 h3) ∧ (x3 = 0 → ∀ (v2 : Int) (h2 : fH), fS 198 [x0] h1 v2 h2 → ∀ (v3 : Int) (h3 : fH), fS 199 [v2] h2 v3 h3 → ∀ z9 : Int, z9 = wr (x5 + v3) → ∀ (v4 : Int) (h4 : fH), fS 159 [x0, 290, 0] h3 v4 h4 → ∀ z11 : Int, z11 = wr (x6 + 1) → I0 x0 x1 x3 z9 z11 h4))) ∧ (x7 < 5 → ∀ (v1 : Int) (h1 : fH), fS 251 [x0, 9] h v1 h1 → ∀ h2 : fH, h2 = fu h1 279 x7 v1 → ∀ z7 : Int, z7 = wr (x7 + 1) → I1 x0 x1 x3 x5 x6 z7 h2))) : Q v h' := by
  refine x_mef vr_lots_k hs (fun k l h => match k with
    | 0 => (match l with | [x0, x1, x3, x5, x6] => I0 x0 x1 x3 x5 x6 h | _ => False)
    | 1 => (match l with | [x0, x1, x3, x5, x6, x7] => I1 x0 x1 x3 x5 x6 x7 h | _ => False)
    | _ => False) Q h0 ?_
  intro i Ti hT vals h hi
  match i, hT, hi with
  | 0, hT, hi =>
    cases hT
    match vals, hi with
    | [x0, x1, x3, x5, x6], hi => exact k0 _ _ _ _ _ _ hi
    | [], hi => exact False.elim hi
    | [_], hi => exact False.elim hi
    | [_, _], hi => exact False.elim hi
    | [_, _, _], hi => exact False.elim hi
    | [_, _, _, _], hi => exact False.elim hi
    | _ :: _ :: _ :: _ :: _ :: _ :: _, hi => exact False.elim hi
  | 1, hT, hi =>
    cases hT
    match vals, hi with
    | [x0, x1, x3, x5, x6, x7], hi => exact k1 _ _ _ _ _ _ _ hi
    | [], hi => exact False.elim hi
    | [_], hi => exact False.elim hi
    | [_, _], hi => exact False.elim hi
    | [_, _, _], hi => exact False.elim hi
    | [_, _, _, _], hi => exact False.elim hi
    | [_, _, _, _, _], hi => exact False.elim hi
    | _ :: _ :: _ :: _ :: _ :: _ :: _ :: _, hi => exact False.elim hi
  | _ + 2, hT, _ => cases hT
def vr_drawBelow_T : xT := [(0, [.inl 0], 40, 0), (8, [.inl 2, .inr 1103515245], 2, 0), (8, [.inl 3, .inr 12345], 0, 0), (2, [.inl 0, .inl 4], 40, 0), (0, [.inl 0], 40, 0), (8, [.inl 5, .inr 2147483647], 3, 0), (8, [.inl 6, .inr 65536], 9, 0), (8, [.inl 7, .inl 1], 10, 0), (11, [.inl 8], 0, 0)]
theorem vr_drawBelow_k : x_chk 251 [] vr_drawBelow_T [] 600 = true := by decide +kernel
theorem vr_drawBelow {a0 a1 v : Int} {h h' : fH} (hs : fS 251 [a0, a1] h v h') (Q : Int → fH → Prop) (h0 : ∀ z2 : Int, z2 = h a0 40 → ∀ z3 : Int, z3 = wr (z2 * 1103515245) → ∀ z4 : Int, z4 = wr (z3 + 12345) → ∀ h1 : fH, h1 = fu h a0 40 z4 → ∀ z5 : Int, z5 = h1 a0 40 → ∀ z6 : Int, z6 = xand z5 2147483647 → ∀ z7 : Int, z7 = xdiv z6 65536 → ∀ z8 : Int, z8 = xrem z7 a1 → Q z8 h1) : Q v h' := by
  exact x_mef vr_drawBelow_k hs (fun _ _ _ => False) Q h0 (fun i Ti hT => by cases hT)
def vr_count_T : xT := [(2, [.inl 0, .inr 0], 16, 0), (10, [.inl 1, .inr 0], 0, 2), (0, [.inl 0], 0, 0), (11, [.inl 2], 0, 0), (10, [.inl 1, .inr 1], 0, 2), (0, [.inl 0], 15, 0), (11, [.inl 2], 0, 0), (10, [.inl 1, .inr 2], 0, 2), (0, [.inl 0], 9, 0), (11, [.inl 2], 0, 0), (10, [.inl 1, .inr 3], 0, 2), (13, [.inl 0], 198, 0),
  (11, [.inl 2], 0, 0), (10, [.inl 1, .inr 4], 0, 2), (13, [.inl 0], 224, 0), (11, [.inl 2], 0, 0), (10, [.inl 1, .inr 5], 0, 2), (0, [.inl 0], 19, 0), (11, [.inl 2], 0, 0), (10, [.inl 1, .inr 6], 0, 2), (0, [.inl 0], 38, 0), (11, [.inl 2], 0, 0), (10, [.inl 1, .inr 7], 0, 2), (0, [.inl 0], 34, 0),
  (11, [.inl 2], 0, 0), (8, [.inl 1, .inr 11], 18, 0), (10, [.inl 2, .inr 0], 2, 1), (11, [.inr (-9)], 0, 0), (8, [.inl 1, .inr 16], 18, 0), (10, [.inl 3, .inr 0], 4, 1), (11, [.inr (-9)], 0, 0), (8, [.inl 1, .inr 10], 1, 0), (1, [.inr 285, .inl 4], 0, 0), (11, [.inl 5], 0, 0)]
theorem vr_count_k : x_chk 252 [] vr_count_T [] 600 = true := by decide +kernel
theorem vr_count {a0 a1 v : Int} {h h' : fH} (hs : fS 252 [a0, a1] h v h') (Q : Int → fH → Prop) (h0 : ∀ h1 : fH, h1 = fu h a0 16 0 → ((a1 = 0 → ∀ z2 : Int, z2 = h1 a0 0 → Q z2 h1) ∧ (a1 ≠ 0 → ((a1 = 1 → ∀ z2 : Int, z2 = h1 a0 15 → Q z2 h1) ∧ (a1 ≠ 1 → ((a1 = 2 → ∀ z2 : Int, z2 = h1 a0 9 → Q z2 h1) ∧ (a1 ≠ 2 → ((a1 = 3 → ∀ (v2 : Int) (h2 : fH), fS 198 [a0] h1 v2 h2 → Q v2 h2) ∧ (a1 ≠ 3 → ((a1 = 4 → ∀ (v2 : Int) (h2 : fH), fS 224 [a0] h1 v2 h2 → Q v2 h2) ∧ (a1 ≠ 4 → ((a1 = 5 → ∀ z2 : Int, z2 = h1 a0 19 → Q z2 h1) ∧ (a1 ≠ 5 → ((a1 = 6 → ∀ z2 : Int, z2 = h1 a0 38 → Q z2 h1) ∧ (a1 ≠ 6 → ((a1 = 7 → ∀ z2 : Int, z2 = h1 a0 34 → Q z2 h1) ∧ (a1 ≠ 7 → ∀ z2 : Int, z2 = xlcmp a1 11 → ((z2 < 0 → Q (-9) h1) ∧ (0 ≤ z2 → ∀ z3 : Int, z3 = xlcmp a1 16 → ((0 < z3 → Q (-9) h1) ∧ (z3 ≤ 0 → ∀ z4 : Int, z4 = wr (a1 - 10) → ∀ z5 : Int, z5 = h1 285 z4 → Q z5 h1))))))))))))))))))))) : Q v h' := by
  exact x_mef vr_count_k hs (fun _ _ _ => False) Q h0 (fun i Ti hT => by cases hT)
