/-! the trees of the methods (made by a program) -/
def vc_bet_T : xT := [(10, [.inl 1, .inr 0], 2, 5), (9, [.inr (-1)], 0, 0), (1, [.inr 3, .inl 3], 0, 0), (8, [.inl 4, .inr 1], 0, 0), (3, [.inr 3, .inl 3, .inl 5], 0, 0), (11, [.inr (-1)], 0, 0), (0, [.inr 11], 1, 0), (10, [.inl 1, .inl 3], 3, 5), (9, [.inr (-1)], 0, 0), (1, [.inr 3, .inl 4], 0, 0), (8, [.inl 5, .inr 1], 0, 0), (3, [.inr 3, .inl 4, .inl 6], 0, 0),
  (11, [.inr (-1)], 0, 0), (10, [.inl 2, .inr 0], 2, 5), (9, [.inr (-1)], 0, 0), (1, [.inr 3, .inl 4], 0, 0), (8, [.inl 5, .inr 1], 0, 0), (3, [.inr 3, .inl 4, .inl 6], 0, 0), (11, [.inr (-1)], 0, 0), (0, [.inr 11], 1, 0), (10, [.inl 2, .inl 4], 3, 5), (9, [.inr (-1)], 0, 0), (1, [.inr 3, .inl 5], 0, 0), (8, [.inl 6, .inr 1], 0, 0),
  (3, [.inr 3, .inl 5, .inl 7], 0, 0), (11, [.inr (-1)], 0, 0), (10, [.inl 1, .inl 2], 0, 5), (9, [.inr (-1)], 0, 0), (1, [.inr 3, .inl 5], 0, 0), (8, [.inl 6, .inr 1], 0, 0), (3, [.inr 3, .inl 5, .inl 7], 0, 0), (11, [.inr (-1)], 0, 0), (13, [.inr 11, .inl 1, .inl 2], 107, 0), (11, [.inl 5], 0, 0)]
theorem vc_bet_k : x_chk 106 [] vc_bet_T [] 600 = true := by decide +kernel
theorem vc_bet {a0 a1 a2 v : Int} {h h' : fH} (hs : fS 106 [a0, a1, a2] h v h') (Q : Int → fH → Prop) (h0 : ((a1 < 0 → ∀ z3 : Int, z3 = wr (-(-1)) → ∀ z4 : Int, z4 = h 3 z3 → ∀ z5 : Int, z5 = wr (z4 + 1) → ∀ h1 : fH, h1 = fu h 3 z3 z5 → Q (-1) h1) ∧ (0 ≤ a1 → ∀ z3 : Int, z3 = h 11 1 → ((z3 ≤ a1 → ∀ z4 : Int, z4 = wr (-(-1)) → ∀ z5 : Int, z5 = h 3 z4 → ∀ z6 : Int, z6 = wr (z5 + 1) → ∀ h1 : fH, h1 = fu h 3 z4 z6 → Q (-1) h1) ∧ (a1 < z3 → ((a2 < 0 → ∀ z4 : Int, z4 = wr (-(-1)) → ∀ z5 : Int, z5 = h 3 z4 → ∀ z6 : Int, z6 = wr (z5 + 1) → ∀ h1 : fH, h1 = fu h 3 z4 z6 → Q (-1) h1) ∧ (0 ≤ a2 → ∀ z4 : Int, z4 = h 11 1 → ((z4 ≤ a2 → ∀ z5 : Int, z5 = wr (-(-1)) → ∀ z6 : Int, z6 = h 3 z5 → ∀ z7 : Int, z7 = wr (z6 + 1) → ∀ h1 : fH, h1 = fu h 3 z5 z7 → Q (-1) h1) ∧ (a2 < z4 → ((a1 = a2 → ∀ z5 : Int, z5 = wr (-(-1)) → ∀ z6 : Int, z6 = h 3 z5 → ∀ z7 : Int, z7 = wr (z6 + 1) → ∀ h1 : fH, h1 = fu h 3 z5 z7 → Q (-1) h1) ∧ (a1 ≠ a2 → ∀ (v1 : Int) (h1 : fH), fS 107 [11, a1, a2] h v1 h1 → Q v1 h1))))))))))) : Q v h' := by
  exact x_mef vc_bet_k hs (fun _ _ _ => False) Q h0 (fun i Ti hT => by cases hT)
def vt_bestBet_T : xT := [(12, [.inl 0, .inl 1, .inl 2, .inr 1], 0, 0)]
def vt_bestBet_T0 : xT := [(10, [.inl 3, .inr 9], 4, 1), (11, [.inr (-9)], 0, 0), (12, [.inl 0, .inl 1, .inl 2, .inl 3, .inr 0], 1, 0)]
def vt_bestBet_T1 : xT := [(10, [.inl 4, .inr 5], 3, 2), (8, [.inl 3, .inr 1], 0, 0), (12, [.inl 0, .inl 1, .inl 2, .inl 5], 0, 0), (0, [.inl 0], 15, 0), (8, [.inl 5, .inl 3], 0, 0), (4, [.inl 0], 0, 18), (1, [.inl 7, .inl 4], 0, 0), (8, [.inl 6, .inl 8], 0, 0), (4, [.inl 0], 0, 17), (1, [.inl 10, .inl 4], 0, 0), (8, [.inl 9, .inl 11], 10, 0), (10, [.inl 12, .inr 0], 1, 9),
  (13, [.inl 0, .inl 1, .inl 2, .inl 4, .inr 1], 56, 0), (10, [.inl 13, .inr 0], 0, 2), (8, [.inl 4, .inr 1], 0, 0), (12, [.inl 0, .inl 1, .inl 2, .inl 3, .inl 14], 1, 0), (8, [.inr 100, .inl 4], 2, 0), (8, [.inr 10, .inr 1], 2, 0), (8, [.inl 14, .inl 15], 0, 0), (8, [.inl 16, .inl 3], 0, 0), (11, [.inl 17], 0, 0), (13, [.inl 0, .inl 1, .inl 2, .inl 4, .inr 0], 56, 0), (10, [.inl 13, .inr 0], 0, 2), (8, [.inl 4, .inr 1], 0, 0),
  (12, [.inl 0, .inl 1, .inl 2, .inl 3, .inl 14], 1, 0), (8, [.inr 100, .inl 4], 2, 0), (8, [.inr 10, .inr 0], 2, 0), (8, [.inl 14, .inl 15], 0, 0), (8, [.inl 16, .inl 3], 0, 0), (11, [.inl 17], 0, 0)]
theorem vt_bestBet_k : x_chk 107 [(2, [(0, 0), (1, 0), (2, 0), (3, 0)]), (11, [(0, 0), (1, 0), (2, 0), (3, 0), (4, 0)])] vt_bestBet_T [vt_bestBet_T0, vt_bestBet_T1] 600 = true := by decide +kernel
theorem vt_bestBet {a0 a1 a2 v : Int} {h h' : fH} (hs : fS 107 [a0, a1, a2] h v h') (I0 : Int → Int → Int → Int → fH → Prop) (I1 : Int → Int → Int → Int → Int → fH → Prop) (Q : Int → fH → Prop) (h0 : I0 a0 a1 a2 1 h) (k0 : ∀ (x0 x1 x2 x3 : Int) (h : fH), I0 x0 x1 x2 x3 h → ((9 < x3 → Q (-9) h) ∧ (x3 ≤ 9 → I1 x0 x1 x2 x3 0 h))) (k1 : ∀ (x0 x1 x2 x3 x4 : Int) (h : fH), I1 x0 x1 x2 x3 x4 h → ((5 ≤ x4 → ∀ z5 : Int, z5 = wr (x3 + 1) → I0 x0 x1 x2 z5 h) ∧ (x4 < 5 → ∀ z5 : Int, z5 = h x0 15 → ∀ z6 : Int, z6 = wr (z5 + x3) → ∀ z7 : Int, z7 = x0 + 18 → ∀ z8 : Int, z8 = h z7 x4 → ∀ z9 : Int, z9 = wr (z6 + z8) → ∀ z10 : Int, z10 = x0 + 17 → ∀ z11 : Int, z11 = h z10 x4 → ∀ z12 : Int, z12 = xrem z9 z11 → ((z12 ≠ 0 → ∀ (v1 : Int) (h1 : fH), fS 56 [x0, x1, x2, x4, 1] h v1 h1 → ((v1 = 0 → ∀ z14 : Int, z14 = wr (x4 + 1) → I1 x0 x1 x2 x3 z14 h1) ∧ (v1 ≠ 0 → ∀ z14 : Int, z14 = wr (100 * x4) → ∀ z15 : Int, z15 = wr (10 * 1) → ∀ z16 : Int, z16 = wr (z14 + z15) → ∀ z17 : Int, z17 = wr (z16 + x3) → Q z17 h1))) ∧ (z12 = 0 → ∀ (v1 : Int) (h1 : fH), fS 56 [x0, x1, x2, x4, 0] h v1 h1 → ((v1 = 0 → ∀ z14 : Int, z14 = wr (x4 + 1) → I1 x0 x1 x2 x3 z14 h1) ∧ (v1 ≠ 0 → ∀ z14 : Int, z14 = wr (100 * x4) → ∀ z15 : Int, z15 = wr (10 * 0) → ∀ z16 : Int, z16 = wr (z14 + z15) → ∀ z17 : Int, z17 = wr (z16 + x3) → Q z17 h1))))))) : Q v h' := by
  refine x_mef vt_bestBet_k hs (fun k l h => match k with
    | 0 => (match l with | [x0, x1, x2, x3] => I0 x0 x1 x2 x3 h | _ => False)
    | 1 => (match l with | [x0, x1, x2, x3, x4] => I1 x0 x1 x2 x3 x4 h | _ => False)
    | _ => False) Q h0 ?_
  intro i Ti hT vals h hi
  match i, hT, hi with
  | 0, hT, hi =>
    cases hT
    match vals, hi with
    | [x0, x1, x2, x3], hi => exact k0 _ _ _ _ _ hi
    | [], hi => exact False.elim hi
    | [_], hi => exact False.elim hi
    | [_, _], hi => exact False.elim hi
    | [_, _, _], hi => exact False.elim hi
    | _ :: _ :: _ :: _ :: _ :: _, hi => exact False.elim hi
  | 1, hT, hi =>
    cases hT
    match vals, hi with
    | [x0, x1, x2, x3, x4], hi => exact k1 _ _ _ _ _ _ hi
    | [], hi => exact False.elim hi
    | [_], hi => exact False.elim hi
    | [_, _], hi => exact False.elim hi
    | [_, _, _], hi => exact False.elim hi
    | [_, _, _, _], hi => exact False.elim hi
    | _ :: _ :: _ :: _ :: _ :: _ :: _, hi => exact False.elim hi
  | _ + 2, hT, _ => cases hT
def vc_takers_T : xT := [(10, [.inl 1, .inr 0], 2, 5), (9, [.inr (-1)], 0, 0), (1, [.inr 3, .inl 4], 0, 0), (8, [.inl 5, .inr 1], 0, 0), (3, [.inr 3, .inl 4, .inl 6], 0, 0), (11, [.inr (-1)], 0, 0), (0, [.inr 11], 1, 0), (10, [.inl 1, .inl 4], 3, 5), (9, [.inr (-1)], 0, 0), (1, [.inr 3, .inl 5], 0, 0), (8, [.inl 6, .inr 1], 0, 0), (3, [.inr 3, .inl 5, .inl 7], 0, 0),
  (11, [.inr (-1)], 0, 0), (10, [.inl 2, .inr 0], 2, 5), (9, [.inr (-1)], 0, 0), (1, [.inr 3, .inl 5], 0, 0), (8, [.inl 6, .inr 1], 0, 0), (3, [.inr 3, .inl 5, .inl 7], 0, 0), (11, [.inr (-1)], 0, 0), (10, [.inl 2, .inr 5], 3, 5), (9, [.inr (-1)], 0, 0), (1, [.inr 3, .inl 5], 0, 0), (8, [.inl 6, .inr 1], 0, 0), (3, [.inr 3, .inl 5, .inl 7], 0, 0),
  (11, [.inr (-1)], 0, 0), (10, [.inl 3, .inr 0], 2, 5), (9, [.inr (-2)], 0, 0), (1, [.inr 3, .inl 5], 0, 0), (8, [.inl 6, .inr 1], 0, 0), (3, [.inr 3, .inl 5, .inl 7], 0, 0), (11, [.inr (-2)], 0, 0), (10, [.inl 3, .inr 2], 3, 5), (9, [.inr (-2)], 0, 0), (1, [.inr 3, .inl 5], 0, 0), (8, [.inl 6, .inr 1], 0, 0), (3, [.inr 3, .inl 5, .inl 7], 0, 0),
  (11, [.inr (-2)], 0, 0), (12, [.inl 0, .inl 1, .inl 2, .inl 3, .inr 0, .inr 0], 0, 0)]
def vc_takers_T0 : xT := [(0, [.inr 11], 1, 0), (10, [.inl 5, .inl 6], 3, 1), (11, [.inl 4], 0, 0), (10, [.inl 5, .inl 1], 0, 2), (8, [.inl 5, .inr 1], 0, 0), (12, [.inl 0, .inl 1, .inl 2, .inl 3, .inl 4, .inl 7], 0, 0), (13, [.inr 11, .inl 5, .inl 1, .inl 2, .inl 3], 61, 0), (10, [.inl 7, .inr 0], 0, 2), (8, [.inl 5, .inr 1], 0, 0), (12, [.inl 0, .inl 1, .inl 2, .inl 3, .inl 4, .inl 8], 0, 0), (8, [.inr 1, .inl 5], 6, 0), (8, [.inl 4, .inl 8], 4, 0),
  (8, [.inl 5, .inr 1], 0, 0), (12, [.inl 0, .inl 1, .inl 2, .inl 3, .inl 9, .inl 10], 0, 0)]
theorem vc_takers_k : x_chk 108 [(45, [(0, 0), (1, 0), (2, 0), (3, 0), (4, 0), (5, 0)])] vc_takers_T [vc_takers_T0] 600 = true := by decide +kernel
theorem vc_takers {a0 a1 a2 a3 v : Int} {h h' : fH} (hs : fS 108 [a0, a1, a2, a3] h v h') (I0 : Int → Int → Int → Int → Int → Int → fH → Prop) (Q : Int → fH → Prop) (h0 : ((a1 < 0 → ∀ z4 : Int, z4 = wr (-(-1)) → ∀ z5 : Int, z5 = h 3 z4 → ∀ z6 : Int, z6 = wr (z5 + 1) → ∀ h1 : fH, h1 = fu h 3 z4 z6 → Q (-1) h1) ∧ (0 ≤ a1 → ∀ z4 : Int, z4 = h 11 1 → ((z4 ≤ a1 → ∀ z5 : Int, z5 = wr (-(-1)) → ∀ z6 : Int, z6 = h 3 z5 → ∀ z7 : Int, z7 = wr (z6 + 1) → ∀ h1 : fH, h1 = fu h 3 z5 z7 → Q (-1) h1) ∧ (a1 < z4 → ((a2 < 0 → ∀ z5 : Int, z5 = wr (-(-1)) → ∀ z6 : Int, z6 = h 3 z5 → ∀ z7 : Int, z7 = wr (z6 + 1) → ∀ h1 : fH, h1 = fu h 3 z5 z7 → Q (-1) h1) ∧ (0 ≤ a2 → ((5 ≤ a2 → ∀ z5 : Int, z5 = wr (-(-1)) → ∀ z6 : Int, z6 = h 3 z5 → ∀ z7 : Int, z7 = wr (z6 + 1) → ∀ h1 : fH, h1 = fu h 3 z5 z7 → Q (-1) h1) ∧ (a2 < 5 → ((a3 < 0 → ∀ z5 : Int, z5 = wr (-(-2)) → ∀ z6 : Int, z6 = h 3 z5 → ∀ z7 : Int, z7 = wr (z6 + 1) → ∀ h1 : fH, h1 = fu h 3 z5 z7 → Q (-2) h1) ∧ (0 ≤ a3 → ((2 ≤ a3 → ∀ z5 : Int, z5 = wr (-(-2)) → ∀ z6 : Int, z6 = h 3 z5 → ∀ z7 : Int, z7 = wr (z6 + 1) → ∀ h1 : fH, h1 = fu h 3 z5 z7 → Q (-2) h1) ∧ (a3 < 2 → I0 a0 a1 a2 a3 0 0 h))))))))))))) (k0 : ∀ (x0 x1 x2 x3 x4 x5 : Int) (h : fH), I0 x0 x1 x2 x3 x4 x5 h → ∀ z6 : Int, z6 = h 11 1 → ((z6 ≤ x5 → Q x4 h) ∧ (x5 < z6 → ((x5 = x1 → ∀ z7 : Int, z7 = wr (x5 + 1) → I0 x0 x1 x2 x3 x4 z7 h) ∧ (x5 ≠ x1 → ∀ (v1 : Int) (h1 : fH), fS 61 [11, x5, x1, x2, x3] h v1 h1 → ((v1 = 0 → ∀ z8 : Int, z8 = wr (x5 + 1) → I0 x0 x1 x2 x3 x4 z8 h1) ∧ (v1 ≠ 0 → ∀ z8 : Int, z8 = xshl 1 x5 → ∀ z9 : Int, z9 = xor' x4 z8 → ∀ z10 : Int, z10 = wr (x5 + 1) → I0 x0 x1 x2 x3 z9 z10 h1))))))) : Q v h' := by
  refine x_mef vc_takers_k hs (fun k l h => match k with
    | 0 => (match l with | [x0, x1, x2, x3, x4, x5] => I0 x0 x1 x2 x3 x4 x5 h | _ => False)
    | _ => False) Q h0 ?_
  intro i Ti hT vals h hi
  match i, hT, hi with
  | 0, hT, hi =>
    cases hT
    match vals, hi with
    | [x0, x1, x2, x3, x4, x5], hi => exact k0 _ _ _ _ _ _ _ hi
    | [], hi => exact False.elim hi
    | [_], hi => exact False.elim hi
    | [_, _], hi => exact False.elim hi
    | [_, _, _], hi => exact False.elim hi
    | [_, _, _, _], hi => exact False.elim hi
    | [_, _, _, _, _], hi => exact False.elim hi
    | _ :: _ :: _ :: _ :: _ :: _ :: _ :: _, hi => exact False.elim hi
  | _ + 1, hT, _ => cases hT
def vc_wooers_T : xT := [(10, [.inl 1, .inr 0], 2, 5), (9, [.inr (-1)], 0, 0), (1, [.inr 3, .inl 2], 0, 0), (8, [.inl 3, .inr 1], 0, 0), (3, [.inr 3, .inl 2, .inl 4], 0, 0), (11, [.inr (-1)], 0, 0), (0, [.inr 11], 1, 0), (10, [.inl 1, .inl 2], 3, 5), (9, [.inr (-1)], 0, 0), (1, [.inr 3, .inl 3], 0, 0), (8, [.inl 4, .inr 1], 0, 0), (3, [.inr 3, .inl 3, .inl 5], 0, 0),
  (11, [.inr (-1)], 0, 0), (13, [.inr 11, .inl 1], 110, 0), (11, [.inl 3], 0, 0)]
theorem vc_wooers_k : x_chk 109 [] vc_wooers_T [] 600 = true := by decide +kernel
theorem vc_wooers {a0 a1 v : Int} {h h' : fH} (hs : fS 109 [a0, a1] h v h') (Q : Int → fH → Prop) (h0 : ((a1 < 0 → ∀ z2 : Int, z2 = wr (-(-1)) → ∀ z3 : Int, z3 = h 3 z2 → ∀ z4 : Int, z4 = wr (z3 + 1) → ∀ h1 : fH, h1 = fu h 3 z2 z4 → Q (-1) h1) ∧ (0 ≤ a1 → ∀ z2 : Int, z2 = h 11 1 → ((z2 ≤ a1 → ∀ z3 : Int, z3 = wr (-(-1)) → ∀ z4 : Int, z4 = h 3 z3 → ∀ z5 : Int, z5 = wr (z4 + 1) → ∀ h1 : fH, h1 = fu h 3 z3 z5 → Q (-1) h1) ∧ (a1 < z2 → ∀ (v1 : Int) (h1 : fH), fS 110 [11, a1] h v1 h1 → Q v1 h1))))) : Q v h' := by
  exact x_mef vc_wooers_k hs (fun _ _ _ => False) Q h0 (fun i Ti hT => by cases hT)
def vt_wooerBits_T : xT := [(12, [.inl 0, .inl 1, .inr 0, .inr 0], 0, 0)]
def vt_wooerBits_T0 : xT := [(0, [.inl 0], 1, 0), (10, [.inl 3, .inl 4], 3, 1), (11, [.inl 2], 0, 0), (10, [.inl 3, .inl 1], 0, 2), (8, [.inl 3, .inr 1], 0, 0), (12, [.inl 0, .inl 1, .inl 2, .inl 5], 0, 0), (13, [.inl 0, .inl 3, .inl 1], 107, 0), (10, [.inl 5, .inr (-9)], 0, 2), (8, [.inl 3, .inr 1], 0, 0), (12, [.inl 0, .inl 1, .inl 2, .inl 6], 0, 0), (8, [.inr 1, .inl 3], 6, 0), (8, [.inl 2, .inl 6], 4, 0),
  (8, [.inl 3, .inr 1], 0, 0), (12, [.inl 0, .inl 1, .inl 7, .inl 8], 0, 0)]
theorem vt_wooerBits_k : x_chk 110 [(4, [(0, 0), (1, 0), (2, 0), (3, 0)])] vt_wooerBits_T [vt_wooerBits_T0] 600 = true := by decide +kernel
theorem vt_wooerBits {a0 a1 v : Int} {h h' : fH} (hs : fS 110 [a0, a1] h v h') (I0 : Int → Int → Int → Int → fH → Prop) (Q : Int → fH → Prop) (h0 : I0 a0 a1 0 0 h) (k0 : ∀ (x0 x1 x2 x3 : Int) (h : fH), I0 x0 x1 x2 x3 h → ∀ z4 : Int, z4 = h x0 1 → ((z4 ≤ x3 → Q x2 h) ∧ (x3 < z4 → ((x3 = x1 → ∀ z5 : Int, z5 = wr (x3 + 1) → I0 x0 x1 x2 z5 h) ∧ (x3 ≠ x1 → ∀ (v1 : Int) (h1 : fH), fS 107 [x0, x3, x1] h v1 h1 → ((v1 = (-9) → ∀ z6 : Int, z6 = wr (x3 + 1) → I0 x0 x1 x2 z6 h1) ∧ (v1 ≠ (-9) → ∀ z6 : Int, z6 = xshl 1 x3 → ∀ z7 : Int, z7 = xor' x2 z6 → ∀ z8 : Int, z8 = wr (x3 + 1) → I0 x0 x1 z7 z8 h1))))))) : Q v h' := by
  refine x_mef vt_wooerBits_k hs (fun k l h => match k with
    | 0 => (match l with | [x0, x1, x2, x3] => I0 x0 x1 x2 x3 h | _ => False)
    | _ => False) Q h0 ?_
  intro i Ti hT vals h hi
  match i, hT, hi with
  | 0, hT, hi =>
    cases hT
    match vals, hi with
    | [x0, x1, x2, x3], hi => exact k0 _ _ _ _ _ hi
    | [], hi => exact False.elim hi
    | [_], hi => exact False.elim hi
    | [_, _], hi => exact False.elim hi
    | [_, _, _], hi => exact False.elim hi
    | _ :: _ :: _ :: _ :: _ :: _, hi => exact False.elim hi
  | _ + 1, hT, _ => cases hT
def vc_match_T : xT := [(10, [.inl 1, .inr (-1)], 0, 6), (13, [.inr 268, .inr 11], 112, 0), (10, [.inl 1, .inr (-1)], 1, 2), (13, [.inr 268, .inl 1], 116, 0), (11, [.inl 3], 0, 0), (13, [.inr 268], 115, 0), (11, [.inl 3], 0, 0), (10, [.inl 1, .inr 0], 2, 5), (9, [.inr (-1)], 0, 0), (1, [.inr 3, .inl 2], 0, 0), (8, [.inl 3, .inr 1], 0, 0), (3, [.inr 3, .inl 2, .inl 4], 0, 0),
  (11, [.inr (-1)], 0, 0), (0, [.inr 11], 1, 0), (10, [.inl 1, .inl 2], 3, 5), (9, [.inr (-1)], 0, 0), (1, [.inr 3, .inl 3], 0, 0), (8, [.inl 4, .inr 1], 0, 0), (3, [.inr 3, .inl 3, .inl 5], 0, 0), (11, [.inr (-1)], 0, 0), (13, [.inr 268, .inr 11], 112, 0), (10, [.inl 1, .inr (-1)], 1, 2), (13, [.inr 268, .inl 1], 116, 0), (11, [.inl 4], 0, 0),
  (13, [.inr 268], 115, 0), (11, [.inl 4], 0, 0)]
theorem vc_match_k : x_chk 111 [] vc_match_T [] 600 = true := by decide +kernel
theorem vc_match {a0 a1 v : Int} {h h' : fH} (hs : fS 111 [a0, a1] h v h') (Q : Int → fH → Prop) (h0 : ((a1 = (-1) → ∀ (v1 : Int) (h1 : fH), fS 112 [268, 11] h v1 h1 → ((a1 ≠ (-1) → ∀ (v2 : Int) (h2 : fH), fS 116 [268, a1] h1 v2 h2 → Q v2 h2) ∧ (a1 = (-1) → ∀ (v2 : Int) (h2 : fH), fS 115 [268] h1 v2 h2 → Q v2 h2))) ∧ (a1 ≠ (-1) → ((a1 < 0 → ∀ z2 : Int, z2 = wr (-(-1)) → ∀ z3 : Int, z3 = h 3 z2 → ∀ z4 : Int, z4 = wr (z3 + 1) → ∀ h1 : fH, h1 = fu h 3 z2 z4 → Q (-1) h1) ∧ (0 ≤ a1 → ∀ z2 : Int, z2 = h 11 1 → ((z2 ≤ a1 → ∀ z3 : Int, z3 = wr (-(-1)) → ∀ z4 : Int, z4 = h 3 z3 → ∀ z5 : Int, z5 = wr (z4 + 1) → ∀ h1 : fH, h1 = fu h 3 z3 z5 → Q (-1) h1) ∧ (a1 < z2 → ∀ (v1 : Int) (h1 : fH), fS 112 [268, 11] h v1 h1 → ((a1 ≠ (-1) → ∀ (v2 : Int) (h2 : fH), fS 116 [268, a1] h1 v2 h2 → Q v2 h2) ∧ (a1 = (-1) → ∀ (v2 : Int) (h2 : fH), fS 115 [268] h1 v2 h2 → Q v2 h2))))))))) : Q v h' := by
  exact x_mef vc_match_k hs (fun _ _ _ => False) Q h0 (fun i Ti hT => by cases hT)
def vw_reckon_T : xT := [(0, [.inl 1], 1, 0), (8, [.inr 1, .inl 2], 6, 0), (8, [.inl 3, .inr 1], 1, 0), (2, [.inl 0, .inl 4], 2, 0), (13, [.inr 269, .inr 0], 47, 0), (12, [.inl 0, .inl 1, .inr 0], 0, 0)]
def vw_reckon_T0 : xT := [(0, [.inl 1], 1, 0), (10, [.inl 2, .inl 3], 3, 1), (12, [.inl 0, .inr 1], 2, 0), (13, [.inl 1, .inl 2], 110, 0), (1, [.inr 269, .inl 2], 0, 0), (8, [.inl 5, .inl 4], 4, 0), (3, [.inr 269, .inl 2, .inl 6], 0, 0), (12, [.inl 0, .inl 1, .inl 2, .inl 4, .inr 0], 1, 0)]
def vw_reckon_T1 : xT := [(0, [.inl 1], 1, 0), (10, [.inl 4, .inl 5], 3, 2), (8, [.inl 2, .inr 1], 0, 0), (12, [.inl 0, .inl 1, .inl 6], 0, 0), (8, [.inl 3, .inl 4], 7, 0), (8, [.inl 6, .inr 1], 3, 0), (10, [.inl 7, .inr 1], 1, 2), (8, [.inl 4, .inr 1], 0, 0), (12, [.inl 0, .inl 1, .inl 2, .inl 3, .inl 8], 1, 0), (1, [.inr 269, .inl 4], 0, 0), (8, [.inr 1, .inl 2], 6, 0), (8, [.inl 8, .inl 9], 4, 0),
  (3, [.inr 269, .inl 4, .inl 10], 0, 0), (8, [.inl 4, .inr 1], 0, 0), (12, [.inl 0, .inl 1, .inl 2, .inl 3, .inl 11], 1, 0)]
def vw_reckon_T2 : xT := [(0, [.inl 0], 2, 0), (10, [.inl 1, .inl 2], 4, 1), (11, [.inr 0], 0, 0), (13, [.inl 0, .inl 1], 114, 0), (3, [.inr 270, .inl 1, .inl 3], 0, 0), (8, [.inl 1, .inr 1], 0, 0), (12, [.inl 0, .inl 4], 2, 0)]
theorem vw_reckon_k : x_chk 112 [(22, [(0, 0), (1, 0), (2, 0)]), (49, [(0, 0), (1, 0), (2, 0), (3, 0), (4, 0)]), (94, [(0, 0), (2, 0)])] vw_reckon_T [vw_reckon_T0, vw_reckon_T1, vw_reckon_T2] 600 = true := by decide +kernel
theorem vw_reckon {a0 a1 v : Int} {h h' : fH} (hs : fS 112 [a0, a1] h v h') (I0 : Int → Int → Int → fH → Prop) (I1 : Int → Int → Int → Int → Int → fH → Prop) (I2 : Int → Int → fH → Prop) (Q : Int → fH → Prop) (h0 : ∀ z2 : Int, z2 = h a1 1 → ∀ z3 : Int, z3 = xshl 1 z2 → ∀ z4 : Int, z4 = wr (z3 - 1) → ∀ h1 : fH, h1 = fu h a0 2 z4 → ∀ (v2 : Int) (h2 : fH), fS 47 [269, 0] h1 v2 h2 → I0 a0 a1 0 h2) (k0 : ∀ (x0 x1 x2 : Int) (h : fH), I0 x0 x1 x2 h → ∀ z3 : Int, z3 = h x1 1 → ((z3 ≤ x2 → I2 x0 1 h) ∧ (x2 < z3 → ∀ (v1 : Int) (h1 : fH), fS 110 [x1, x2] h v1 h1 → ∀ z5 : Int, z5 = h1 269 x2 → ∀ z6 : Int, z6 = xor' z5 v1 → ∀ h2 : fH, h2 = fu h1 269 x2 z6 → I1 x0 x1 x2 v1 0 h2))) (k1 : ∀ (x0 x1 x2 x3 x4 : Int) (h : fH), I1 x0 x1 x2 x3 x4 h → ∀ z5 : Int, z5 = h x1 1 → ((z5 ≤ x4 → ∀ z6 : Int, z6 = wr (x2 + 1) → I0 x0 x1 z6 h) ∧ (x4 < z5 → ∀ z6 : Int, z6 = xshr x3 x4 → ∀ z7 : Int, z7 = xand z6 1 → ((z7 ≠ 1 → ∀ z8 : Int, z8 = wr (x4 + 1) → I1 x0 x1 x2 x3 z8 h) ∧ (z7 = 1 → ∀ z8 : Int, z8 = h 269 x4 → ∀ z9 : Int, z9 = xshl 1 x2 → ∀ z10 : Int, z10 = xor' z8 z9 → ∀ h1 : fH, h1 = fu h 269 x4 z10 → ∀ z11 : Int, z11 = wr (x4 + 1) → I1 x0 x1 x2 x3 z11 h1))))) (k2 : ∀ (x0 x2 : Int) (h : fH), I2 x0 x2 h → ∀ z2 : Int, z2 = h x0 2 → ((z2 < x2 → Q 0 h) ∧ (x2 ≤ z2 → ∀ (v1 : Int) (h1 : fH), fS 114 [x0, x2] h v1 h1 → ∀ h2 : fH, h2 = fu h1 270 x2 v1 → ∀ z4 : Int, z4 = wr (x2 + 1) → I2 x0 z4 h2))) : Q v h' := by
  refine x_mef vw_reckon_k hs (fun k l h => match k with
    | 0 => (match l with | [x0, x1, x2] => I0 x0 x1 x2 h | _ => False)
    | 1 => (match l with | [x0, x1, x2, x3, x4] => I1 x0 x1 x2 x3 x4 h | _ => False)
    | 2 => (match l with | [x0, x2] => I2 x0 x2 h | _ => False)
    | _ => False) Q h0 ?_
  intro i Ti hT vals h hi
  match i, hT, hi with
  | 0, hT, hi =>
    cases hT
    match vals, hi with
    | [x0, x1, x2], hi => exact k0 _ _ _ _ hi
    | [], hi => exact False.elim hi
    | [_], hi => exact False.elim hi
    | [_, _], hi => exact False.elim hi
    | _ :: _ :: _ :: _ :: _, hi => exact False.elim hi
  | 1, hT, hi =>
    cases hT
    match vals, hi with
    | [x0, x1, x2, x3, x4], hi => exact k1 _ _ _ _ _ _ hi
    | [], hi => exact False.elim hi
    | [_], hi => exact False.elim hi
    | [_, _], hi => exact False.elim hi
    | [_, _, _], hi => exact False.elim hi
    | [_, _, _, _], hi => exact False.elim hi
    | _ :: _ :: _ :: _ :: _ :: _ :: _, hi => exact False.elim hi
  | 2, hT, hi =>
    cases hT
    match vals, hi with
    | [x0, x2], hi => exact k2 _ _ _ hi
    | [], hi => exact False.elim hi
    | [_], hi => exact False.elim hi
    | _ :: _ :: _ :: _, hi => exact False.elim hi
  | _ + 3, hT, _ => cases hT
def vw_mostIn_T : xT := [(12, [.inl 0, .inl 1, .inr 0], 0, 0)]
def vw_mostIn_T0 : xT := [(10, [.inl 2, .inr 6], 3, 5), (8, [.inr 1, .inl 2], 6, 0), (8, [.inl 3, .inr (-1)], 5, 0), (8, [.inl 1, .inl 4], 3, 0), (1, [.inr 270, .inl 5], 0, 0), (12, [.inl 0, .inl 2, .inl 5, .inl 6, .inr 0], 1, 0), (8, [.inl 1, .inl 2], 7, 0), (8, [.inl 3, .inr 1], 3, 0), (10, [.inl 4, .inr 1], 1, 2), (8, [.inl 2, .inr 1], 0, 0), (12, [.inl 0, .inl 1, .inl 5], 0, 0), (8, [.inr 1, .inl 2], 6, 0),
  (8, [.inl 5, .inr (-1)], 5, 0), (8, [.inl 1, .inl 6], 3, 0), (1, [.inr 270, .inl 7], 0, 0), (12, [.inl 0, .inl 2, .inl 7, .inl 8, .inr 0], 1, 0)]
def vw_mostIn_T1 : xT := [(10, [.inl 4, .inr 7], 3, 1), (11, [.inl 3], 0, 0), (1, [.inr 269, .inl 1], 0, 0), (8, [.inl 2, .inl 5], 3, 0), (8, [.inl 6, .inl 4], 7, 0), (8, [.inl 7, .inr 1], 3, 0), (10, [.inl 8, .inr 1], 1, 2), (8, [.inl 4, .inr 1], 0, 0), (12, [.inl 0, .inl 1, .inl 2, .inl 3, .inl 9], 1, 0), (8, [.inr 1, .inl 4], 6, 0), (8, [.inl 9, .inr (-1)], 5, 0), (8, [.inl 2, .inl 10], 3, 0),
  (1, [.inr 270, .inl 11], 0, 0), (8, [.inr 1, .inl 12], 0, 0), (8, [.inl 3, .inl 13], 11, 0), (8, [.inl 4, .inr 1], 0, 0), (12, [.inl 0, .inl 1, .inl 2, .inl 14, .inl 15], 1, 0)]
theorem vw_mostIn_k : x_chk 114 [(2, [(0, 0), (1, 0), (2, 0)]), (41, [(0, 0), (2, 0), (3, 0), (4, 0), (5, 0)])] vw_mostIn_T [vw_mostIn_T0, vw_mostIn_T1] 600 = true := by decide +kernel
theorem vw_mostIn {a0 a1 v : Int} {h h' : fH} (hs : fS 114 [a0, a1] h v h') (I0 : Int → Int → Int → fH → Prop) (I1 : Int → Int → Int → Int → Int → fH → Prop) (Q : Int → fH → Prop) (h0 : I0 a0 a1 0 h) (k0 : ∀ (x0 x1 x2 : Int) (h : fH), I0 x0 x1 x2 h → ((6 ≤ x2 → ∀ z3 : Int, z3 = xshl 1 x2 → ∀ z4 : Int, z4 = xxor z3 (-1) → ∀ z5 : Int, z5 = xand x1 z4 → ∀ z6 : Int, z6 = h 270 z5 → I1 x0 x2 z5 z6 0 h) ∧ (x2 < 6 → ∀ z3 : Int, z3 = xshr x1 x2 → ∀ z4 : Int, z4 = xand z3 1 → ((z4 ≠ 1 → ∀ z5 : Int, z5 = wr (x2 + 1) → I0 x0 x1 z5 h) ∧ (z4 = 1 → ∀ z5 : Int, z5 = xshl 1 x2 → ∀ z6 : Int, z6 = xxor z5 (-1) → ∀ z7 : Int, z7 = xand x1 z6 → ∀ z8 : Int, z8 = h 270 z7 → I1 x0 x2 z7 z8 0 h))))) (k1 : ∀ (x0 x2 x3 x4 x5 : Int) (h : fH), I1 x0 x2 x3 x4 x5 h → ((7 ≤ x5 → Q x4 h) ∧ (x5 < 7 → ∀ z5 : Int, z5 = h 269 x2 → ∀ z6 : Int, z6 = xand x3 z5 → ∀ z7 : Int, z7 = xshr z6 x5 → ∀ z8 : Int, z8 = xand z7 1 → ((z8 ≠ 1 → ∀ z9 : Int, z9 = wr (x5 + 1) → I1 x0 x2 x3 x4 z9 h) ∧ (z8 = 1 → ∀ z9 : Int, z9 = xshl 1 x5 → ∀ z10 : Int, z10 = xxor z9 (-1) → ∀ z11 : Int, z11 = xand x3 z10 → ∀ z12 : Int, z12 = h 270 z11 → ∀ z13 : Int, z13 = wr (1 + z12) → ∀ z14 : Int, z14 = xmax x4 z13 → ∀ z15 : Int, z15 = wr (x5 + 1) → I1 x0 x2 x3 z14 z15 h))))) : Q v h' := by
  refine x_mef vw_mostIn_k hs (fun k l h => match k with
    | 0 => (match l with | [x0, x1, x2] => I0 x0 x1 x2 h | _ => False)
    | 1 => (match l with | [x0, x2, x3, x4, x5] => I1 x0 x2 x3 x4 x5 h | _ => False)
    | _ => False) Q h0 ?_
  intro i Ti hT vals h hi
  match i, hT, hi with
  | 0, hT, hi =>
    cases hT
    match vals, hi with
    | [x0, x1, x2], hi => exact k0 _ _ _ _ hi
    | [], hi => exact False.elim hi
    | [_], hi => exact False.elim hi
    | [_, _], hi => exact False.elim hi
    | _ :: _ :: _ :: _ :: _, hi => exact False.elim hi
  | 1, hT, hi =>
    cases hT
    match vals, hi with
    | [x0, x2, x3, x4, x5], hi => exact k1 _ _ _ _ _ _ hi
    | [], hi => exact False.elim hi
    | [_], hi => exact False.elim hi
    | [_, _], hi => exact False.elim hi
    | [_, _, _], hi => exact False.elim hi
    | [_, _, _, _], hi => exact False.elim hi
    | _ :: _ :: _ :: _ :: _ :: _ :: _, hi => exact False.elim hi
  | _ + 2, hT, _ => cases hT
def vw_most_T : xT := [(0, [.inl 0], 2, 0), (1, [.inr 270, .inl 1], 0, 0), (11, [.inl 2], 0, 0)]
theorem vw_most_k : x_chk 115 [] vw_most_T [] 600 = true := by decide +kernel
theorem vw_most {a0 v : Int} {h h' : fH} (hs : fS 115 [a0] h v h') (Q : Int → fH → Prop) (h0 : ∀ z1 : Int, z1 = h a0 2 → ∀ z2 : Int, z2 = h 270 z1 → Q z2 h) : Q v h' := by
  exact x_mef vw_most_k hs (fun _ _ _ => False) Q h0 (fun i Ti hT => by cases hT)
def vw_partnerOf_T : xT := [(0, [.inl 0], 2, 0), (12, [.inl 0, .inl 1, .inl 2, .inr 0], 0, 0)]
def vw_partnerOf_T0 : xT := [(10, [.inl 3, .inr 7], 3, 1), (11, [.inr (-9)], 0, 0), (8, [.inl 2, .inl 3], 7, 0), (8, [.inl 4, .inr 1], 3, 0), (10, [.inl 5, .inr 1], 1, 2), (8, [.inl 3, .inr 1], 0, 0), (12, [.inl 0, .inl 1, .inl 2, .inl 6], 0, 0), (13, [.inl 0, .inl 2, .inl 3], 117, 0), (10, [.inl 3, .inl 1], 1, 13), (10, [.inl 6, .inl 1], 1, 11), (8, [.inr 1, .inl 3], 6, 0), (8, [.inl 7, .inr (-1)], 5, 0),
  (8, [.inl 2, .inl 8], 3, 0), (10, [.inl 6, .inr (-9)], 0, 2), (8, [.inl 3, .inr 1], 0, 0), (12, [.inl 0, .inl 1, .inl 9, .inl 10], 0, 0), (8, [.inr 1, .inl 6], 6, 0), (8, [.inl 10, .inr (-1)], 5, 0), (8, [.inl 9, .inl 11], 3, 0), (8, [.inl 3, .inr 1], 0, 0), (12, [.inl 0, .inl 1, .inl 12, .inl 13], 0, 0), (11, [.inl 3], 0, 0), (11, [.inl 6], 0, 0)]
theorem vw_partnerOf_k : x_chk 116 [(7, [(0, 0), (1, 0), (2, 0), (3, 0)])] vw_partnerOf_T [vw_partnerOf_T0] 600 = true := by decide +kernel
theorem vw_partnerOf {a0 a1 v : Int} {h h' : fH} (hs : fS 116 [a0, a1] h v h') (I0 : Int → Int → Int → Int → fH → Prop) (Q : Int → fH → Prop) (h0 : ∀ z2 : Int, z2 = h a0 2 → I0 a0 a1 z2 0 h) (k0 : ∀ (x0 x1 x2 x3 : Int) (h : fH), I0 x0 x1 x2 x3 h → ((7 ≤ x3 → Q (-9) h) ∧ (x3 < 7 → ∀ z4 : Int, z4 = xshr x2 x3 → ∀ z5 : Int, z5 = xand z4 1 → ((z5 ≠ 1 → ∀ z6 : Int, z6 = wr (x3 + 1) → I0 x0 x1 x2 z6 h) ∧ (z5 = 1 → ∀ (v1 : Int) (h1 : fH), fS 117 [x0, x2, x3] h v1 h1 → ((x3 ≠ x1 → ((v1 ≠ x1 → ∀ z7 : Int, z7 = xshl 1 x3 → ∀ z8 : Int, z8 = xxor z7 (-1) → ∀ z9 : Int, z9 = xand x2 z8 → ((v1 = (-9) → ∀ z10 : Int, z10 = wr (x3 + 1) → I0 x0 x1 z9 z10 h1) ∧ (v1 ≠ (-9) → ∀ z10 : Int, z10 = xshl 1 v1 → ∀ z11 : Int, z11 = xxor z10 (-1) → ∀ z12 : Int, z12 = xand z9 z11 → ∀ z13 : Int, z13 = wr (x3 + 1) → I0 x0 x1 z12 z13 h1))) ∧ (v1 = x1 → Q x3 h1))) ∧ (x3 = x1 → Q v1 h1))))))) : Q v h' := by
  refine x_mef vw_partnerOf_k hs (fun k l h => match k with
    | 0 => (match l with | [x0, x1, x2, x3] => I0 x0 x1 x2 x3 h | _ => False)
    | _ => False) Q h0 ?_
  intro i Ti hT vals h hi
  match i, hT, hi with
  | 0, hT, hi =>
    cases hT
    match vals, hi with
    | [x0, x1, x2, x3], hi => exact k0 _ _ _ _ _ hi
    | [], hi => exact False.elim hi
    | [_], hi => exact False.elim hi
    | [_, _], hi => exact False.elim hi
    | [_, _, _], hi => exact False.elim hi
    | _ :: _ :: _ :: _ :: _ :: _, hi => exact False.elim hi
  | _ + 1, hT, _ => cases hT
