/-! the trees of the methods (made by a program) -/
def vk_Aunt_asks_T : xT := [(13, [.inl 0, .inl 1], 35, 0), (8, [.inl 2, .inr 1], 0, 0), (11, [.inl 3], 0, 0)]
theorem vk_Aunt_asks_k : x_chk 30 [] vk_Aunt_asks_T [] 600 = true := by decide +kernel
theorem vk_Aunt_asks {a0 a1 v : Int} {h h' : fH} (hs : fS 30 [a0, a1] h v h') (Q : Int → fH → Prop) (h0 : ∀ (v1 : Int) (h1 : fH), fS 35 [a0, a1] h v1 h1 → ∀ z3 : Int, z3 = wr (v1 + 1) → Q z3 h1) : Q v h' := by
  exact x_mef vk_Aunt_asks_k hs (fun _ _ _ => False) Q h0 (fun i Ti hT => by cases hT)
def vk_Gambler_asks_T : xT := [(11, [.inr 0], 0, 0)]
theorem vk_Gambler_asks_k : x_chk 31 [] vk_Gambler_asks_T [] 600 = true := by decide +kernel
theorem vk_Gambler_asks {a0 a1 v : Int} {h h' : fH} (hs : fS 31 [a0, a1] h v h') (Q : Int → fH → Prop) (h0 : Q 0 h) : Q v h' := by
  exact x_mef vk_Gambler_asks_k hs (fun _ _ _ => False) Q h0 (fun i Ti hT => by cases hT)
def vk_Girl_asks_T : xT := [(11, [.inl 1], 0, 0)]
theorem vk_Girl_asks_k : x_chk 32 [] vk_Girl_asks_T [] 600 = true := by decide +kernel
theorem vk_Girl_asks {a0 a1 v : Int} {h h' : fH} (hs : fS 32 [a0, a1] h v h') (Q : Int → fH → Prop) (h0 : Q a1 h) : Q v h' := by
  exact x_mef vk_Girl_asks_k hs (fun _ _ _ => False) Q h0 (fun i Ti hT => by cases hT)
def vk_Honest_asks_T : xT := [(13, [.inl 0, .inl 1], 31, 0), (8, [.inl 2, .inr 3], 0, 0), (11, [.inl 3], 0, 0)]
theorem vk_Honest_asks_k : x_chk 33 [] vk_Honest_asks_T [] 600 = true := by decide +kernel
theorem vk_Honest_asks {a0 a1 v : Int} {h h' : fH} (hs : fS 33 [a0, a1] h v h') (Q : Int → fH → Prop) (h0 : ∀ (v1 : Int) (h1 : fH), fS 31 [a0, a1] h v1 h1 → ∀ z3 : Int, z3 = wr (v1 + 3) → Q z3 h1) : Q v h' := by
  exact x_mef vk_Honest_asks_k hs (fun _ _ _ => False) Q h0 (fun i Ti hT => by cases hT)
def vk_Rich_asks_T : xT := [(13, [.inl 0, .inl 1], 30, 0), (8, [.inl 1, .inr 3], 9, 0), (8, [.inl 2, .inl 3], 0, 0), (11, [.inl 4], 0, 0)]
theorem vk_Rich_asks_k : x_chk 34 [] vk_Rich_asks_T [] 600 = true := by decide +kernel
theorem vk_Rich_asks {a0 a1 v : Int} {h h' : fH} (hs : fS 34 [a0, a1] h v h') (Q : Int → fH → Prop) (h0 : ∀ (v1 : Int) (h1 : fH), fS 30 [a0, a1] h v1 h1 → ∀ z3 : Int, z3 = xdiv a1 3 → ∀ z4 : Int, z4 = wr (v1 + z3) → Q z4 h1) : Q v h' := by
  exact x_mef vk_Rich_asks_k hs (fun _ _ _ => False) Q h0 (fun i Ti hT => by cases hT)
def vk_Suitor_asks_T : xT := [(11, [.inr 5], 0, 0)]
theorem vk_Suitor_asks_k : x_chk 35 [] vk_Suitor_asks_T [] 600 = true := by decide +kernel
theorem vk_Suitor_asks {a0 a1 v : Int} {h h' : fH} (hs : fS 35 [a0, a1] h v h') (Q : Int → fH → Prop) (h0 : Q 5 h) : Q v h' := by
  exact x_mef vk_Suitor_asks_k hs (fun _ _ _ => False) Q h0 (fun i Ti hT => by cases hT)
def vk_Aunt_weeps_T : xT := [(13, [.inl 0, .inl 1], 41, 0), (8, [.inl 2, .inr 3], 1, 0), (11, [.inl 3], 0, 0)]
theorem vk_Aunt_weeps_k : x_chk 36 [] vk_Aunt_weeps_T [] 600 = true := by decide +kernel
theorem vk_Aunt_weeps {a0 a1 v : Int} {h h' : fH} (hs : fS 36 [a0, a1] h v h') (Q : Int → fH → Prop) (h0 : ∀ (v1 : Int) (h1 : fH), fS 41 [a0, a1] h v1 h1 → ∀ z3 : Int, z3 = wr (v1 - 3) → Q z3 h1) : Q v h' := by
  exact x_mef vk_Aunt_weeps_k hs (fun _ _ _ => False) Q h0 (fun i Ti hT => by cases hT)
def vk_Gambler_weeps_T : xT := [(11, [.inr 0], 0, 0)]
theorem vk_Gambler_weeps_k : x_chk 37 [] vk_Gambler_weeps_T [] 600 = true := by decide +kernel
theorem vk_Gambler_weeps {a0 a1 v : Int} {h h' : fH} (hs : fS 37 [a0, a1] h v h') (Q : Int → fH → Prop) (h0 : Q 0 h) : Q v h' := by
  exact x_mef vk_Gambler_weeps_k hs (fun _ _ _ => False) Q h0 (fun i Ti hT => by cases hT)
def vk_Girl_weeps_T : xT := [(13, [.inl 0, .inl 1], 41, 0), (8, [.inr 2, .inl 2], 2, 0), (11, [.inl 3], 0, 0)]
theorem vk_Girl_weeps_k : x_chk 38 [] vk_Girl_weeps_T [] 600 = true := by decide +kernel
theorem vk_Girl_weeps {a0 a1 v : Int} {h h' : fH} (hs : fS 38 [a0, a1] h v h') (Q : Int → fH → Prop) (h0 : ∀ (v1 : Int) (h1 : fH), fS 41 [a0, a1] h v1 h1 → ∀ z3 : Int, z3 = wr (2 * v1) → Q z3 h1) : Q v h' := by
  exact x_mef vk_Girl_weeps_k hs (fun _ _ _ => False) Q h0 (fun i Ti hT => by cases hT)
def vk_Honest_weeps_T : xT := [(13, [.inl 0, .inl 1], 37, 0), (8, [.inl 2, .inl 1], 0, 0), (11, [.inl 3], 0, 0)]
theorem vk_Honest_weeps_k : x_chk 39 [] vk_Honest_weeps_T [] 600 = true := by decide +kernel
theorem vk_Honest_weeps {a0 a1 v : Int} {h h' : fH} (hs : fS 39 [a0, a1] h v h') (Q : Int → fH → Prop) (h0 : ∀ (v1 : Int) (h1 : fH), fS 37 [a0, a1] h v1 h1 → ∀ z3 : Int, z3 = wr (v1 + a1) → Q z3 h1) : Q v h' := by
  exact x_mef vk_Honest_weeps_k hs (fun _ _ _ => False) Q h0 (fun i Ti hT => by cases hT)
def vk_Rich_weeps_T : xT := [(13, [.inl 0, .inl 1], 36, 0), (8, [.inl 2, .inr 1], 0, 0), (11, [.inl 3], 0, 0)]
theorem vk_Rich_weeps_k : x_chk 40 [] vk_Rich_weeps_T [] 600 = true := by decide +kernel
theorem vk_Rich_weeps {a0 a1 v : Int} {h h' : fH} (hs : fS 40 [a0, a1] h v h') (Q : Int → fH → Prop) (h0 : ∀ (v1 : Int) (h1 : fH), fS 36 [a0, a1] h v1 h1 → ∀ z3 : Int, z3 = wr (v1 + 1) → Q z3 h1) : Q v h' := by
  exact x_mef vk_Rich_weeps_k hs (fun _ _ _ => False) Q h0 (fun i Ti hT => by cases hT)
def vk_Suitor_weeps_T : xT := [(11, [.inr 5], 0, 0)]
theorem vk_Suitor_weeps_k : x_chk 41 [] vk_Suitor_weeps_T [] 600 = true := by decide +kernel
theorem vk_Suitor_weeps {a0 a1 v : Int} {h h' : fH} (hs : fS 41 [a0, a1] h v h') (Q : Int → fH → Prop) (h0 : Q 5 h) : Q v h' := by
  exact x_mef vk_Suitor_weeps_k hs (fun _ _ _ => False) Q h0 (fun i Ti hT => by cases hT)
def vk_Aunt_learns_T : xT := [(11, [.inr 0], 0, 0)]
theorem vk_Aunt_learns_k : x_chk 42 [] vk_Aunt_learns_T [] 600 = true := by decide +kernel
theorem vk_Aunt_learns {a0 v : Int} {h h' : fH} (hs : fS 42 [a0] h v h') (Q : Int → fH → Prop) (h0 : Q 0 h) : Q v h' := by
  exact x_mef vk_Aunt_learns_k hs (fun _ _ _ => False) Q h0 (fun i Ti hT => by cases hT)
def vk_Girl_learns_T : xT := [(13, [.inl 0], 46, 0), (8, [.inl 1, .inr 1], 0, 0), (11, [.inl 2], 0, 0)]
theorem vk_Girl_learns_k : x_chk 43 [] vk_Girl_learns_T [] 600 = true := by decide +kernel
theorem vk_Girl_learns {a0 v : Int} {h h' : fH} (hs : fS 43 [a0] h v h') (Q : Int → fH → Prop) (h0 : ∀ (v1 : Int) (h1 : fH), fS 46 [a0] h v1 h1 → ∀ z2 : Int, z2 = wr (v1 + 1) → Q z2 h1) : Q v h' := by
  exact x_mef vk_Girl_learns_k hs (fun _ _ _ => False) Q h0 (fun i Ti hT => by cases hT)
def vk_Honest_learns_T : xT := [(13, [.inl 0], 46, 0), (8, [.inl 1, .inr 2], 0, 0), (11, [.inl 2], 0, 0)]
theorem vk_Honest_learns_k : x_chk 44 [] vk_Honest_learns_T [] 600 = true := by decide +kernel
theorem vk_Honest_learns {a0 v : Int} {h h' : fH} (hs : fS 44 [a0] h v h') (Q : Int → fH → Prop) (h0 : ∀ (v1 : Int) (h1 : fH), fS 46 [a0] h v1 h1 → ∀ z2 : Int, z2 = wr (v1 + 2) → Q z2 h1) : Q v h' := by
  exact x_mef vk_Honest_learns_k hs (fun _ _ _ => False) Q h0 (fun i Ti hT => by cases hT)
def vk_Rich_learns_T : xT := [(13, [.inl 0], 42, 0), (8, [.inl 1, .inr 1], 0, 0), (11, [.inl 2], 0, 0)]
theorem vk_Rich_learns_k : x_chk 45 [] vk_Rich_learns_T [] 600 = true := by decide +kernel
theorem vk_Rich_learns {a0 v : Int} {h h' : fH} (hs : fS 45 [a0] h v h') (Q : Int → fH → Prop) (h0 : ∀ (v1 : Int) (h1 : fH), fS 42 [a0] h v1 h1 → ∀ z2 : Int, z2 = wr (v1 + 1) → Q z2 h1) : Q v h' := by
  exact x_mef vk_Rich_learns_k hs (fun _ _ _ => False) Q h0 (fun i Ti hT => by cases hT)
def vk_Suitor_learns_T : xT := [(11, [.inr 1], 0, 0)]
theorem vk_Suitor_learns_k : x_chk 46 [] vk_Suitor_learns_T [] 600 = true := by decide +kernel
theorem vk_Suitor_learns {a0 v : Int} {h h' : fH} (hs : fS 46 [a0] h v h') (Q : Int → fH → Prop) (h0 : Q 1 h) : Q v h' := by
  exact x_mef vk_Suitor_learns_k hs (fun _ _ _ => False) Q h0 (fun i Ti hT => by cases hT)
def vj_fill_T : xT := [(6, [.inl 0], 0, 0), (12, [.inl 0, .inl 1, .inr 0, .inl 2], 0, 0)]
def vj_fill_T0 : xT := [(10, [.inl 2, .inl 3], 3, 1), (11, [.inr 0], 0, 0), (3, [.inl 0, .inl 2, .inl 1], 0, 0), (8, [.inl 2, .inr 1], 0, 0), (12, [.inl 0, .inl 1, .inl 4, .inl 3], 0, 0)]
theorem vj_fill_k : x_chk 47 [(5, [(0, 0), (1, 0), (2, 0), (3, 0)])] vj_fill_T [vj_fill_T0] 600 = true := by decide +kernel
theorem vj_fill {a0 a1 v : Int} {h h' : fH} (hs : fS 47 [a0, a1] h v h') (I0 : Int → Int → Int → Int → fH → Prop) (Q : Int → fH → Prop) (h0 : ∀ z2 : Int, z2 = f_len a0 → I0 a0 a1 0 z2 h) (k0 : ∀ (x0 x1 x2 x3 : Int) (h : fH), I0 x0 x1 x2 x3 h → ((x3 ≤ x2 → Q 0 h) ∧ (x2 < x3 → ∀ h1 : fH, h1 = fu h x0 x2 x1 → ∀ z4 : Int, z4 = wr (x2 + 1) → I0 x0 x1 z4 x3 h1))) : Q v h' := by
  refine x_mef vj_fill_k hs (fun k l h => match k with
    | 0 => (match l with | [x0, x1, x2, x3] => I0 x0 x1 x2 x3 h | _ => False)
    | _ => False) Q h0 ?_
  intro i Ti hT vals h hi
  match i, hT, hi with
  | 0, hT, hi =>
    cases hT
    match vals, hi with
    | [x0, x1, x2, x3], hi => exact k0 _ _ _ _ _ hi
    | [], hi => exact False.elim hi
    | [_], hi => exact False.elim hi
    | [_, _], hi => exact False.elim hi
    | [_, _, _], hi => exact False.elim hi
    | _ :: _ :: _ :: _ :: _ :: _, hi => exact False.elim hi
  | _ + 1, hT, _ => cases hT
def vt_refusalToPropose_T : xT := [(10, [.inl 1, .inr 0], 2, 1), (11, [.inr (-1)], 0, 0), (0, [.inl 0], 1, 0), (10, [.inl 1, .inl 6], 3, 1), (11, [.inr (-1)], 0, 0), (10, [.inl 2, .inr 0], 2, 1), (11, [.inr (-1)], 0, 0), (0, [.inl 0], 1, 0), (10, [.inl 2, .inl 7], 3, 1), (11, [.inr (-1)], 0, 0), (10, [.inl 1, .inl 2], 0, 1), (11, [.inr (-1)], 0, 0),
  (10, [.inl 3, .inr 0], 2, 1), (11, [.inr (-1)], 0, 0), (10, [.inl 3, .inr 5], 3, 1), (11, [.inr (-1)], 0, 0), (10, [.inl 4, .inr 0], 2, 1), (11, [.inr (-2)], 0, 0), (10, [.inl 4, .inr 2], 3, 1), (11, [.inr (-2)], 0, 0), (10, [.inl 5, .inr 1], 3, 9), (10, [.inl 5, .inr 9], 5, 7), (0, [.inl 0], 14, 0), (10, [.inl 8, .inr 3], 3, 1),
  (11, [.inr (-3)], 0, 0), (13, [.inl 0, .inl 1, .inl 2, .inl 3, .inl 4], 56, 0), (10, [.inl 9, .inr 0], 0, 1), (11, [.inr (-3)], 0, 0), (11, [.inr 0], 0, 0), (11, [.inr (-6)], 0, 0), (11, [.inr (-4)], 0, 0)]
theorem vt_refusalToPropose_k : x_chk 54 [] vt_refusalToPropose_T [] 600 = true := by decide +kernel
theorem vt_refusalToPropose {a0 a1 a2 a3 a4 a5 v : Int} {h h' : fH} (hs : fS 54 [a0, a1, a2, a3, a4, a5] h v h') (Q : Int → fH → Prop) (h0 : ((a1 < 0 → Q (-1) h) ∧ (0 ≤ a1 → ∀ z6 : Int, z6 = h a0 1 → ((z6 ≤ a1 → Q (-1) h) ∧ (a1 < z6 → ((a2 < 0 → Q (-1) h) ∧ (0 ≤ a2 → ∀ z7 : Int, z7 = h a0 1 → ((z7 ≤ a2 → Q (-1) h) ∧ (a2 < z7 → ((a1 = a2 → Q (-1) h) ∧ (a1 ≠ a2 → ((a3 < 0 → Q (-1) h) ∧ (0 ≤ a3 → ((5 ≤ a3 → Q (-1) h) ∧ (a3 < 5 → ((a4 < 0 → Q (-2) h) ∧ (0 ≤ a4 → ((2 ≤ a4 → Q (-2) h) ∧ (a4 < 2 → ((1 ≤ a5 → ((a5 ≤ 9 → ∀ z8 : Int, z8 = h a0 14 → ((3 ≤ z8 → Q (-3) h) ∧ (z8 < 3 → ∀ (v1 : Int) (h1 : fH), fS 56 [a0, a1, a2, a3, a4] h v1 h1 → ((v1 = 0 → Q (-3) h1) ∧ (v1 ≠ 0 → Q 0 h1))))) ∧ (9 < a5 → Q (-6) h))) ∧ (a5 < 1 → Q (-4) h))))))))))))))))))))) : Q v h' := by
  exact x_mef vt_refusalToPropose_k hs (fun _ _ _ => False) Q h0 (fun i Ti hT => by cases hT)
def vt_canBe_T : xT := [(13, [.inl 0, .inl 1], 57, 0), (10, [.inl 5, .inr 0], 0, 1), (11, [.inr 0], 0, 0), (13, [.inl 0, .inl 2], 57, 0), (10, [.inl 6, .inr 0], 0, 1), (11, [.inr 0], 0, 0), (13, [.inl 0, .inl 1, .inl 3, .inl 4], 60, 0), (10, [.inl 7, .inr 4], 4, 1), (11, [.inr 0], 0, 0), (13, [.inl 0, .inl 2, .inl 1, .inl 3, .inl 4], 61, 0), (10, [.inl 8, .inr 0], 0, 1), (11, [.inr 0], 0, 0),
  (11, [.inr 1], 0, 0)]
theorem vt_canBe_k : x_chk 56 [] vt_canBe_T [] 600 = true := by decide +kernel
theorem vt_canBe {a0 a1 a2 a3 a4 v : Int} {h h' : fH} (hs : fS 56 [a0, a1, a2, a3, a4] h v h') (Q : Int → fH → Prop) (h0 : ∀ (v1 : Int) (h1 : fH), fS 57 [a0, a1] h v1 h1 → ((v1 = 0 → Q 0 h1) ∧ (v1 ≠ 0 → ∀ (v2 : Int) (h2 : fH), fS 57 [a0, a2] h1 v2 h2 → ((v2 = 0 → Q 0 h2) ∧ (v2 ≠ 0 → ∀ (v3 : Int) (h3 : fH), fS 60 [a0, a1, a3, a4] h2 v3 h3 → ((4 < v3 → Q 0 h3) ∧ (v3 ≤ 4 → ∀ (v4 : Int) (h4 : fH), fS 61 [a0, a2, a1, a3, a4] h3 v4 h4 → ((v4 = 0 → Q 0 h4) ∧ (v4 ≠ 0 → Q 1 h4))))))))) : Q v h' := by
  exact x_mef vt_canBe_k hs (fun _ _ _ => False) Q h0 (fun i Ti hT => by cases hT)
def vt_isFree_T : xT := [(4, [.inl 0], 0, 8), (1, [.inl 2, .inl 1], 0, 0), (10, [.inl 3, .inr (-9)], 0, 4), (13, [.inl 0, .inl 1], 59, 0), (10, [.inl 4, .inr 0], 3, 1), (11, [.inr 0], 0, 0), (11, [.inr 1], 0, 0), (11, [.inr 0], 0, 0)]
theorem vt_isFree_k : x_chk 57 [] vt_isFree_T [] 600 = true := by decide +kernel
theorem vt_isFree {a0 a1 v : Int} {h h' : fH} (hs : fS 57 [a0, a1] h v h') (Q : Int → fH → Prop) (h0 : ∀ z2 : Int, z2 = a0 + 8 → ∀ z3 : Int, z3 = h z2 a1 → ((z3 = (-9) → ∀ (v1 : Int) (h1 : fH), fS 59 [a0, a1] h v1 h1 → ((0 ≤ v1 → Q 0 h1) ∧ (v1 < 0 → Q 1 h1))) ∧ (z3 ≠ (-9) → Q 0 h))) : Q v h' := by
  exact x_mef vt_isFree_k hs (fun _ _ _ => False) Q h0 (fun i Ti hT => by cases hT)
def vt_wagerWith_T : xT := [(12, [.inl 0, .inl 1, .inr 0], 0, 0)]
def vt_wagerWith_T0 : xT := [(0, [.inl 0], 14, 0), (10, [.inl 2, .inl 3], 3, 1), (11, [.inr (-9)], 0, 0), (4, [.inl 0], 0, 19), (1, [.inl 4, .inl 2], 0, 0), (0, [.inl 5], 0, 0), (10, [.inl 6, .inl 1], 0, 1), (11, [.inl 2], 0, 0), (4, [.inl 0], 0, 19), (1, [.inl 7, .inl 2], 0, 0), (0, [.inl 8], 1, 0), (10, [.inl 9, .inl 1], 1, 2),
  (8, [.inl 2, .inr 1], 0, 0), (12, [.inl 0, .inl 1, .inl 10], 0, 0), (11, [.inl 2], 0, 0)]
theorem vt_wagerWith_k : x_chk 59 [(2, [(0, 0), (1, 0), (2, 0)])] vt_wagerWith_T [vt_wagerWith_T0] 600 = true := by decide +kernel
theorem vt_wagerWith {a0 a1 v : Int} {h h' : fH} (hs : fS 59 [a0, a1] h v h') (I0 : Int → Int → Int → fH → Prop) (Q : Int → fH → Prop) (h0 : I0 a0 a1 0 h) (k0 : ∀ (x0 x1 x2 : Int) (h : fH), I0 x0 x1 x2 h → ∀ z3 : Int, z3 = h x0 14 → ((z3 ≤ x2 → Q (-9) h) ∧ (x2 < z3 → ∀ z4 : Int, z4 = x0 + 19 → ∀ z5 : Int, z5 = h z4 x2 → ∀ z6 : Int, z6 = h z5 0 → ((z6 = x1 → Q x2 h) ∧ (z6 ≠ x1 → ∀ z7 : Int, z7 = x0 + 19 → ∀ z8 : Int, z8 = h z7 x2 → ∀ z9 : Int, z9 = h z8 1 → ((z9 ≠ x1 → ∀ z10 : Int, z10 = wr (x2 + 1) → I0 x0 x1 z10 h) ∧ (z9 = x1 → Q x2 h))))))) : Q v h' := by
  refine x_mef vt_wagerWith_k hs (fun k l h => match k with
    | 0 => (match l with | [x0, x1, x2] => I0 x0 x1 x2 h | _ => False)
    | _ => False) Q h0 ?_
  intro i Ti hT vals h hi
  match i, hT, hi with
  | 0, hT, hi =>
    cases hT
    match vals, hi with
    | [x0, x1, x2], hi => exact k0 _ _ _ _ hi
    | [], hi => exact False.elim hi
    | [_], hi => exact False.elim hi
    | [_, _], hi => exact False.elim hi
    | _ :: _ :: _ :: _ :: _, hi => exact False.elim hi
  | _ + 1, hT, _ => cases hT
def vt_trust_T : xT := [(10, [.inl 3, .inr 1], 1, 5), (4, [.inl 0], 0, 9), (5, [.inl 4, .inl 1], 0, 1), (1, [.inl 5, .inl 2], 0, 0), (8, [.inr 9, .inl 6], 1, 0), (11, [.inl 7], 0, 0), (4, [.inl 0], 0, 9), (5, [.inl 4, .inl 1], 0, 1), (1, [.inl 5, .inl 2], 0, 0), (11, [.inl 6], 0, 0)]
theorem vt_trust_k : x_chk 60 [] vt_trust_T [] 600 = true := by decide +kernel
theorem vt_trust {a0 a1 a2 a3 v : Int} {h h' : fH} (hs : fS 60 [a0, a1, a2, a3] h v h') (Q : Int → fH → Prop) (h0 : ((a3 ≠ 1 → ∀ z4 : Int, z4 = a0 + 9 → ∀ z5 : Int, z5 = z4 + 1 + 1 * a1 → ∀ z6 : Int, z6 = h z5 a2 → ∀ z7 : Int, z7 = wr (9 - z6) → Q z7 h) ∧ (a3 = 1 → ∀ z4 : Int, z4 = a0 + 9 → ∀ z5 : Int, z5 = z4 + 1 + 1 * a1 → ∀ z6 : Int, z6 = h z5 a2 → Q z6 h))) : Q v h' := by
  exact x_mef vt_trust_k hs (fun _ _ _ => False) Q h0 (fun i Ti hT => by cases hT)
def vt_wouldTake_T : xT := [(4, [.inl 0], 0, 6), (1, [.inl 5, .inl 1], 0, 0), (10, [.inl 6, .inl 2], 0, 1), (11, [.inr 1], 0, 0), (13, [.inl 0, .inl 1, .inl 3, .inl 4], 60, 0), (4, [.inl 0], 0, 3), (1, [.inl 8, .inl 1], 0, 0), (10, [.inl 7, .inl 9], 2, 1), (11, [.inr 0], 0, 0), (11, [.inr 1], 0, 0)]
theorem vt_wouldTake_k : x_chk 61 [] vt_wouldTake_T [] 600 = true := by decide +kernel
theorem vt_wouldTake {a0 a1 a2 a3 a4 v : Int} {h h' : fH} (hs : fS 61 [a0, a1, a2, a3, a4] h v h') (Q : Int → fH → Prop) (h0 : ∀ z5 : Int, z5 = a0 + 6 → ∀ z6 : Int, z6 = h z5 a1 → ((z6 = a2 → Q 1 h) ∧ (z6 ≠ a2 → ∀ (v1 : Int) (h1 : fH), fS 60 [a0, a1, a3, a4] h v1 h1 → ∀ z8 : Int, z8 = a0 + 3 → ∀ z9 : Int, z9 = h1 z8 a1 → ((v1 < z9 → Q 0 h1) ∧ (z9 ≤ v1 → Q 1 h1))))) : Q v h' := by
  exact x_mef vt_wouldTake_k hs (fun _ _ _ => False) Q h0 (fun i Ti hT => by cases hT)
def vt_goOn_T : xT := [(12, [.inl 0, .inl 1, .inr 0], 0, 0)]
def vt_goOn_T0 : xT := [(10, [.inl 2, .inl 1], 3, 1), (11, [.inr 0], 0, 0), (0, [.inl 0], 15, 0), (8, [.inl 3, .inr 1], 0, 0), (2, [.inl 0, .inl 4], 15, 0), (13, [.inl 0], 65, 0), (13, [.inl 0], 71, 0), (8, [.inl 2, .inr 1], 0, 0), (12, [.inl 0, .inl 1, .inl 7], 0, 0)]
theorem vt_goOn_k : x_chk 64 [(2, [(0, 0), (1, 0), (2, 0)])] vt_goOn_T [vt_goOn_T0] 600 = true := by decide +kernel
theorem vt_goOn {a0 a1 v : Int} {h h' : fH} (hs : fS 64 [a0, a1] h v h') (I0 : Int → Int → Int → fH → Prop) (Q : Int → fH → Prop) (h0 : I0 a0 a1 0 h) (k0 : ∀ (x0 x1 x2 : Int) (h : fH), I0 x0 x1 x2 h → ((x1 ≤ x2 → Q 0 h) ∧ (x2 < x1 → ∀ z3 : Int, z3 = h x0 15 → ∀ z4 : Int, z4 = wr (z3 + 1) → ∀ h1 : fH, h1 = fu h x0 15 z4 → ∀ (v2 : Int) (h2 : fH), fS 65 [x0] h1 v2 h2 → ∀ (v3 : Int) (h3 : fH), fS 71 [x0] h2 v3 h3 → ∀ z7 : Int, z7 = wr (x2 + 1) → I0 x0 x1 z7 h3))) : Q v h' := by
  refine x_mef vt_goOn_k hs (fun k l h => match k with
    | 0 => (match l with | [x0, x1, x2] => I0 x0 x1 x2 h | _ => False)
    | _ => False) Q h0 ?_
  intro i Ti hT vals h hi
  match i, hT, hi with
  | 0, hT, hi =>
    cases hT
    match vals, hi with
    | [x0, x1, x2], hi => exact k0 _ _ _ _ hi
    | [], hi => exact False.elim hi
    | [_], hi => exact False.elim hi
    | [_, _], hi => exact False.elim hi
    | _ :: _ :: _ :: _ :: _, hi => exact False.elim hi
  | _ + 1, hT, _ => cases hT
def vt_comeOut_T : xT := [(0, [.inl 0], 14, 0), (12, [.inl 0, .inr 0, .inl 1], 0, 0)]
def vt_comeOut_T0 : xT := [(10, [.inl 2, .inr 0], 5, 1), (11, [.inr 0], 0, 0), (4, [.inl 0], 0, 19), (1, [.inl 3, .inl 1], 0, 0), (0, [.inl 4], 4, 0), (8, [.inl 5, .inr 1], 1, 0), (2, [.inl 4, .inl 6], 4, 0), (0, [.inl 4], 4, 0), (10, [.inl 7, .inr 0], 5, 11), (13, [.inl 0, .inl 1], 66, 0), (10, [.inl 8, .inr 0], 0, 3), (13, [.inl 0, .inl 1], 70, 0),
  (8, [.inl 2, .inr (-1)], 0, 0), (12, [.inl 0, .inl 1, .inl 10], 0, 0), (0, [.inl 4], 0, 0), (0, [.inl 4], 1, 0), (13, [.inl 0, .inl 9, .inl 10], 68, 0), (13, [.inl 0, .inl 1], 70, 0), (8, [.inl 2, .inr (-1)], 0, 0), (12, [.inl 0, .inl 1, .inl 13], 0, 0), (8, [.inl 1, .inr 1], 0, 0), (8, [.inl 2, .inr (-1)], 0, 0), (12, [.inl 0, .inl 8, .inl 9], 0, 0)]
theorem vt_comeOut_k : x_chk 65 [(7, [(0, 0), (1, 0), (2, 0)])] vt_comeOut_T [vt_comeOut_T0] 600 = true := by decide +kernel
theorem vt_comeOut {a0 v : Int} {h h' : fH} (hs : fS 65 [a0] h v h') (I0 : Int → Int → Int → fH → Prop) (Q : Int → fH → Prop) (h0 : ∀ z1 : Int, z1 = h a0 14 → I0 a0 0 z1 h) (k0 : ∀ (x0 x1 x2 : Int) (h : fH), I0 x0 x1 x2 h → ((x2 ≤ 0 → Q 0 h) ∧ (0 < x2 → ∀ z3 : Int, z3 = x0 + 19 → ∀ z4 : Int, z4 = h z3 x1 → ∀ z5 : Int, z5 = h z4 4 → ∀ z6 : Int, z6 = wr (z5 - 1) → ∀ h1 : fH, h1 = fu h z4 4 z6 → ∀ z7 : Int, z7 = h1 z4 4 → ((z7 ≤ 0 → ∀ (v2 : Int) (h2 : fH), fS 66 [x0, x1] h1 v2 h2 → ((v2 = 0 → ∀ (v3 : Int) (h3 : fH), fS 70 [x0, x1] h2 v3 h3 → ∀ z10 : Int, z10 = wr (x2 + (-1)) → I0 x0 x1 z10 h3) ∧ (v2 ≠ 0 → ∀ z9 : Int, z9 = h2 z4 0 → ∀ z10 : Int, z10 = h2 z4 1 → ∀ (v3 : Int) (h3 : fH), fS 68 [x0, z9, z10] h2 v3 h3 → ∀ (v4 : Int) (h4 : fH), fS 70 [x0, x1] h3 v4 h4 → ∀ z13 : Int, z13 = wr (x2 + (-1)) → I0 x0 x1 z13 h4))) ∧ (0 < z7 → ∀ z8 : Int, z8 = wr (x1 + 1) → ∀ z9 : Int, z9 = wr (x2 + (-1)) → I0 x0 z8 z9 h1))))) : Q v h' := by
  refine x_mef vt_comeOut_k hs (fun k l h => match k with
    | 0 => (match l with | [x0, x1, x2] => I0 x0 x1 x2 h | _ => False)
    | _ => False) Q h0 ?_
  intro i Ti hT vals h hi
  match i, hT, hi with
  | 0, hT, hi =>
    cases hT
    match vals, hi with
    | [x0, x1, x2], hi => exact k0 _ _ _ _ hi
    | [], hi => exact False.elim hi
    | [_], hi => exact False.elim hi
    | [_, _], hi => exact False.elim hi
    | _ :: _ :: _ :: _ :: _, hi => exact False.elim hi
  | _ + 1, hT, _ => cases hT
def vt_isLost_T : xT := [(4, [.inl 0], 0, 19), (1, [.inl 2, .inl 1], 0, 0), (0, [.inl 3], 2, 0), (0, [.inl 0], 15, 0), (0, [.inl 3], 4, 0), (8, [.inl 5, .inl 6], 0, 0), (4, [.inl 0], 0, 18), (1, [.inl 8, .inl 4], 0, 0), (8, [.inl 7, .inl 9], 0, 0), (4, [.inl 0], 0, 17), (1, [.inl 11, .inl 4], 0, 0), (8, [.inl 10, .inl 12], 10, 0),
  (10, [.inl 13, .inr 0], 1, 4), (0, [.inl 3], 3, 0), (10, [.inl 14, .inr 1], 1, 1), (11, [.inr 0], 0, 0), (11, [.inr 1], 0, 0), (0, [.inl 3], 3, 0), (10, [.inl 14, .inr 1], 1, 1), (11, [.inr 1], 0, 0), (11, [.inr 0], 0, 0)]
theorem vt_isLost_k : x_chk 66 [] vt_isLost_T [] 600 = true := by decide +kernel
theorem vt_isLost {a0 a1 v : Int} {h h' : fH} (hs : fS 66 [a0, a1] h v h') (Q : Int → fH → Prop) (h0 : ∀ z2 : Int, z2 = a0 + 19 → ∀ z3 : Int, z3 = h z2 a1 → ∀ z4 : Int, z4 = h z3 2 → ∀ z5 : Int, z5 = h a0 15 → ∀ z6 : Int, z6 = h z3 4 → ∀ z7 : Int, z7 = wr (z5 + z6) → ∀ z8 : Int, z8 = a0 + 18 → ∀ z9 : Int, z9 = h z8 z4 → ∀ z10 : Int, z10 = wr (z7 + z9) → ∀ z11 : Int, z11 = a0 + 17 → ∀ z12 : Int, z12 = h z11 z4 → ∀ z13 : Int, z13 = xrem z10 z12 → ((z13 ≠ 0 → ∀ z14 : Int, z14 = h z3 3 → ((z14 ≠ 1 → Q 0 h) ∧ (z14 = 1 → Q 1 h))) ∧ (z13 = 0 → ∀ z14 : Int, z14 = h z3 3 → ((z14 ≠ 1 → Q 1 h) ∧ (z14 = 1 → Q 0 h))))) : Q v h' := by
  exact x_mef vt_isLost_k hs (fun _ _ _ => False) Q h0 (fun i Ti hT => by cases hT)
def vt_marry_T : xT := [(4, [.inl 0], 0, 8), (3, [.inl 3, .inl 1, .inl 2], 0, 0), (4, [.inl 0], 0, 8), (3, [.inl 4, .inl 2, .inl 1], 0, 0), (4, [.inl 0], 0, 7), (13, [.inl 0, .inl 1], 69, 0), (3, [.inl 5, .inl 1, .inl 6], 0, 0), (4, [.inl 0], 0, 7), (13, [.inl 0, .inl 2], 69, 0), (3, [.inl 7, .inl 2, .inl 8], 0, 0), (11, [.inr 0], 0, 0)]
theorem vt_marry_k : x_chk 68 [] vt_marry_T [] 600 = true := by decide +kernel
theorem vt_marry {a0 a1 a2 v : Int} {h h' : fH} (hs : fS 68 [a0, a1, a2] h v h') (Q : Int → fH → Prop) (h0 : ∀ z3 : Int, z3 = a0 + 8 → ∀ h1 : fH, h1 = fu h z3 a1 a2 → ∀ z4 : Int, z4 = a0 + 8 → ∀ h2 : fH, h2 = fu h1 z4 a2 a1 → ∀ z5 : Int, z5 = a0 + 7 → ∀ (v3 : Int) (h3 : fH), fS 69 [a0, a1] h2 v3 h3 → ∀ h4 : fH, h4 = fu h3 z5 a1 v3 → ∀ z7 : Int, z7 = a0 + 7 → ∀ (v5 : Int) (h5 : fH), fS 69 [a0, a2] h4 v5 h5 → ∀ h6 : fH, h6 = fu h5 z7 a2 v5 → Q 0 h6) : Q v h' := by
  exact x_mef vt_marry_k hs (fun _ _ _ => False) Q h0 (fun i Ti hT => by cases hT)
def vt_withMore_T : xT := [(4, [.inl 0], 0, 7), (1, [.inl 2, .inl 1], 0, 0), (4, [.inl 0], 0, 4), (1, [.inl 4, .inl 1], 0, 0), (8, [.inl 3, .inl 5], 0, 0), (8, [.inr 99, .inl 6], 12, 0), (11, [.inl 7], 0, 0)]
theorem vt_withMore_k : x_chk 69 [] vt_withMore_T [] 600 = true := by decide +kernel
theorem vt_withMore {a0 a1 v : Int} {h h' : fH} (hs : fS 69 [a0, a1] h v h') (Q : Int → fH → Prop) (h0 : ∀ z2 : Int, z2 = a0 + 7 → ∀ z3 : Int, z3 = h z2 a1 → ∀ z4 : Int, z4 = a0 + 4 → ∀ z5 : Int, z5 = h z4 a1 → ∀ z6 : Int, z6 = wr (z3 + z5) → ∀ z7 : Int, z7 = xmin 99 z6 → Q z7 h) : Q v h' := by
  exact x_mef vt_withMore_k hs (fun _ _ _ => False) Q h0 (fun i Ti hT => by cases hT)
def vt_close_T : xT := [(4, [.inl 0], 0, 19), (1, [.inl 2, .inl 1], 0, 0), (8, [.inl 1, .inr 1], 0, 0), (12, [.inl 0, .inl 3, .inl 4], 0, 0)]
def vt_close_T0 : xT := [(0, [.inl 0], 14, 0), (10, [.inl 2, .inl 3], 3, 7), (0, [.inl 0], 14, 0), (8, [.inl 4, .inr 1], 1, 0), (2, [.inl 0, .inl 5], 14, 0), (4, [.inl 0], 0, 19), (0, [.inl 0], 14, 0), (3, [.inl 6, .inl 7, .inl 1], 0, 0), (11, [.inr 0], 0, 0), (4, [.inl 0], 0, 19), (8, [.inl 2, .inr 1], 1, 0), (4, [.inl 0], 0, 19),
  (1, [.inl 6, .inl 2], 0, 0), (3, [.inl 4, .inl 5, .inl 7], 0, 0), (8, [.inl 2, .inr 1], 0, 0), (12, [.inl 0, .inl 1, .inl 8], 0, 0)]
theorem vt_close_k : x_chk 70 [(11, [(0, 0), (2, 0), (3, 0)])] vt_close_T [vt_close_T0] 600 = true := by decide +kernel
theorem vt_close {a0 a1 v : Int} {h h' : fH} (hs : fS 70 [a0, a1] h v h') (I0 : Int → Int → Int → fH → Prop) (Q : Int → fH → Prop) (h0 : ∀ z2 : Int, z2 = a0 + 19 → ∀ z3 : Int, z3 = h z2 a1 → ∀ z4 : Int, z4 = wr (a1 + 1) → I0 a0 z3 z4 h) (k0 : ∀ (x0 x2 x3 : Int) (h : fH), I0 x0 x2 x3 h → ∀ z3 : Int, z3 = h x0 14 → ((z3 ≤ x3 → ∀ z4 : Int, z4 = h x0 14 → ∀ z5 : Int, z5 = wr (z4 - 1) → ∀ h1 : fH, h1 = fu h x0 14 z5 → ∀ z6 : Int, z6 = x0 + 19 → ∀ z7 : Int, z7 = h1 x0 14 → ∀ h2 : fH, h2 = fu h1 z6 z7 x2 → Q 0 h2) ∧ (x3 < z3 → ∀ z4 : Int, z4 = x0 + 19 → ∀ z5 : Int, z5 = wr (x3 - 1) → ∀ z6 : Int, z6 = x0 + 19 → ∀ z7 : Int, z7 = h z6 x3 → ∀ h1 : fH, h1 = fu h z4 z5 z7 → ∀ z8 : Int, z8 = wr (x3 + 1) → I0 x0 x2 z8 h1))) : Q v h' := by
  refine x_mef vt_close_k hs (fun k l h => match k with
    | 0 => (match l with | [x0, x2, x3] => I0 x0 x2 x3 h | _ => False)
    | _ => False) Q h0 ?_
  intro i Ti hT vals h hi
  match i, hT, hi with
  | 0, hT, hi =>
    cases hT
    match vals, hi with
    | [x0, x2, x3], hi => exact k0 _ _ _ _ hi
    | [], hi => exact False.elim hi
    | [_], hi => exact False.elim hi
    | [_, _], hi => exact False.elim hi
    | _ :: _ :: _ :: _ :: _, hi => exact False.elim hi
  | _ + 1, hT, _ => cases hT
def vt_learn_T : xT := [(12, [.inl 0, .inr 0], 0, 0)]
def vt_learn_T0 : xT := [(10, [.inl 1, .inr 5], 3, 1), (11, [.inr 0], 0, 0), (0, [.inl 0], 15, 0), (4, [.inl 0], 0, 18), (1, [.inl 3, .inl 1], 0, 0), (8, [.inl 2, .inl 4], 0, 0), (4, [.inl 0], 0, 17), (1, [.inl 6, .inl 1], 0, 0), (8, [.inl 5, .inl 7], 10, 0), (10, [.inl 8, .inr 0], 1, 1), (12, [.inl 0, .inl 1, .inr 0, .inr 0], 1, 0), (12, [.inl 0, .inl 1, .inr 1, .inr 0], 1, 0)]
def vt_learn_T1 : xT := [(0, [.inl 0], 1, 0), (10, [.inl 3, .inl 4], 3, 2), (8, [.inl 1, .inr 1], 0, 0), (12, [.inl 0, .inl 5], 0, 0), (4, [.inl 0], 0, 9), (5, [.inl 5, .inl 3], 0, 1), (4, [.inl 0], 0, 9), (5, [.inl 7, .inl 3], 0, 1), (1, [.inl 8, .inl 1], 0, 0), (4, [.inl 0], 0, 5), (1, [.inl 10, .inl 3], 0, 0), (13, [.inl 9, .inl 11, .inl 2], 72, 0),
  (3, [.inl 6, .inl 1, .inl 12], 0, 0), (8, [.inl 3, .inr 1], 0, 0), (12, [.inl 0, .inl 1, .inl 2, .inl 13], 1, 0)]
theorem vt_learn_k : x_chk 71 [(2, [(0, 0), (1, 0)]), (19, [(0, 0), (1, 0), (2, 0), (3, 0)])] vt_learn_T [vt_learn_T0, vt_learn_T1] 600 = true := by decide +kernel
theorem vt_learn {a0 v : Int} {h h' : fH} (hs : fS 71 [a0] h v h') (I0 : Int → Int → fH → Prop) (I1 : Int → Int → Int → Int → fH → Prop) (Q : Int → fH → Prop) (h0 : I0 a0 0 h) (k0 : ∀ (x0 x1 : Int) (h : fH), I0 x0 x1 h → ((5 ≤ x1 → Q 0 h) ∧ (x1 < 5 → ∀ z2 : Int, z2 = h x0 15 → ∀ z3 : Int, z3 = x0 + 18 → ∀ z4 : Int, z4 = h z3 x1 → ∀ z5 : Int, z5 = wr (z2 + z4) → ∀ z6 : Int, z6 = x0 + 17 → ∀ z7 : Int, z7 = h z6 x1 → ∀ z8 : Int, z8 = xrem z5 z7 → ((z8 ≠ 0 → I1 x0 x1 0 0 h) ∧ (z8 = 0 → I1 x0 x1 1 0 h))))) (k1 : ∀ (x0 x1 x2 x3 : Int) (h : fH), I1 x0 x1 x2 x3 h → ∀ z4 : Int, z4 = h x0 1 → ((z4 ≤ x3 → ∀ z5 : Int, z5 = wr (x1 + 1) → I0 x0 z5 h) ∧ (x3 < z4 → ∀ z5 : Int, z5 = x0 + 9 → ∀ z6 : Int, z6 = z5 + 1 + 1 * x3 → ∀ z7 : Int, z7 = x0 + 9 → ∀ z8 : Int, z8 = z7 + 1 + 1 * x3 → ∀ z9 : Int, z9 = h z8 x1 → ∀ z10 : Int, z10 = x0 + 5 → ∀ z11 : Int, z11 = h z10 x3 → ∀ (v1 : Int) (h1 : fH), fS 72 [z9, z11, x2] h v1 h1 → ∀ h2 : fH, h2 = fu h1 z6 x1 v1 → ∀ z13 : Int, z13 = wr (x3 + 1) → I1 x0 x1 x2 z13 h2))) : Q v h' := by
  refine x_mef vt_learn_k hs (fun k l h => match k with
    | 0 => (match l with | [x0, x1] => I0 x0 x1 h | _ => False)
    | 1 => (match l with | [x0, x1, x2, x3] => I1 x0 x1 x2 x3 h | _ => False)
    | _ => False) Q h0 ?_
  intro i Ti hT vals h hi
  match i, hT, hi with
  | 0, hT, hi =>
    cases hT
    match vals, hi with
    | [x0, x1], hi => exact k0 _ _ _ hi
    | [], hi => exact False.elim hi
    | [_], hi => exact False.elim hi
    | _ :: _ :: _ :: _, hi => exact False.elim hi
  | 1, hT, hi =>
    cases hT
    match vals, hi with
    | [x0, x1, x2, x3], hi => exact k1 _ _ _ _ _ hi
    | [], hi => exact False.elim hi
    | [_], hi => exact False.elim hi
    | [_, _], hi => exact False.elim hi
    | [_, _, _], hi => exact False.elim hi
    | _ :: _ :: _ :: _ :: _ :: _, hi => exact False.elim hi
  | _ + 2, hT, _ => cases hT
