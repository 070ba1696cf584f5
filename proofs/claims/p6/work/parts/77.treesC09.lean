/-! the trees of the methods (made by a program) -/
def vc_rivals_T : xT := [(12, [.inl 0, .inr 0, .inr 0], 0, 0)]
def vc_rivals_T0 : xT := [(0, [.inr 11], 1, 0), (10, [.inl 2, .inl 3], 3, 1), (11, [.inl 1], 0, 0), (1, [.inr 17, .inl 2], 0, 0), (10, [.inl 4, .inl 2], 0, 2), (8, [.inl 2, .inr 1], 0, 0), (12, [.inl 0, .inl 1, .inl 5], 0, 0), (10, [.inl 4, .inr 0], 2, 2), (8, [.inl 2, .inr 1], 0, 0), (12, [.inl 0, .inl 1, .inl 5], 0, 0), (0, [.inr 11], 1, 0), (10, [.inl 4, .inl 5], 3, 2),
  (8, [.inl 2, .inr 1], 0, 0), (12, [.inl 0, .inl 1, .inl 6], 0, 0), (8, [.inl 2, .inr 1], 0, 0), (12, [.inl 0, .inl 1, .inl 2, .inl 4, .inl 6], 1, 0)]
def vc_rivals_T1 : xT := [(0, [.inr 11], 1, 0), (10, [.inl 4, .inl 5], 3, 2), (8, [.inl 2, .inr 1], 0, 0), (12, [.inl 0, .inl 1, .inl 6], 0, 0), (10, [.inl 4, .inl 3], 0, 2), (8, [.inl 4, .inr 1], 0, 0), (12, [.inl 0, .inl 1, .inl 2, .inl 3, .inl 6], 1, 0), (1, [.inr 17, .inl 4], 0, 0), (10, [.inl 6, .inl 3], 1, 2), (8, [.inl 4, .inr 1], 0, 0), (12, [.inl 0, .inl 1, .inl 2, .inl 3, .inl 7], 1, 0), (8, [.inl 1, .inr 1], 0, 0),
  (8, [.inl 4, .inr 1], 0, 0), (12, [.inl 0, .inl 7, .inl 2, .inl 3, .inl 8], 1, 0)]
theorem vc_rivals_k : x_chk 148 [(4, [(0, 0), (1, 0), (2, 0)]), (49, [(0, 0), (1, 0), (2, 0), (3, 0), (4, 0)])] vc_rivals_T [vc_rivals_T0, vc_rivals_T1] 600 = true := by decide +kernel
theorem vc_rivals {a0 v : Int} {h h' : fH} (hs : fS 148 [a0] h v h') (I0 : Int → Int → Int → fH → Prop) (I1 : Int → Int → Int → Int → Int → fH → Prop) (Q : Int → fH → Prop) (h0 : I0 a0 0 0 h) (k0 : ∀ (x0 x1 x2 : Int) (h : fH), I0 x0 x1 x2 h → ∀ z3 : Int, z3 = h 11 1 → ((z3 ≤ x2 → Q x1 h) ∧ (x2 < z3 → ∀ z4 : Int, z4 = h 17 x2 → ((z4 = x2 → ∀ z5 : Int, z5 = wr (x2 + 1) → I0 x0 x1 z5 h) ∧ (z4 ≠ x2 → ((z4 < 0 → ∀ z5 : Int, z5 = wr (x2 + 1) → I0 x0 x1 z5 h) ∧ (0 ≤ z4 → ∀ z5 : Int, z5 = h 11 1 → ((z5 ≤ z4 → ∀ z6 : Int, z6 = wr (x2 + 1) → I0 x0 x1 z6 h) ∧ (z4 < z5 → ∀ z6 : Int, z6 = wr (x2 + 1) → I1 x0 x1 x2 z4 z6 h))))))))) (k1 : ∀ (x0 x1 x2 x3 x4 : Int) (h : fH), I1 x0 x1 x2 x3 x4 h → ∀ z5 : Int, z5 = h 11 1 → ((z5 ≤ x4 → ∀ z6 : Int, z6 = wr (x2 + 1) → I0 x0 x1 z6 h) ∧ (x4 < z5 → ((x4 = x3 → ∀ z6 : Int, z6 = wr (x4 + 1) → I1 x0 x1 x2 x3 z6 h) ∧ (x4 ≠ x3 → ∀ z6 : Int, z6 = h 17 x4 → ((z6 ≠ x3 → ∀ z7 : Int, z7 = wr (x4 + 1) → I1 x0 x1 x2 x3 z7 h) ∧ (z6 = x3 → ∀ z7 : Int, z7 = wr (x1 + 1) → ∀ z8 : Int, z8 = wr (x4 + 1) → I1 x0 z7 x2 x3 z8 h))))))) : Q v h' := by
  refine x_mef vc_rivals_k hs (fun k l h => match k with
    | 0 => (match l with | [x0, x1, x2] => I0 x0 x1 x2 h | _ => False)
    | 1 => (match l with | [x0, x1, x2, x3, x4] => I1 x0 x1 x2 x3 x4 h | _ => False)
    | _ => False) Q h0 ?_
  intro i Ti hT vals h hi
  match i, hT, hi with
  | 0, hT, hi =>
    cases hT
    match vals, hi with
    | [x0, x1, x2], hi => exact k0 _ _ _ _ hi
    | [], hi => exact False.elim hi
    | [_], hi => exact False.elim hi
    | [_, _], hi => exact False.elim hi
    | _ :: _ :: _ :: _ :: _, hi => exact False.elim hi
  | 1, hT, hi =>
    cases hT
    match vals, hi with
    | [x0, x1, x2, x3, x4], hi => exact k1 _ _ _ _ _ _ hi
    | [], hi => exact False.elim hi
    | [_], hi => exact False.elim hi
    | [_, _], hi => exact False.elim hi
    | [_, _, _], hi => exact False.elim hi
    | [_, _, _, _], hi => exact False.elim hi
    | _ :: _ :: _ :: _ :: _ :: _ :: _, hi => exact False.elim hi
  | _ + 2, hT, _ => cases hT
