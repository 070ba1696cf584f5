/-! walks with conditions: both ways of a branch, the end under a predicate; what isn't known isn't touched -/
def zz_sel (b : Bool) (t f : Option Nat) : Option Nat := match b with
  | true => t
  | false => f
def zz_bc (ins : Instr) (pc : Nat) (st : List Value) : Option (Bool × Option Nat × Option Nat × List Value) := match ins with
  | .ifCond op off => match st with
    | .int x :: r => some (zz_if op x, zz_br true pc off, zz_br false pc off, r)
    | _ => none
  | .if_icmp op off => match st with
    | .int y :: .int x :: r => some (zz_ic op x y, zz_br true pc off, zz_br false pc off, r)
    | _ => none
  | .tableswitch dflt lo hi offs => match st with
    | .int x :: r => some (decide (x.toInt < lo ∨ hi < x.toInt), zz_tg pc dflt, (match offs[(x.toInt - lo).toNat]? with
      | some off => zz_tg pc off
      | none => none), r)
    | _ => none
  | _ => none
theorem zz_bc_da {ins : Instr} {pc : Nat} {L : List (Option Value)} {st r : List Value} {b : Bool} {t f : Option Nat} (h : zz_bc ins pc st = some (b, t, f, r)) : zz_da ins pc L st = zz_go L r (zz_sel b t f) := by
  cases ins with
  | ifCond op off =>
    simp only [zz_bc] at h
    split at h <;> try (cases h; done)
    cases h
    simp only [zz_da]
    cases zz_if op _ <;> rfl
  | if_icmp op off =>
    simp only [zz_bc] at h
    split at h <;> try (cases h; done)
    cases h
    simp only [zz_da]
    cases zz_ic op _ _ <;> rfl
  | tableswitch dflt lo hi offs =>
    simp only [zz_bc] at h
    split at h <;> try (cases h; done)
    rename_i x r'
    cases h
    simp only [zz_da]
    by_cases hc : x.toInt < lo ∨ hi < x.toInt
    · rw [if_pos hc, decide_eq_true hc]
      rfl
    · rw [if_neg hc, decide_eq_false hc]
      cases offs[(x.toInt - lo).toNat]? <;> rfl
  | _ => exact absurd (show (none : Option (Bool × Option Nat × Option Nat × List Value)) = some _ from h) (by simp)
theorem zz_one_bc {q : Nat × Nat × Nat × Nat} {e : zz_I} {pc t : Nat} {L : List (Option Value)} {st r : List Value} {cs : zz_W} {cu su : Nat} {b : Bool} {tt ff : Option Nat} (h : zz_bc e.2.1 pc st = some (b, tt, ff, r)) (ht : zz_sel b tt ff = some t) : zz_one q e (pc, L, st, cs, cu, su) = some (t, L, r, cs, cu, su) := by
  simp only [zz_one]
  rw [zz_bc_da h, ht]
  rfl
/-! what isn't known isn't touched -/
def zz_le (a b : zz_W) : Prop := a.length = b.length ∧ ∀ (i : Nat) (c : zz_C), a[i]? = some (some c) → b[i]? = some (some c)
def zz_F (a b a' b' : zz_W) : Prop := zz_le a' b' ∧ ∀ i : Nat, a[i]? = some none → a'[i]? = some none ∧ b'[i]? = b[i]?
theorem zz_le.cell {a b : zz_W} (h : zz_le a b) {i : Nat} {c : zz_C} (hc : zz_cell a i = some c) : zz_cell b i = some c := by
  have h1 := h.2 i c (zz_cell_eq hc)
  unfold zz_cell
  rw [h1]
theorem zz_F.rf {a b : zz_W} (h : zz_le a b) : zz_F a b a b := ⟨h, fun _ hi => ⟨hi, rfl⟩⟩
theorem zz_F.tr {a b a' b' a2 b2 : zz_W} (h : zz_F a b a' b') (h2 : zz_F a' b' a2 b2) : zz_F a b a2 b2 := ⟨h2.1, fun i hi => by
  obtain ⟨p1, p2⟩ := h.2 i hi
  obtain ⟨p3, p4⟩ := h2.2 i p1
  exact ⟨p3, p4.trans p2⟩⟩
theorem zz_F.set {a b : zz_W} (h : zz_le a b) {i : Nat} {c0 c : zz_C} (hc : zz_cell a i = some c0) : zz_F a b (a.set i (some c)) (b.set i (some c)) := by
  have h0 := zz_cell_eq hc
  have hl : i < a.length := (List.getElem?_eq_some_iff.mp h0).1
  refine ⟨⟨by rw [List.length_set, List.length_set]; exact h.1, fun j d hj => ?_⟩, fun j hj => ?_⟩
  · by_cases hij : i = j
    · subst hij
      rw [List.getElem?_set_self hl] at hj
      rw [List.getElem?_set_self (by rw [← h.1]; exact hl)]
      exact hj
    · rw [List.getElem?_set_ne hij] at hj ⊢
      exact h.2 j d hj
  · have hij : i ≠ j := fun e => by
      subst e
      rw [h0] at hj
      cases hj
    rw [List.getElem?_set_ne hij, List.getElem?_set_ne hij]
    exact ⟨hj, rfl⟩
theorem zz_F.app {a b add : zz_W} (h : zz_le a b) : zz_F a b (a ++ add) (b ++ add) := by
  refine ⟨⟨by rw [List.length_append, List.length_append, h.1], fun j d hj => ?_⟩, fun j hj => ?_⟩
  · by_cases hl : j < a.length
    · rw [List.getElem?_append_left hl] at hj
      rw [List.getElem?_append_left (by rw [← h.1]; exact hl)]
      exact h.2 j d hj
    · rw [List.getElem?_append_right (by omega)] at hj
      rw [List.getElem?_append_right (by rw [← h.1]; omega), ← h.1]
      exact hj
  · have hl : j < a.length := (List.getElem?_eq_some_iff.mp hj).1
    rw [List.getElem?_append_left hl, List.getElem?_append_left (by rw [← h.1]; exact hl)]
    exact ⟨hj, rfl⟩
