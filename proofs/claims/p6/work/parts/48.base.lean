/-! the typed machine is sound: words and numbers -/
theorem t_nth_eq {α : Type} : ∀ (l : List α) (i : Nat), t_nth l i = l[i]?
  | [], i => by simp [t_nth]
  | a :: t, 0 => rfl
  | a :: t, i + 1 => by
    show t_nth t i = _
    rw [t_nth_eq t i, List.getElem?_cons_succ]
theorem t_upd_eq {α β : Type} : ∀ (l : List α) (i : Nat) (x : α) (k : List α → β), t_upd l i x k = k (l.set i x)
  | [], i, x, k => rfl
  | a :: t, 0, x, k => rfl
  | a :: t, i + 1, x, k => by
    show t_upd t i x (fun t' => k (a :: t')) = _
    rw [t_upd_eq t i]
    rfl
theorem t_app_eq {α β : Type} : ∀ (l : List α) (x : α) (k : List α → β), t_app l x k = k (l ++ [x])
  | [], x, k => rfl
  | a :: t, x, k => by
    show t_app t x (fun t' => k (a :: t')) = _
    rw [t_app_eq t x]
    rfl
theorem t_len_eq {α : Type} : ∀ l : List α, t_len l = l.length
  | [] => rfl
  | a :: t => by
    show Nat.succ (t_len t) = _
    rw [t_len_eq t]
    rfl
theorem t_and_iff {a b : Bool} : t_and a b = true ↔ a = true ∧ b = true := by
  cases a <;> cases b <;> simp [t_and]
theorem t_bool {b : Bool} {c : Bool} (h : (match b with | true => c | false => false) = true) : b = true ∧ c = true := by
  cases b with
  | true => exact ⟨rfl, h⟩
  | false => cases h
theorem t_all_iff {α : Type} {f : α → Bool} : ∀ {l : List α}, t_all f l = true ↔ ∀ a ∈ l, f a = true
  | [] => by simp [t_all]
  | a :: t => by
    show (match f a with | true => t_all f t | false => false) = true ↔ _
    rw [List.forall_mem_cons, ← t_all_iff (l := t)]
    cases f a <;> simp
theorem t_any_iff {α : Type} {f : α → Bool} : ∀ {l : List α}, t_any f l = true ↔ ∃ a ∈ l, f a = true
  | [] => by simp [t_any]
  | a :: t => by
    show (match f a with | true => true | false => t_any f t) = true ↔ _
    cases h : f a with
    | true => simp [h]
    | false =>
      dsimp only
      rw [t_any_iff (l := t)]
      simp [h]
theorem t_fil_eq {α β : Type} {f : α → Bool} : ∀ (l : List α) (k : List α → β), t_fil f l k = k (l.filter f)
  | [], k => rfl
  | a :: t, k => by
    show (match f a with | true => t_fil f t (fun t => k (a :: t)) | false => t_fil f t k) = _
    cases h : f a with
    | true =>
      dsimp only
      rw [t_fil_eq t, List.filter_cons_of_pos (by simpa using h)]
    | false =>
      dsimp only
      rw [t_fil_eq t, List.filter_cons_of_neg (by simp [h])]
theorem t_fn_eq {β : Type} (n : Nat) (k : Nat → β) : t_fn n k = k n := by cases n <;> rfl
theorem t_fi_eq {β : Type} (z : Int) (k : Int → β) : t_fi z k = k z := by
  cases z with
  | ofNat n => cases n <;> rfl
  | negSucc n => cases n <;> rfl
theorem t_mk_eq (j : Nat) (a b : Int) (k : tT → Bool) : t_mk j a b k = k (j, a, b) := by
  unfold t_mk
  rw [t_fi_eq, t_fi_eq]
theorem t_le_iff {a b : Int} : t_le a b = true ↔ a ≤ b := by
  cases a <;> cases b <;> simp only [t_le, Nat.ble_eq, Int.negSucc_eq, Int.ofNat_eq_natCast] <;> constructor <;> intro h <;> first | omega | rfl | trivial | cases h
theorem t_le_f {a b : Int} : t_le a b = false ↔ b < a := by
  rw [← Bool.not_eq_true, t_le_iff]
  omega
theorem t_eq_iff {a b : Int} : t_eq a b = true ↔ a = b := by
  unfold t_eq
  split
  · rename_i h
    rw [t_le_iff] at h ⊢
    omega
  · rename_i h
    rw [t_le_f] at h
    constructor
    · intro q; cases q
    · intro q; omega
theorem t_min_eq (a b : Int) : t_min a b = min a b := by
  unfold t_min
  cases h : t_le a b
  · rw [t_le_f] at h
    dsimp only
    omega
  · rw [t_le_iff] at h
    dsimp only
    omega
theorem t_max_eq (a b : Int) : t_max a b = max a b := by
  unfold t_max
  cases h : t_le a b
  · rw [t_le_f] at h
    dsimp only
    omega
  · rw [t_le_iff] at h
    dsimp only
    omega
theorem t_in_iff {a b : Int} : t_in a b = true ↔ -2147483648 ≤ a ∧ b ≤ 2147483647 := by
  unfold t_in
  rw [t_and_iff, t_le_iff, t_le_iff, Int.negSucc_eq, Int.ofNat_eq_natCast]
  constructor <;> rintro ⟨h1, h2⟩ <;> constructor <;> omega
theorem t_mem_iff {i : Nat} {l : List Nat} : t_mem i l = true ↔ i ∈ l := by
  unfold t_mem
  rw [t_any_iff]
  constructor
  · rintro ⟨a, h1, h2⟩
    rw [Nat.eq_of_beq_eq_true h2]
    exact h1
  · intro h
    exact ⟨i, h, Nat.beq_refl i⟩
-- what a number and a value stand for
def t_bs (ρ : List Int) (j : Nat) : Option Int := match j with
  | 0 => some 0
  | i + 1 => ρ[i]?
def tg (ρ : List Int) (x : tT) (z : Int) : Prop := ∃ y, t_bs ρ x.1 = some y ∧ y + x.2.1 ≤ z ∧ z ≤ y + x.2.2
def tgv (ρ : List Int) (t : ta) (u : Value) : Prop := match t with
  | .inl x => ∃ v : Int32, u = .int v ∧ tg ρ x v.toInt
  | .inr (.inl x) => ∃ v : Int64, u = .long v ∧ tg ρ x v.toInt
  | .inr (.inr (.inl r)) => ∃ i, u = .ref i ∧ t_rl[i]? = some r
  | .inr (.inr (.inr _)) => u.category = 1
def t_okr (ρ : List Int) (rs : tB) : Prop := rs.length = ρ.length ∧ ∀ (j : Nat) (a b : Int), rs[j]? = some (a, b) → ∃ y, ρ[j]? = some y ∧ a ≤ y ∧ y ≤ b
def t_ext (ρ ρ' : List Int) : Prop := ∃ e, ρ' = ρ ++ e
theorem t_ext.rf (ρ : List Int) : t_ext ρ ρ := ⟨[], (List.append_nil _).symm⟩
theorem t_ext.tr {a b c : List Int} (h : t_ext a b) (h2 : t_ext b c) : t_ext a c := by
  obtain ⟨e, rfl⟩ := h
  obtain ⟨f, rfl⟩ := h2
  exact ⟨e ++ f, List.append_assoc _ _ _⟩
theorem t_ext.get {ρ ρ' : List Int} (h : t_ext ρ ρ') {j : Nat} {y : Int} (hj : ρ[j]? = some y) : ρ'[j]? = some y := by
  obtain ⟨e, rfl⟩ := h
  rw [List.getElem?_append_left (List.getElem?_eq_some_iff.mp hj).1]
  exact hj
theorem t_ext.bs {ρ ρ' : List Int} (h : t_ext ρ ρ') {j : Nat} {y : Int} (hj : t_bs ρ j = some y) : t_bs ρ' j = some y := by
  cases j with
  | zero => exact hj
  | succ j => exact h.get hj
theorem tg.ext {ρ ρ' : List Int} (h : t_ext ρ ρ') {x : tT} {z : Int} (hg : tg ρ x z) : tg ρ' x z := by
  obtain ⟨y, h1, h2⟩ := hg
  exact ⟨y, h.bs h1, h2⟩
theorem tgv.ext {ρ ρ' : List Int} (h : t_ext ρ ρ') {t : ta} {u : Value} (hg : tgv ρ t u) : tgv ρ' t u := by
  match t, hg with
  | .inl x, ⟨v, h1, h2⟩ => exact ⟨v, h1, h2.ext h⟩
  | .inr (.inl x), ⟨v, h1, h2⟩ => exact ⟨v, h1, h2.ext h⟩
  | .inr (.inr (.inl r)), hg => exact hg
  | .inr (.inr (.inr _)), hg => exact hg
section TS1
variable {ρ : List Int} {rs : tB} {x y : tT} {z w : Int}
theorem t_iv_ok {p q : Int} (h : t_iv rs x = some (p, q)) (hr : t_okr ρ rs) (hg : tg ρ x z) : p ≤ z ∧ z ≤ q := by
  obtain ⟨j, a, b⟩ := x
  obtain ⟨y, h1, h2, h3⟩ := hg
  cases j with
  | zero =>
    replace h : some (a, b) = some (p, q) := h
    cases h
    cases h1
    dsimp only at h2 h3
    omega
  | succ i =>
    replace h : (match t_nth rs i with | some (lo, hi) => some (Int.add lo a, Int.add hi b) | none => none) = some (p, q) := h
    rw [t_nth_eq] at h
    split at h
    · rename_i lo hi hi'
      obtain ⟨y', q1, q2, q3⟩ := hr.2 _ _ _ hi'
      replace h1 : ρ[i]? = some y := h1
      rw [q1] at h1
      cases h1
      cases h
      dsimp only at h2 h3
      simp only [Int.add_def]
      omega
    · cases h
theorem t_w2_ok {k : Int → Int → Int → Int → Bool} (h : t_w2 rs x y k = true) (hr : t_okr ρ rs) (hx : tg ρ x z) (hy : tg ρ y w) : ∃ p q r s, k p q r s = true ∧ p ≤ z ∧ z ≤ q ∧ r ≤ w ∧ w ≤ s := by
  unfold t_w2 at h
  split at h
  · rename_i p q h1
    split at h
    · rename_i r s h2
      have a1 := t_iv_ok h1 hr hx
      have a2 := t_iv_ok h2 hr hy
      exact ⟨p, q, r, s, h, a1.1, a1.2, a2.1, a2.2⟩
    · cases h
  · cases h
theorem tg_c {a b : Int} (h1 : a ≤ z) (h2 : z ≤ b) : tg ρ (0, a, b) z := ⟨0, rfl, by dsimp only; omega, by dsimp only; omega⟩
theorem tg_I (v : Int32) : tg ρ tI v.toInt := tg_c (by rw [Int.negSucc_eq]; have := v.le_toInt; omega) (by rw [Int.ofNat_eq_natCast]; have := v.toInt_lt; omega)
theorem tg_J (v : Int64) : tg ρ tJ v.toInt := tg_c (by rw [Int.negSucc_eq]; have := v.le_toInt; omega) (by rw [Int.ofNat_eq_natCast]; have := v.toInt_lt; omega)
theorem t_nrm_ok {k : tT → Bool} (h : t_nrm rs x k = true) (hr : t_okr ρ rs) (hx : tg ρ x z) {v : Int32} (hv : v.toInt = z.bmod (2 ^ 32)) : ∃ t, k t = true ∧ tg ρ t v.toInt := by
  unfold t_nrm at h
  split at h
  · rename_i lo hi h1
    have h2 := t_iv_ok h1 hr hx
    split at h
    · rename_i h3
      rw [t_in_iff] at h3
      rw [t_mk_eq] at h
      refine ⟨_, h, ?_⟩
      rw [hv, Int.bmod_eq_of_le_mul_two (by omega) (by omega)]
      exact hx
    · exact ⟨_, h, tg_I v⟩
  · cases h
theorem tg_add (hx : tg ρ x z) (hy : tg ρ y w) (h : x.1 = 0) : tg ρ (y.1, x.2.1 + y.2.1, x.2.2 + y.2.2) (z + w) := by
  obtain ⟨a, h1, h2, h3⟩ := hx
  obtain ⟨b, q1, q2, q3⟩ := hy
  rw [h] at h1
  cases h1
  exact ⟨b, q1, by dsimp only; omega, by dsimp only; omega⟩
end TS1
def tSI (f : tB → tT → tT → (tT → Bool) → Bool) (g : Int32 → Int32 → Int32) : Prop := ∀ (ρ : List Int) (rs : tB) (x y : tT) (k : tT → Bool) (v w : Int32), t_okr ρ rs → tg ρ x v.toInt → tg ρ y w.toInt → f rs x y k = true → ∃ z, k z = true ∧ tg ρ z (g v w).toInt
def tSN (f : tB → tT → tT → (tT → Bool) → Bool) (g : Int32 → Int32 → Int32) : Prop := ∀ (ρ : List Int) (rs : tB) (x y : tT) (k : tT → Bool) (v w : Int32), t_okr ρ rs → tg ρ x v.toInt → tg ρ y w.toInt → f rs x y k = true → w ≠ 0 ∧ ∃ z, k z = true ∧ tg ρ z (g v w).toInt
theorem t_anyI_ok (g : Int32 → Int32 → Int32) : tSI t_anyI g := fun _ _ _ _ _ _ _ _ _ _ h => ⟨_, h, tg_I _⟩
theorem t_add_ok : tSI t_add (fun a b => a + b) := by
  intro ρ rs x y k v w hr hx hy h
  unfold t_add at h
  split at h
  · rename_i h0
    exact t_nrm_ok h hr (tg_add hx hy h0) (Int32.toInt_add v w)
  · split at h
    · rename_i h0
      have := tg_add hy hx h0
      rw [Int.add_comm y.2.1, Int.add_comm y.2.2, Int.add_comm w.toInt] at this
      exact t_nrm_ok h hr this (Int32.toInt_add v w)
    · obtain ⟨p, q, r, s, h1, h2⟩ := t_w2_ok h hr hx hy
      exact t_nrm_ok h1 hr (tg_c (by simp only [Int.add_def]; omega) (by simp only [Int.add_def]; omega)) (Int32.toInt_add v w)
theorem t_sub_ok : tSI t_sub (fun a b => a - b) := by
  intro ρ rs x y k v w hr hx hy h
  unfold t_sub at h
  split at h
  · rename_i h0
    refine t_nrm_ok h hr ?_ (Int32.toInt_sub v w)
    obtain ⟨a, h1, h2, h3⟩ := hx
    obtain ⟨b, q1, q2, q3⟩ := hy
    rw [h0] at q1
    cases q1
    refine ⟨a, h1, ?_, ?_⟩
    · show a + (x.2.1 - y.2.2) ≤ _
      omega
    · show _ ≤ a + (x.2.2 - y.2.1)
      omega
  · split at h
    · rename_i h0
      refine t_nrm_ok h hr ?_ (Int32.toInt_sub v w)
      obtain ⟨a, h1, h2, h3⟩ := hx
      obtain ⟨b, q1, q2, q3⟩ := hy
      rw [Nat.eq_of_beq_eq_true h0, q1] at h1
      cases h1
      refine tg_c ?_ ?_
      · show x.2.1 - y.2.2 ≤ _
        omega
      · show _ ≤ x.2.2 - y.2.1
        omega
    · obtain ⟨p, q, r, s, h1, h2⟩ := t_w2_ok h hr hx hy
      refine t_nrm_ok h1 hr (tg_c ?_ ?_) (Int32.toInt_sub v w)
      · show p - s ≤ _
        omega
      · show _ ≤ q - r
        omega
theorem t_mul_ok : tSI t_mul (fun a b => a * b) := by
  intro ρ rs x y k v w hr hx hy h
  unfold t_mul at h
  obtain ⟨p, q, r, s, h1, h2, h3, h4, h5⟩ := t_w2_ok h hr hx hy
  split at h1
  · rename_i h0
    rw [t_and_iff, t_le_iff, t_le_iff, Int.ofNat_eq_natCast] at h0
    refine t_nrm_ok h1 hr (tg_c ?_ ?_) (Int32.toInt_mul v w)
    · show p * r ≤ _
      exact Int.mul_le_mul h2 h4 (by omega) (by omega)
    · show _ ≤ q * s
      exact Int.mul_le_mul h3 h5 (by omega) (by omega)
  · exact ⟨_, h1, tg_I _⟩
theorem t_nz_ok {r s : Int} (h : t_nz r s = true) {z : Int} (h1 : r ≤ z) (h2 : z ≤ s) : z ≠ 0 := by
  unfold t_nz at h
  split at h
  · rename_i q
    rw [t_le_iff, Int.ofNat_eq_natCast] at q
    omega
  · rw [t_le_iff, Int.negSucc_eq] at h
    omega
theorem t_ne0 {w : Int32} (h : w.toInt ≠ 0) : w ≠ 0 := by
  rintro rfl
  exact h rfl
theorem t_div_ok : tSN t_div (fun a b => a / b) := by
  intro ρ rs x y k v w hr hx hy h
  unfold t_div at h
  obtain ⟨p, q, r, s, h1, h2, h3, h4, h5⟩ := t_w2_ok h hr hx hy
  split at h1
  · rename_i h0
    refine ⟨t_ne0 (t_nz_ok h0 h4 h5), ?_⟩
    split at h1
    · rename_i h6
      rw [t_and_iff, t_le_iff, t_le_iff, Int.ofNat_eq_natCast, Int.ofNat_eq_natCast] at h6
      rw [t_mk_eq] at h1
      refine ⟨_, h1, ?_⟩
      have hw : w ≠ -1 := by
        rintro rfl
        have : (-1 : Int32).toInt = -1 := by decide
        omega
      rw [Int32.toInt_div_of_ne_right v w hw, Int.tdiv_eq_ediv_of_nonneg (by omega)]
      have e3 : v.toInt / w.toInt = ((v.toInt.toNat / w.toInt.toNat : Nat) : Int) := by
        rw [Int.natCast_ediv, Int.toNat_of_nonneg (by omega), Int.toNat_of_nonneg (by omega)]
      rw [e3]
      refine tg_c ?_ ?_
      · show ((p.toNat / s.toNat : Nat) : Int) ≤ _
        exact Int.ofNat_le.mpr (Nat.div_le_div (by omega) (by omega) (by omega))
      · show _ ≤ ((q.toNat / r.toNat : Nat) : Int)
        exact Int.ofNat_le.mpr (Nat.div_le_div (by omega) (by omega) (by omega))
    · exact ⟨_, h1, tg_I _⟩
  · cases h1
theorem t_rem_val (v w : Int32) (hw : 1 ≤ w.toInt) : (v - v / w * w).toInt = v.toInt.tmod w.toInt := by
  have hw1 : w ≠ -1 := by
    rintro rfl
    have : (-1 : Int32).toInt = -1 := by decide
    omega
  have h1 := Int32.toInt_div_of_ne_right v w hw1
  have h2 := Int.tmod_add_tdiv_mul v.toInt w.toInt
  have h3 := Int.tmod_lt_of_pos v.toInt (show 0 < w.toInt by omega)
  have h4 := Int.lt_tmod_of_pos v.toInt (show 0 < w.toInt by omega)
  have h5 := v.toInt_lt
  have h6 := v.le_toInt
  have h7 := w.toInt_lt
  have h8 : 0 ≤ v.toInt → 0 ≤ v.toInt.tmod w.toInt := fun h => Int.tmod_nonneg _ h
  have h9 : v.toInt ≤ 0 → v.toInt.tmod w.toInt ≤ 0 := fun h => by
    have := Int.tmod_nonneg w.toInt (show 0 ≤ -v.toInt by omega)
    rw [Int.neg_tmod] at this
    omega
  rw [Int32.toInt_sub, Int32.toInt_mul, h1]
  have h10 : (v.toInt.tdiv w.toInt * w.toInt).bmod (2 ^ 32) = v.toInt.tdiv w.toInt * w.toInt := Int.bmod_eq_of_le_mul_two (by omega) (by omega)
  rw [h10, Int.bmod_eq_of_le_mul_two (by omega) (by omega)]
  omega
theorem t_rem_ok : tSN t_rem (fun a b => a - a / b * b) := by
  intro ρ rs x y k v w hr hx hy h
  unfold t_rem at h
  obtain ⟨p, q, r, s, h1, h2, h3, h4, h5⟩ := t_w2_ok h hr hx hy
  split at h1
  · rename_i h0
    rw [t_le_iff, Int.ofNat_eq_natCast] at h0
    refine ⟨t_ne0 (by omega), ?_⟩
    have hv := t_rem_val v w (by omega)
    have a1 := Int.tmod_lt_of_pos v.toInt (show 0 < w.toInt by omega)
    have a2 := Int.lt_tmod_of_pos v.toInt (show 0 < w.toInt by omega)
    split at h1
    · rename_i h6
      rw [t_le_iff, Int.ofNat_eq_natCast] at h6
      rw [t_mk_eq, t_min_eq] at h1
      refine ⟨_, h1, ?_⟩
      have a3 := Int.tmod_nonneg w.toInt (show 0 ≤ v.toInt by omega)
      have a4 : v.toInt.tmod w.toInt ≤ v.toInt := by
        have a5 := Int.tmod_add_tdiv_mul v.toInt w.toInt
        have a6 : 0 ≤ v.toInt.tdiv w.toInt * w.toInt := Int.mul_nonneg (Int.tdiv_nonneg (by omega) (by omega)) (by omega)
        omega
      show tg ρ _ (v - v / w * w).toInt
      rw [hv]
      refine tg_c (by show (0 : Int) ≤ _; omega) ?_
      show _ ≤ min q (s - 1)
      omega
    · rw [t_mk_eq] at h1
      refine ⟨_, h1, ?_⟩
      show tg ρ _ (v - v / w * w).toInt
      rw [hv]
      refine tg_c ?_ ?_
      · show (1 : Int) - s ≤ _
        omega
      · show _ ≤ s - 1
        omega
  · split at h1
    · rename_i h0
      rw [t_le_iff, Int.negSucc_eq] at h0
      exact ⟨t_ne0 (by omega), _, h1, tg_I _⟩
    · cases h1
theorem t_nat_of {v : Int32} (h : 0 ≤ v.toInt) : v.toInt = (v.toBitVec.toNat : Int) ∧ v.toBitVec.toNat < 2 ^ 31 := by
  have h1 : v.toInt = v.toBitVec.toInt := rfl
  rw [h1, BitVec.toInt_eq_toNat_cond] at h ⊢
  have h2 := v.toBitVec.isLt
  split
  · exact ⟨rfl, by omega⟩
  · rename_i h3
    rw [if_neg h3] at h
    omega
theorem t_of_nat {v : Int32} (h : v.toBitVec.toNat < 2 ^ 31) : v.toInt = (v.toBitVec.toNat : Int) := by
  show v.toBitVec.toInt = _
  rw [BitVec.toInt_eq_toNat_cond, if_pos (by omega)]
theorem t_and_val (v w : Int32) : (v &&& w).toBitVec.toNat = v.toBitVec.toNat &&& w.toBitVec.toNat := rfl
theorem t_and_lo {v w : Int32} (h : 0 ≤ v.toInt ∨ 0 ≤ w.toInt) : 0 ≤ (v &&& w).toInt ∧ (0 ≤ v.toInt → (v &&& w).toInt ≤ v.toInt) ∧ (0 ≤ w.toInt → (v &&& w).toInt ≤ w.toInt) := by
  have h1 := t_and_val v w
  have h2 : v.toBitVec.toNat &&& w.toBitVec.toNat ≤ v.toBitVec.toNat := Nat.and_le_left
  have h3 : v.toBitVec.toNat &&& w.toBitVec.toNat ≤ w.toBitVec.toNat := Nat.and_le_right
  have h4 : (v &&& w).toBitVec.toNat < 2 ^ 31 := by
    rcases h with h | h
    · have := (t_nat_of h).2
      omega
    · have := (t_nat_of h).2
      omega
  rw [t_of_nat h4]
  refine ⟨by omega, fun hv => ?_, fun hw => ?_⟩
  · rw [(t_nat_of hv).1]
    omega
  · rw [(t_nat_of hw).1]
    omega
theorem t_bnd_ok : tSI t_bnd (fun a b => a &&& b) := by
  intro ρ rs x y k v w hr hx hy h
  unfold t_bnd at h
  obtain ⟨p, q, r, s, h1, h2, h3, h4, h5⟩ := t_w2_ok h hr hx hy
  split at h1
  · rename_i h0
    rw [t_le_iff, Int.ofNat_eq_natCast] at h0
    have hv : 0 ≤ v.toInt := by omega
    obtain ⟨a1, a2, a3⟩ := t_and_lo (w := w) (Or.inl hv)
    split at h1
    · rename_i h6
      rw [t_le_iff, Int.ofNat_eq_natCast] at h6
      rw [t_mk_eq, t_min_eq] at h1
      refine ⟨_, h1, tg_c (by show (0 : Int) ≤ _; exact a1) ?_⟩
      have := a2 hv
      have := a3 (by omega)
      show (v &&& w).toInt ≤ _
      omega
    · rw [t_mk_eq] at h1
      refine ⟨_, h1, tg_c (by show (0 : Int) ≤ _; exact a1) ?_⟩
      have := a2 hv
      show (v &&& w).toInt ≤ _
      omega
  · split at h1
    · rename_i h6
      rw [t_le_iff, Int.ofNat_eq_natCast] at h6
      have hw : 0 ≤ w.toInt := by omega
      obtain ⟨a1, a2, a3⟩ := t_and_lo (v := v) (Or.inr hw)
      rw [t_mk_eq] at h1
      refine ⟨_, h1, tg_c (by show (0 : Int) ≤ _; exact a1) ?_⟩
      have := a3 hw
      show (v &&& w).toInt ≤ _
      omega
    · exact ⟨_, h1, tg_I _⟩
theorem t_ior_ok : tSI t_ior (fun a b => a ||| b) := by
  intro ρ rs x y k v w hr hx hy h
  unfold t_ior at h
  obtain ⟨p, q, r, s, h1, h2, h3, h4, h5⟩ := t_w2_ok h hr hx hy
  split at h1
  · rename_i h0
    rw [t_and_iff, t_le_iff, t_le_iff, Int.ofNat_eq_natCast] at h0
    split at h1
    · rename_i h6
      rw [t_and_iff, t_le_iff, t_le_iff, Int.ofNat_eq_natCast] at h6
      obtain ⟨a1, a2⟩ := t_nat_of (show 0 ≤ v.toInt by omega)
      obtain ⟨b1, b2⟩ := t_nat_of (show 0 ≤ w.toInt by omega)
      have c1 : (v ||| w).toBitVec.toNat = v.toBitVec.toNat ||| w.toBitVec.toNat := rfl
      have c2 : v.toBitVec.toNat ||| w.toBitVec.toNat < 2 ^ 7 := Nat.or_lt_two_pow (by omega) (by omega)
      refine ⟨_, h1, ?_⟩
      show tg ρ _ (v ||| w).toInt
      rw [t_of_nat (by omega)]
      exact tg_c (by show (0 : Int) ≤ _; omega) (by show _ ≤ (127 : Int); omega)
    · exact ⟨_, h1, tg_I _⟩
  · exact ⟨_, h1, tg_I _⟩
theorem t_shl_d : ∀ n : Fin 31, ((1 : Int32) <<< (Int32.ofNat n.val &&& 31)).toInt = ((2 ^ n.val : Nat) : Int) := by decide +kernel
theorem t_shl_ok : tSI t_shl (fun x y => x <<< (y &&& 31)) := by
  intro ρ rs x y k v w hr hx hy h
  unfold t_shl at h
  obtain ⟨p, q, r, s, h1, h2, h3, h4, h5⟩ := t_w2_ok h hr hx hy
  split at h1
  · rename_i h0
    rw [t_and_iff, t_and_iff, t_and_iff, t_eq_iff, t_eq_iff, t_le_iff, t_le_iff, Int.ofNat_eq_natCast, Int.ofNat_eq_natCast, Int.ofNat_eq_natCast] at h0
    obtain ⟨h6, h7, h8, h9⟩ := h0
    rw [t_mk_eq] at h1
    refine ⟨_, h1, ?_⟩
    have hv : v = 1 := Int32.toInt_inj.mp (show v.toInt = 1 by omega)
    have hw : w = Int32.ofNat w.toInt.toNat := by
      apply Int32.toInt_inj.mp
      rw [← Int32.ofInt_eq_ofNat, Int.toNat_of_nonneg (by omega), Int32.ofInt_toInt]
    have hd := t_shl_d ⟨w.toInt.toNat, by omega⟩
    dsimp only at hd
    show tg ρ _ (v <<< (w &&& 31)).toInt
    rw [hv, hw, hd]
    refine tg_c ?_ ?_
    · show ((2 ^ r.toNat : Nat) : Int) ≤ _
      exact Int.ofNat_le.mpr (Nat.pow_le_pow_right (by omega) (by omega))
    · show _ ≤ ((2 ^ s.toNat : Nat) : Int)
      exact Int.ofNat_le.mpr (Nat.pow_le_pow_right (by omega) (by omega))
  · exact ⟨_, h1, tg_I _⟩
theorem t_shr_ok : tSI t_shr (fun x y => x >>> (y &&& 31)) := by
  intro ρ rs x y k v w hr hx hy h
  unfold t_shr at h
  split at h
  · rename_i p q h1
    have h2 := t_iv_ok h1 hr hx
    split at h
    · rename_i h3
      rw [t_le_iff, Int.ofNat_eq_natCast] at h3
      rw [t_mk_eq] at h
      refine ⟨_, h, ?_⟩
      have hb : (v >>> (w &&& 31)).toInt = v.toInt >>> (((w &&& 31).toBitVec.smod 32).toNat) := BitVec.toInt_sshiftRight'
      show tg ρ _ (v >>> (w &&& 31)).toInt
      rw [hb, Int.shiftRight_eq_div_pow]
      refine tg_c ?_ ?_
      · exact Int.ediv_nonneg (by omega) (by exact Int.natCast_nonneg _)
      · exact Int.le_trans (Int.ediv_le_self _ (by omega)) h2.2
    · exact ⟨_, h, tg_I _⟩
  · cases h
theorem t_mmx_ok : tSI t_mmx (fun x y => if x < y then y else x) := by
  intro ρ rs x y k v w hr hx hy h
  unfold t_mmx at h
  obtain ⟨p, q, r, s, h1, h2, h3, h4, h5⟩ := t_w2_ok h hr hx hy
  rw [t_mk_eq, t_max_eq, t_max_eq] at h1
  refine ⟨_, h1, ?_⟩
  show tg ρ _ (if v < w then w else v).toInt
  split
  · rename_i hlt
    rw [Int32.lt_iff_toInt_lt] at hlt
    exact tg_c (by show max p r ≤ _; omega) (by show _ ≤ max q s; omega)
  · rename_i hlt
    rw [Int32.lt_iff_toInt_lt] at hlt
    exact tg_c (by show max p r ≤ _; omega) (by show _ ≤ max q s; omega)
theorem t_mmn_ok : tSI t_mmn (fun x y => if y < x then y else x) := by
  intro ρ rs x y k v w hr hx hy h
  unfold t_mmn at h
  obtain ⟨p, q, r, s, h1, h2, h3, h4, h5⟩ := t_w2_ok h hr hx hy
  rw [t_mk_eq, t_min_eq, t_min_eq] at h1
  refine ⟨_, h1, ?_⟩
  show tg ρ _ (if w < v then w else v).toInt
  split
  · rename_i hlt
    rw [Int32.lt_iff_toInt_lt] at hlt
    exact tg_c (by show min p r ≤ _; omega) (by show _ ≤ min q s; omega)
  · rename_i hlt
    rw [Int32.lt_iff_toInt_lt] at hlt
    exact tg_c (by show min p r ≤ _; omega) (by show _ ≤ min q s; omega)
theorem t_neg_ok {ρ : List Int} {rs : tB} {x : tT} {k : tT → Bool} {v : Int32} (hr : t_okr ρ rs) (hx : tg ρ x v.toInt) (h : t_neg rs x k = true) : ∃ z, k z = true ∧ tg ρ z (-v).toInt := by
  unfold t_neg at h
  split at h
  · rename_i p q h1
    have h2 := t_iv_ok h1 hr hx
    refine t_nrm_ok h hr (z := -v.toInt) (tg_c ?_ ?_) (Int32.toInt_neg v)
    · show -q ≤ _
      omega
    · show _ ≤ -p
      omega
  · cases h
-- bounds cut by a branch
section TS2
variable {ρ : List Int} {rs : tB} {x y : tT} {z w : Int}
theorem t_okr_set (hr : t_okr ρ rs) {i : Nat} {a b v : Int} (hv : ρ[i]? = some v) (h1 : a ≤ v) (h2 : v ≤ b) : t_okr ρ (rs.set i (a, b)) := by
  refine ⟨by rw [List.length_set]; exact hr.1, fun j a' b' hj => ?_⟩
  by_cases hij : i = j
  · subst hij
    by_cases hl : i < rs.length
    · rw [List.getElem?_set_self hl] at hj
      cases hj
      exact ⟨v, hv, h1, h2⟩
    · rw [List.getElem?_eq_none (by rw [List.length_set]; omega)] at hj
      cases hj
  · rw [List.getElem?_set_ne hij] at hj
    exact hr.2 j a' b' hj
theorem t_hi_ok {h : Int} {k : tB → Bool} (hk : t_hi rs x h k = true) (hr : t_okr ρ rs) (hx : tg ρ x z) (hz : z ≤ h) : ∃ rs', k rs' = true ∧ t_okr ρ rs' := by
  obtain ⟨j, a, b⟩ := x
  cases j with
  | zero => exact ⟨rs, hk, hr⟩
  | succ i =>
    replace hk : (match t_eq a b with
      | true => match t_nth rs i with
        | some (lo, hi) => match t_le hi (Int.sub h a) with
          | true => k rs
          | false => t_fi (Int.sub h a) (fun h' => t_upd rs i (lo, h') k)
        | none => false
      | false => k rs) = true := hk
    split at hk
    · rename_i hab
      rw [t_eq_iff] at hab
      subst hab
      rw [t_nth_eq] at hk
      split at hk
      · rename_i lo hi hi'
        split at hk
        · exact ⟨rs, hk, hr⟩
        · rw [t_fi_eq, t_upd_eq] at hk
          refine ⟨_, hk, ?_⟩
          obtain ⟨v, q1, q2, q3⟩ := hr.2 _ _ _ hi'
          obtain ⟨y, p1, p2, p3⟩ := hx
          replace p1 : ρ[i]? = some y := p1
          rw [q1] at p1
          cases p1
          dsimp only at p2 p3
          refine t_okr_set hr q1 q2 ?_
          show _ ≤ h - a
          omega
      · cases hk
    · exact ⟨rs, hk, hr⟩
theorem t_lo_ok {h : Int} {k : tB → Bool} (hk : t_lo rs x h k = true) (hr : t_okr ρ rs) (hx : tg ρ x z) (hz : h ≤ z) : ∃ rs', k rs' = true ∧ t_okr ρ rs' := by
  obtain ⟨j, a, b⟩ := x
  cases j with
  | zero => exact ⟨rs, hk, hr⟩
  | succ i =>
    replace hk : (match t_eq a b with
      | true => match t_nth rs i with
        | some (lo, hi) => match t_le (Int.sub h a) lo with
          | true => k rs
          | false => t_fi (Int.sub h a) (fun h' => t_upd rs i (h', hi) k)
        | none => false
      | false => k rs) = true := hk
    split at hk
    · rename_i hab
      rw [t_eq_iff] at hab
      subst hab
      rw [t_nth_eq] at hk
      split at hk
      · rename_i lo hi hi'
        split at hk
        · exact ⟨rs, hk, hr⟩
        · rw [t_fi_eq, t_upd_eq] at hk
          refine ⟨_, hk, ?_⟩
          obtain ⟨v, q1, q2, q3⟩ := hr.2 _ _ _ hi'
          obtain ⟨y, p1, p2, p3⟩ := hx
          replace p1 : ρ[i]? = some y := p1
          rw [q1] at p1
          cases p1
          dsimp only at p2 p3
          refine t_okr_set hr q1 ?_ q3
          show h - a ≤ _
          omega
      · cases hk
    · exact ⟨rs, hk, hr⟩
theorem t_ord_ok {d : Int} {k : tB → Bool} (hk : t_ord rs x y d k = true) (hr : t_okr ρ rs) (hx : tg ρ x z) (hy : tg ρ y w) (hd : z + d ≤ w) : ∃ rs', k rs' = true ∧ t_okr ρ rs' := by
  unfold t_ord at hk
  obtain ⟨p, q, r, s, h1, h2, h3, h4, h5⟩ := t_w2_ok hk hr hx hy
  split at h1
  · obtain ⟨rs1, h6, h7⟩ := t_hi_ok h1 hr hx (by show z ≤ s - d; omega)
    exact t_lo_ok h6 h7 hy (by show p + d ≤ w; omega)
  · rename_i hf
    rw [t_le_f] at hf
    replace hf : s < p + d := hf
    omega
theorem t_nqu_ok {k : tB → Bool} (hk : t_nqu rs x y k = true) (hr : t_okr ρ rs) (hx : tg ρ x z) (hy : tg ρ y w) (hd : z ≠ w) : ∃ rs', k rs' = true ∧ t_okr ρ rs' := by
  unfold t_nqu at hk
  obtain ⟨p, q, r, s, h1, h2, h3, h4, h5⟩ := t_w2_ok hk hr hx hy
  split at h1
  · rename_i e1
    rw [t_eq_iff] at e1
    split at h1
    · rename_i e2
      rw [t_eq_iff] at e2
      split at h1
      · rename_i e3
        rw [t_eq_iff] at e3
        omega
      · exact t_lo_ok h1 hr hx (by show r + 1 ≤ z; omega)
    · split at h1
      · rename_i e3
        rw [t_eq_iff] at e3
        exact t_hi_ok h1 hr hx (by show z ≤ r - 1; omega)
      · exact ⟨rs, h1, hr⟩
  · exact ⟨rs, h1, hr⟩
theorem t_equ_ok {k : tB → Bool} (hk : t_equ rs x y k = true) (hr : t_okr ρ rs) (hx : tg ρ x z) (hy : tg ρ y w) (hd : z = w) : ∃ rs', k rs' = true ∧ t_okr ρ rs' := by
  unfold t_equ at hk
  obtain ⟨rs1, h1, h2⟩ := t_ord_ok hk hr hx hy (by show z + 0 ≤ w; omega)
  exact t_ord_ok h1 h2 hy hx (by show w + 0 ≤ z; omega)
def t_rel (op : ClassFile.Cond) (a b : Int) : Bool := match op with
  | .eq => decide (a = b)
  | .ne => !decide (a = b)
  | .lt => decide (a < b)
  | .ge => decide (b ≤ a)
  | .gt => decide (b < a)
  | .le => decide (a ≤ b)
theorem t_cmp_ok {op : ClassFile.Cond} {kt kf : tB → Bool} (h : t_cmp op rs x y kt kf = true) (hr : t_okr ρ rs) (hx : tg ρ x z) (hy : tg ρ y w) : ∃ rs', t_okr ρ rs' ∧ (match t_rel op z w with | true => kt rs' | false => kf rs') = true := by
  have key : ∀ {k1 k2 : tB → Bool} {b : Bool}, (b = true → ∃ rs', k1 rs' = true ∧ t_okr ρ rs') → (b = false → ∃ rs', k2 rs' = true ∧ t_okr ρ rs') → ∃ rs', t_okr ρ rs' ∧ (match b with | true => k1 rs' | false => k2 rs') = true := by
    intro k1 k2 b h1 h2
    cases b with
    | true =>
      obtain ⟨rs', a, b⟩ := h1 rfl
      exact ⟨rs', b, a⟩
    | false =>
      obtain ⟨rs', a, b⟩ := h2 rfl
      exact ⟨rs', b, a⟩
  cases op <;> simp only [t_cmp, t_and_iff] at h <;> obtain ⟨h1, h2⟩ := h <;> refine key (fun hb => ?_) (fun hb => ?_) <;> simp only [t_rel, Bool.not_eq_true', Bool.not_eq_false', decide_eq_true_eq, decide_eq_false_iff_not] at hb
  · exact t_equ_ok h1 hr hx hy hb
  · exact t_nqu_ok h2 hr hx hy hb
  · exact t_nqu_ok h1 hr hx hy hb
  · exact t_equ_ok h2 hr hx hy hb
  · exact t_ord_ok h1 hr hx hy (by show z + 1 ≤ w; omega)
  · exact t_ord_ok h2 hr hy hx (by show w + 0 ≤ z; omega)
  · exact t_ord_ok h1 hr hy hx (by show w + 0 ≤ z; omega)
  · exact t_ord_ok h2 hr hx hy (by show z + 1 ≤ w; omega)
  · exact t_ord_ok h1 hr hy hx (by show w + 1 ≤ z; omega)
  · exact t_ord_ok h2 hr hx hy (by show z + 0 ≤ w; omega)
  · exact t_ord_ok h1 hr hx hy (by show z + 0 ≤ w; omega)
  · exact t_ord_ok h2 hr hy hx (by show w + 1 ≤ z; omega)
theorem t_ic_rel (op : ClassFile.Cond) (v u : Int32) : zz_ic op v u = t_rel op v.toInt u.toInt := by
  cases op <;> simp only [zz_ic, t_rel] <;> congr 1 <;> simp only [decide_eq_decide, Int32.lt_iff_toInt_lt, Int32.le_iff_toInt_le, Int32.toInt_inj]
theorem t_if_rel (op : ClassFile.Cond) (v : Int32) : zz_if op v = t_rel op v.toInt 0 := by
  have h : zz_if op v = zz_ic op v 0 := by cases op <;> rfl
  rw [h, t_ic_rel]
  rfl
end TS2
