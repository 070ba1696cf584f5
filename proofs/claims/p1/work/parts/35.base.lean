/-! the abstract machine is sound: its words -/
theorem zs_nth_eq {α : Type} : ∀ (l : List α) (i : Nat), zs_nth l i = l[i]?
  | [], i => by simp [zs_nth]
  | a :: t, 0 => rfl
  | a :: t, i + 1 => by
    show zs_nth t i = _
    rw [zs_nth_eq t i, List.getElem?_cons_succ]
theorem zs_upd_eq {α β : Type} : ∀ (l : List α) (i : Nat) (x : α) (k : List α → β), zs_upd l i x k = k (l.set i x)
  | [], i, x, k => rfl
  | a :: t, 0, x, k => rfl
  | a :: t, i + 1, x, k => by
    show zs_upd t i x (fun t' => k (a :: t')) = _
    rw [zs_upd_eq t i]
    rfl
theorem zs_rep_eq {α : Type} (x : α) : ∀ n : Nat, zs_rep n x = List.replicate n x
  | 0 => rfl
  | n + 1 => by
    show x :: zs_rep n x = _
    rw [zs_rep_eq x n]
    rfl
theorem zs_len_eq {α : Type} : ∀ l : List α, zs_len l = l.length
  | [] => rfl
  | a :: t => by
    show Nat.succ (zs_len t) = _
    rw [zs_len_eq t]
    rfl
theorem zs_lit_eq (z : Int) (k : zv → Bool) : zs_lit z k = k (.inl z) := by
  cases z with
  | ofNat n => cases n <;> rfl
  | negSucc n => cases n <;> rfl
theorem zs_le_iff {a b : Int} : zs_le a b = true ↔ a ≤ b := by
  cases a <;> cases b <;> simp only [zs_le, Nat.ble_eq, Int.negSucc_eq, Int.ofNat_eq_natCast] <;> constructor <;> intro h <;> first | omega | rfl | trivial | cases h
theorem zs_le_f {a b : Int} : zs_le a b = false ↔ b < a := by
  rw [← Bool.not_eq_true, zs_le_iff]
  omega
theorem zs_lt_eq (a b : Int) : zs_lt a b = !zs_le b a := by
  unfold zs_lt
  cases zs_le b a <;> rfl
theorem zs_lt_iff {a b : Int} : zs_lt a b = true ↔ a < b := by
  rw [zs_lt_eq, Bool.not_eq_true', zs_le_f]
theorem zs_lt_f {a b : Int} : zs_lt a b = false ↔ b ≤ a := by
  rw [zs_lt_eq, Bool.not_eq_false', zs_le_iff]
theorem zs_eq_iff {a b : Int} : zs_eq a b = true ↔ a = b := by
  unfold zs_eq
  split
  · rename_i h
    rw [zs_le_iff] at h ⊢
    omega
  · rename_i h
    rw [zs_le_f] at h
    constructor
    · intro q; cases q
    · intro q; omega
theorem zs_in_iff {a b : Int} : zs_in a b = true ↔ -2147483648 ≤ a ∧ b ≤ 2147483647 := by
  unfold zs_in
  split
  · rename_i h
    rw [zs_le_iff, Int.negSucc_eq] at h
    rw [zs_le_iff, Int.ofNat_eq_natCast]
    omega
  · rename_i h
    rw [zs_le_f, Int.negSucc_eq] at h
    constructor
    · intro q; cases q
    · intro q; omega
theorem zs_bool {b : Bool} {c : Bool} (h : (match b with | true => c | false => false) = true) : b = true ∧ c = true := by
  cases b with
  | true => exact ⟨rfl, h⟩
  | false => cases h
-- what a value stands for
def zs_g (ρ : Nat → Int) (v : zv) (u : Value) : Prop := match v with
  | .inl x => u = .int (Int32.ofInt x)
  | .inr (.inl (j, c)) => u = .int (Int32.ofInt (ρ j + c))
  | .inr (.inr (.inl none)) => ∃ x, u = .int x
  | .inr (.inr (.inl (some a))) => u = a
  | .inr (.inr (.inr (j, c))) => u = .long (Int64.ofInt (ρ j + c))
def zs_rS (ρ : Nat → Int) : List zv → List Value → Prop
  | [], [] => True
  | v :: s, u :: t => zs_g ρ v u ∧ zs_rS ρ s t
  | [], _ :: _ => False
  | _ :: _, [] => False
def zs_rL (ρ : Nat → Int) (A : zs_L) (L : List (Option Value)) : Prop := A.length = L.length ∧ ∀ (i : Nat) (v : zv), A[i]? = some (some v) → ∃ u, L[i]? = some (some u) ∧ zs_g ρ v u
def zs_gc (ρ : Nat → Int) (c : zs_C) (d : zz_C) : Prop := match c, d with
  | .inl vs, .inl xs => zs_rS ρ vs (xs.map Value.int)
  | .inr (.inl q), .inr (.inl q') => q = q'
  | .inr (.inr (n, vs)), .inr (.inr (m, us)) => n = m ∧ zs_rS ρ vs us
  | _, _ => False
def zs_rW (ρ : Nat → Int) (N : Nat) (w : zs_W) (cs : zz_W) : Prop := cs.length = N ∧ ∀ (i : Nat) (c : zs_C), zs_get w i = some c → ∃ d, cs[i]? = some (some d) ∧ zs_gc ρ c d
def zs_ok (ρ : Nat → Int) (rs : zs_R) : Prop := ∀ (j : Nat) (a b : Int), rs[j]? = some (a, b) → a ≤ ρ j ∧ ρ j ≤ b
section ZS1
variable {ρ : Nat → Int} {rs : zs_R}
theorem zs_rS_len : ∀ {s : List zv} {t : List Value}, zs_rS ρ s t → s.length = t.length
  | [], [], _ => rfl
  | v :: s, u :: t, h => by
    rw [List.length_cons, List.length_cons, zs_rS_len h.2]
  | [], _ :: _, h => h.elim
  | _ :: _, [], h => h.elim
theorem zs_rS_nth : ∀ {s : List zv} {t : List Value} {i : Nat} {v : zv}, zs_rS ρ s t → s[i]? = some v → ∃ u, t[i]? = some u ∧ zs_g ρ v u
  | [], [], i, v, _, h => by simp at h
  | v :: s, u :: t, 0, v', h, hv => by
    rw [List.getElem?_cons_zero] at hv
    cases hv
    exact ⟨u, rfl, h.1⟩
  | v :: s, u :: t, i + 1, v', h, hv => by
    rw [List.getElem?_cons_succ] at hv ⊢
    exact zs_rS_nth h.2 hv
  | [], _ :: _, _, _, h, _ => h.elim
  | _ :: _, [], _, _, h, _ => h.elim
theorem zs_rS_set : ∀ {s : List zv} {t : List Value} {i : Nat} {v : zv} {u : Value}, zs_rS ρ s t → zs_g ρ v u → zs_rS ρ (s.set i v) (t.set i u)
  | [], [], i, v, u, _, h => by simp [zs_rS]
  | v :: s, u :: t, 0, v', u', h, hv => ⟨hv, h.2⟩
  | v :: s, u :: t, i + 1, v', u', h, hv => ⟨h.1, zs_rS_set h.2 hv⟩
  | [], _ :: _, _, _, _, h, _ => h.elim
  | _ :: _, [], _, _, _, h, _ => h.elim
theorem zs_rS_take : ∀ {s : List zv} {t : List Value} (n : Nat), zs_rS ρ s t → zs_rS ρ (s.take n) (t.take n)
  | [], [], n, h => by simp [zs_rS]
  | v :: s, u :: t, 0, h => trivial
  | v :: s, u :: t, n + 1, h => ⟨h.1, zs_rS_take n h.2⟩
  | [], _ :: _, _, h => h.elim
  | _ :: _, [], _, h => h.elim
theorem zs_rS_drop : ∀ {s : List zv} {t : List Value} (n : Nat), zs_rS ρ s t → zs_rS ρ (s.drop n) (t.drop n)
  | [], [], n, h => by simp [zs_rS]
  | v :: s, u :: t, 0, h => h
  | v :: s, u :: t, n + 1, h => by
    rw [List.drop_succ_cons, List.drop_succ_cons]
    exact zs_rS_drop n h.2
  | [], _ :: _, _, h => h.elim
  | _ :: _, [], _, h => h.elim
theorem zs_rS_app : ∀ {s : List zv} {t : List Value} {s2 : List zv} {t2 : List Value}, zs_rS ρ s t → zs_rS ρ s2 t2 → zs_rS ρ (s ++ s2) (t ++ t2)
  | [], [], _, _, _, h => h
  | v :: s, u :: t, _, _, h, h2 => ⟨h.1, zs_rS_app h.2 h2⟩
  | [], _ :: _, _, _, h, _ => h.elim
  | _ :: _, [], _, _, h, _ => h.elim
theorem zs_rS_rev : ∀ {s : List zv} {t : List Value}, zs_rS ρ s t → zs_rS ρ s.reverse t.reverse
  | [], [], _ => trivial
  | v :: s, u :: t, h => by
    rw [List.reverse_cons, List.reverse_cons]
    exact zs_rS_app (zs_rS_rev h.2) ⟨h.1, trivial⟩
  | [], _ :: _, h => h.elim
  | _ :: _, [], h => h.elim
theorem zs_rS_cons {v : zv} {s : List zv} {t : List Value} (h : zs_rS ρ (v :: s) t) : ∃ u t', t = u :: t' ∧ zs_g ρ v u ∧ zs_rS ρ s t' := by
  cases t with
  | nil => exact h.elim
  | cons u t' => exact ⟨u, t', rfl, h.1, h.2⟩
theorem zs_rS_nil {t : List Value} (h : zs_rS ρ [] t) : t = [] := by
  cases t with
  | nil => rfl
  | cons u t' => exact h.elim
theorem zs_isI_of {v : zv} {u : Value} (h : zs_isI v = true) (hg : zs_g ρ v u) : ∃ x, u = .int x := by
  unfold zs_isI at h
  split at h
  · exact ⟨_, hg⟩
  · exact ⟨_, hg⟩
  · exact hg
  · cases h
theorem zs_isA_of {v : zv} {u : Value} (h : zs_isA v = true) (hg : zs_g ρ v u) : ∃ i, u = .ref i := by
  unfold zs_isA at h
  split at h
  · exact ⟨_, hg⟩
  · cases h
theorem zs_isJ_of {v : zv} {u : Value} (h : zs_isJ v = true) (hg : zs_g ρ v u) : ∃ x, u = .long x := by
  unfold zs_isJ at h
  split at h
  · exact ⟨_, hg⟩
  · exact ⟨_, hg⟩
  · cases h
theorem zs_cat2_of {v : zv} {u : Value} (hg : zs_g ρ v u) : u.category = if zs_cat2 v = true then 2 else 1 := by
  match v, hg with
  | .inl x, hg => rw [show u = _ from hg]; rfl
  | .inr (.inl (j, c)), hg => rw [show u = _ from hg]; rfl
  | .inr (.inr (.inl none)), ⟨x, hx⟩ => rw [hx]; rfl
  | .inr (.inr (.inl (some a))), hg =>
    rw [show u = _ from hg]
    cases a <;> rfl
  | .inr (.inr (.inr (j, c))), hg => rw [show u = _ from hg]; rfl
theorem zs_css_of : ∀ {s : List zv} {t : List Value}, zs_rS ρ s t → zz_ss t = zs_css s
  | [], [], _ => rfl
  | v :: s, u :: t, h => by
    have ih := zs_css_of h.2
    have hc := zs_cat2_of h.1
    unfold zz_ss at ih ⊢
    rw [List.map_cons, List.sum_cons, ih, hc]
    show _ = (match zs_cat2 v with | true => Nat.succ (Nat.succ (zs_css s)) | false => Nat.succ (zs_css s))
    cases zs_cat2 v
    · simp only [Bool.false_eq_true, if_false]
      omega
    · simp only [if_true]
      omega
  | [], _ :: _, h => h.elim
  | _ :: _, [], h => h.elim
theorem zs_in_of {a b z : Int} (h : zs_in a b = true) (h1 : a ≤ z) (h2 : z ≤ b) : (Int32.ofInt z).toInt = z := by
  rw [zs_in_iff] at h
  exact Int32.toInt_ofInt_of_le (by omega) (by omega)
theorem zs_sh_of {j : Nat} {c a b : Int} (h : zs_sh (zs_nth rs j) c = some (a, b)) (hr : zs_ok ρ rs) : a ≤ ρ j + c ∧ ρ j + c ≤ b := by
  rw [zs_nth_eq] at h
  unfold zs_sh at h
  split at h
  · rename_i a' b' ho
    have := hr j a' b' ho
    cases h
    show a' + c ≤ _ ∧ _ ≤ b' + c
    omega
  · cases h
theorem zs_iv_of {v : zv} {u : Value} {a b : Int} (h : zs_iv rs v = some (a, b)) (hr : zs_ok ρ rs) (hg : zs_g ρ v u) : ∃ z, u = .int (Int32.ofInt z) ∧ a ≤ z ∧ z ≤ b := by
  unfold zs_iv at h
  split at h
  · cases h
    exact ⟨_, hg, Int.le_refl _, Int.le_refl _⟩
  · have := zs_sh_of h hr
    exact ⟨_, hg, this.1, this.2⟩
  · cases h
theorem zs_jv_of {v : zv} {u : Value} {a b : Int} (h : zs_jv rs v = some (a, b)) (hi : zs_in a b = true) (hr : zs_ok ρ rs) (hg : zs_g ρ v u) : ∃ x : Int64, u = .long x ∧ a ≤ x.toInt ∧ x.toInt ≤ b := by
  unfold zs_jv at h
  split at h
  · cases h
    exact ⟨_, hg, Int.le_refl _, Int.le_refl _⟩
  · have := zs_sh_of h hr
    rw [zs_in_iff] at hi
    refine ⟨_, hg, ?_⟩
    rw [Int64.toInt_ofInt_of_le (by omega) (by omega)]
    exact this
  · cases h
theorem zs_ok_set {j : Nat} {a b : Int} (hr : zs_ok ρ rs) (h : a ≤ ρ j ∧ ρ j ≤ b) : zs_ok ρ (rs.set j (a, b)) := by
  intro i a' b' hi
  by_cases hij : j = i
  · subst hij
    by_cases hl : j < rs.length
    · rw [List.getElem?_set_self hl] at hi
      cases hi
      exact h
    · rw [List.getElem?_eq_none (by rw [List.length_set]; omega)] at hi
      cases hi
  · rw [List.getElem?_set_ne hij] at hi
    exact hr i a' b' hi
theorem zs_cut2_ok {j : Nat} {t : Int} {f f2 : zs_R → Bool} (h : zs_cut2 rs j t f f2 = true) (hr : zs_ok ρ rs) : (∃ rs', f rs' = true ∧ zs_ok ρ rs') ∨ ∃ rs', f2 rs' = true ∧ zs_ok ρ rs' := by
  unfold zs_cut2 at h
  rw [zs_nth_eq] at h
  split at h
  · rename_i a b ho
    have hj := hr j a b ho
    split at h
    · exact Or.inl ⟨rs, h, hr⟩
    · split at h
      · exact Or.inr ⟨rs, h, hr⟩
      · rw [zs_upd_eq, zs_upd_eq] at h
        split at h
        · rename_i h1
          by_cases hq : ρ j ≤ t
          · exact Or.inl ⟨_, h1, zs_ok_set hr ⟨hj.1, hq⟩⟩
          · refine Or.inr ⟨_, h, zs_ok_set hr ⟨?_, hj.2⟩⟩
            show t + 1 ≤ _
            omega
        · cases h
  · cases h
theorem zs_cut_ok {j : Nat} {t : Int} {f : zs_R → Bool} (h : zs_cut rs j t f = true) (hr : zs_ok ρ rs) : ∃ rs', f rs' = true ∧ zs_ok ρ rs' := (zs_cut2_ok h hr).elim id id
theorem zs_lv_ok {v : zv} {u : Value} {k : Int → Bool} {re : zs_R → Bool} (h : zs_lv rs v k re = true) (hr : zs_ok ρ rs) (hg : zs_g ρ v u) : (∃ rs', re rs' = true ∧ zs_ok ρ rs') ∨ ∃ x, k x = true ∧ u = .int (Int32.ofInt x) := by
  unfold zs_lv at h
  split at h
  · exact Or.inr ⟨_, h, hg⟩
  · rename_i j c
    rw [zs_nth_eq] at h
    split at h
    · rename_i a b ho
      have hj := hr j a b ho
      split at h
      · rename_i hab
        rw [zs_le_iff] at hab
        refine Or.inr ⟨_, h, ?_⟩
        rw [show u = _ from hg, show ρ j = a by omega]
        rfl
      · split at h
        · exact Or.inl (zs_cut_ok h hr)
        · cases h
    · cases h
  · cases h
theorem zs_hl (i j : Nat) (hi : i < 320) (hj : j < 320) (h1 : zs_hi i = zs_hi j) (h2 : zs_lo i = zs_lo j) : i = j := by
  unfold zs_hi at h1
  unfold zs_lo at h2
  have e1 : ∀ n : Nat, Nat.mod (Nat.div (Nat.add n 49) 16) 20 = (n + 49) / 16 % 20 := fun _ => rfl
  have e2 : ∀ n : Nat, Nat.mod (Nat.add n 49) 16 = (n + 49) % 16 := fun _ => rfl
  rw [e1, e1] at h1
  rw [e2, e2] at h2
  omega
theorem zs_get_eq (w : zs_W) (i : Nat) {c : zs_C} (h : zs_get w i = some c) : i < 320 ∧ ∃ ch, w[zs_hi i]? = some ch ∧ ch[zs_lo i]? = some (some c) := by
  unfold zs_get at h
  split at h
  · rename_i hb
    rw [zs_nth_eq] at h
    split at h
    · rename_i ch hch
      rw [zs_nth_eq] at h
      split at h
      · rename_i c' hc
        subst h
        exact ⟨Nat.blt_eq.mp hb, ch, hch, hc⟩
      · cases h
    · cases h
  · cases h
theorem zs_get_of {w : zs_W} {i : Nat} {c : zs_C} {ch : List (Option zs_C)} (hi : i < 320) (h1 : w[zs_hi i]? = some ch) (h2 : ch[zs_lo i]? = some (some c)) : zs_get w i = some c := by
  unfold zs_get
  rw [Nat.blt_eq.mpr hi]
  dsimp only
  rw [zs_nth_eq, h1]
  dsimp only
  rw [zs_nth_eq, h2]
theorem zs_put_ok {N : Nat} {w : zs_W} {cs : zz_W} {i : Nat} {c0 c : zs_C} {d : zz_C} {k : zs_W → Bool} (h : zs_put w i c k = true) (hg : zs_get w i = some c0) (hW : zs_rW ρ N w cs) (hc : zs_gc ρ c d) : ∃ w', k w' = true ∧ zs_rW ρ N w' (cs.set i (some d)) := by
  unfold zs_put at h
  obtain ⟨hi, ch, h1, h2⟩ := zs_get_eq w i hg
  rw [zs_nth_eq, h1] at h
  dsimp only at h
  rw [zs_upd_eq, zs_upd_eq] at h
  refine ⟨_, h, by rw [List.length_set]; exact hW.1, fun j e hj => ?_⟩
  obtain ⟨d0, hd0, -⟩ := hW.2 i c0 hg
  have hil : i < cs.length := (List.getElem?_eq_some_iff.mp hd0).1
  obtain ⟨hj0, ch2, h3, h4⟩ := zs_get_eq _ j hj
  have hwl : zs_hi i < w.length := (List.getElem?_eq_some_iff.mp h1).1
  have hcl : zs_lo i < ch.length := (List.getElem?_eq_some_iff.mp h2).1
  by_cases hij : i = j
  · subst hij
    rw [List.getElem?_set_self hwl] at h3
    cases h3
    rw [List.getElem?_set_self hcl] at h4
    cases h4
    exact ⟨d, List.getElem?_set_self hil, hc⟩
  · rw [List.getElem?_set_ne hij]
    apply hW.2 j e
    by_cases hh : zs_hi i = zs_hi j
    · rw [hh, List.getElem?_set_self (by rw [← hh]; exact hwl)] at h3
      cases h3
      have hll : zs_lo i ≠ zs_lo j := fun q => hij (zs_hl i j hi hj0 hh q)
      rw [List.getElem?_set_ne hll] at h4
      exact zs_get_of hj0 (by rw [← hh]; exact h1) h4
    · rw [List.getElem?_set_ne hh] at h3
      exact zs_get_of hj0 h3 h4
end ZS1
