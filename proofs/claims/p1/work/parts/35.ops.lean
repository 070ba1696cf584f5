/-! the abstract machine is sound: its instructions -/
section ZS2
variable {ρ : Nat → Int} {rs : zs_R} {A : zs_L} {L : List (Option Value)}
theorem zs_ld_of {j : Nat} {u : Value} (h : L[j]? = some (some u)) : zz_ld L j = some u := by
  unfold zz_ld
  rw [h]
theorem zs_pv_ok {p : zv → Bool} {j : Nat} {k : zv → Bool} (h : zs_pv p (zs_nth A j) k = true) (hA : zs_rL ρ A L) : ∃ v u, k v = true ∧ p v = true ∧ zz_ld L j = some u ∧ zs_g ρ v u := by
  unfold zs_pv at h
  rw [zs_nth_eq] at h
  split at h
  · rename_i v hv
    obtain ⟨h1, h2⟩ := zs_bool h
    obtain ⟨u, hu, hg⟩ := hA.2 _ _ hv
    exact ⟨v, u, h2, h1, zs_ld_of hu, hg⟩
  · cases h
theorem zs_cl_of {i j : Nat} {u : Value} (h : L[i]? = some (some u)) (hn : ¬ (i + 1 = j ∧ u.category = 2)) : (zz_cl L j)[i]? = some (some u) := by
  cases j with
  | zero => exact h
  | succ j =>
    show (match zz_ld L j with | some w => if w.category = 2 then L.set j none else L | none => L)[i]? = some (some u)
    split
    · rename_i w hw
      split
      · rename_i hc
        have hij : j ≠ i := by
          intro q
          subst q
          rw [zs_ld_of h] at hw
          cases hw
          exact hn ⟨rfl, hc⟩
        rw [List.getElem?_set_ne hij]
        exact h
      · exact h
    · exact h
theorem zs_sv_len (j : Nat) (u : Value) : (zz_sv L j u).length = L.length := by
  unfold zz_sv
  split <;> simp [zz_cl_len]
theorem zs_nol_of {i : Nat} {v : zv} (h : zs_nol (zs_nth A i) = true) (hv : A[i]? = some (some v)) : zs_cat2 v = false := by
  unfold zs_nol at h
  rw [zs_nth_eq, hv] at h
  dsimp only at h
  cases hc : zs_cat2 v with
  | true => rw [hc] at h; cases h
  | false => rfl
theorem zs_sto_ok {j : Nat} {v : zv} {u : Value} {k : zs_L → Bool} (h : zs_sto A j v k = true) (hA : zs_rL ρ A L) (hg : zs_g ρ v u) : j < L.length ∧ ∃ A', k A' = true ∧ A'.length = L.length ∧ A' = A.set j (some v) ∧ ∀ (i : Nat) (v' : zv), A'[i]? = some (some v') → ∃ u', ((zz_cl L j).set j (some u))[i]? = some (some u') ∧ zs_g ρ v' u' := by
  unfold zs_sto at h
  rw [zs_nth_eq] at h
  split at h
  · rename_i o ho
    have hj : j < A.length := (List.getElem?_eq_some_iff.mp ho).1
    obtain ⟨h1, h2⟩ := zs_bool h
    rw [zs_upd_eq] at h2
    refine ⟨by rw [← hA.1]; exact hj, _, h2, by rw [List.length_set]; exact hA.1, rfl, fun i v' hi => ?_⟩
    by_cases hij : j = i
    · subst hij
      rw [List.getElem?_set_self hj] at hi
      cases hi
      exact ⟨u, List.getElem?_set_self (by rw [zz_cl_len, ← hA.1]; exact hj), hg⟩
    · rw [List.getElem?_set_ne hij] at hi ⊢
      obtain ⟨u', hu', hg'⟩ := hA.2 i v' hi
      refine ⟨u', zs_cl_of hu' ?_, hg'⟩
      rintro ⟨q, hc⟩
      subst q
      have hn : zs_cat2 v' = false := zs_nol_of h1 hi
      rw [zs_cat2_of hg', hn] at hc
      cases hc
  · cases h
theorem zs_st1 {j : Nat} {v : zv} {u : Value} {k : zs_L → Bool} (h : zs_sto A j v k = true) (hA : zs_rL ρ A L) (hg : zs_g ρ v u) (hc : u.category = 1) : j < L.length ∧ ∃ A', k A' = true ∧ zs_rL ρ A' (zz_sv L j u) := by
  obtain ⟨h1, A', h2, h3, -, h5⟩ := zs_sto_ok h hA hg
  refine ⟨h1, A', h2, by rw [zs_sv_len]; exact h3, fun i v' hi => ?_⟩
  rw [show zz_sv L j u = (zz_cl L j).set j (some u) by unfold zz_sv; rw [if_neg (by omega)]]
  exact h5 i v' hi
theorem zs_stv_ok {p : zv → Bool} {j : Nat} {st : List zv} {t : List Value} {k : zs_L → List zv → Bool} (h : zs_stv p A j st k = true) (hA : zs_rL ρ A L) (hS : zs_rS ρ st t) (hp : ∀ v u, p v = true → zs_g ρ v u → u.category = 1) : ∃ v u r A' s', p v = true ∧ zs_g ρ v u ∧ t = u :: r ∧ k A' s' = true ∧ zs_rS ρ s' r ∧ zs_rL ρ A' (zz_sv L j u) ∧ j < L.length := by
  unfold zs_stv at h
  split at h
  · obtain ⟨u, r, rfl, hg, hS'⟩ := zs_rS_cons hS
    obtain ⟨h1, h2⟩ := zs_bool h
    obtain ⟨q1, A', q2, q3⟩ := zs_st1 h2 hA hg (hp _ _ h1 hg)
    exact ⟨_, u, r, A', _, h1, hg, rfl, q2, hS', q3, q1⟩
  · cases h
theorem zs_stl_ok {j : Nat} {st : List zv} {t : List Value} {k : zs_L → List zv → Bool} (h : zs_stl A j st k = true) (hA : zs_rL ρ A L) (hS : zs_rS ρ st t) : ∃ x r A' s', t = .long x :: r ∧ k A' s' = true ∧ zs_rS ρ s' r ∧ zs_rL ρ A' (zz_sv L j (.long x)) ∧ j + 1 < L.length := by
  unfold zs_stl at h
  split at h
  · obtain ⟨u, r, rfl, hg, hS'⟩ := zs_rS_cons hS
    obtain ⟨h1, h2⟩ := zs_bool h
    obtain ⟨x, rfl⟩ := zs_isJ_of h1 hg
    rw [zs_nth_eq] at h2
    split at h2
    · rename_i o ho
      have hj : j + 1 < A.length := (List.getElem?_eq_some_iff.mp ho).1
      obtain ⟨q1, A', q2, q3, rfl, q5⟩ := zs_sto_ok h2 hA hg
      rw [zs_upd_eq] at q2
      refine ⟨x, r, _, _, rfl, q2, hS', ⟨by rw [zs_sv_len, List.length_set]; exact q3, fun i v' hi => ?_⟩, by rw [← hA.1]; exact hj⟩
      rw [show zz_sv L j (.long x) = ((zz_cl L j).set j (some (.long x))).set (j + 1) none from rfl]
      by_cases hij : j + 1 = i
      · subst hij
        rw [List.getElem?_set_self (by rw [q3, ← hA.1]; exact hj)] at hi
        cases hi
      · rw [List.getElem?_set_ne hij] at hi ⊢
        exact q5 i v' hi
    · cases h2
  · cases h
theorem zs_i2_ok {f : zv → zv → (zv → Bool) → Bool} {st : List zv} {t : List Value} {k : List zv → Bool} (h : zs_i2 f st k = true) (hS : zs_rS ρ st t) : ∃ x y r ux uy tr, t = uy :: ux :: tr ∧ zs_g ρ y uy ∧ zs_g ρ x ux ∧ zs_rS ρ r tr ∧ f x y (fun z => k (z :: r)) = true := by
  unfold zs_i2 at h
  split at h
  · split at h
    · obtain ⟨u, r, rfl, hg, hS'⟩ := zs_rS_cons hS
      obtain ⟨u2, r2, rfl, hg2, hS2⟩ := zs_rS_cons hS'
      exact ⟨_, _, _, u2, u, r2, rfl, hg, hg2, hS2, h⟩
    · cases h
  · cases h
theorem zs_i1_ok {f : zv → (zv → Bool) → Bool} {st : List zv} {t : List Value} {k : List zv → Bool} (h : zs_i1 f st k = true) (hS : zs_rS ρ st t) : ∃ x r ux tr, t = ux :: tr ∧ zs_g ρ x ux ∧ zs_rS ρ r tr ∧ f x (fun z => k (z :: r)) = true := by
  unfold zs_i1 at h
  split at h
  · obtain ⟨u, r, rfl, hg, hS'⟩ := zs_rS_cons hS
    exact ⟨_, _, u, r, rfl, hg, hS', h⟩
  · cases h
theorem zs_add_ok {x : zv} {u : Value} {c : Int} {k : zv → Bool} (h : zs_add x c k = true) (hg : zs_g ρ x u) : ∃ z a, k z = true ∧ u = .int a ∧ zs_g ρ z (.int (a + Int32.ofInt c)) := by
  unfold zs_add at h
  split at h
  · rw [zs_lit_eq] at h
    refine ⟨_, _, h, hg, ?_⟩
    show Value.int _ = Value.int (Int32.ofInt (_ + c))
    rw [Int32.ofInt_add]
  · refine ⟨_, _, h, hg, ?_⟩
    show Value.int _ = Value.int (Int32.ofInt (_ + (_ + c)))
    rw [← Int.add_assoc, Int32.ofInt_add (_ + _) c]
  · obtain ⟨x, hx⟩ := hg
    exact ⟨_, x, h, hx, _, rfl⟩
  · cases h
theorem zs_iadd_ok {x y : zv} {ux uy : Value} {k : zv → Bool} (h : zs_iadd rs x y k = true) (hx : zs_g ρ x ux) (hy : zs_g ρ y uy) : ∃ z a b, k z = true ∧ ux = .int a ∧ uy = .int b ∧ zs_g ρ z (.int (a + b)) := by
  unfold zs_iadd at h
  split at h
  · obtain ⟨z, a, h1, h2, h3⟩ := zs_add_ok h hx
    exact ⟨z, a, _, h1, h2, hy, h3⟩
  · split at h
    · obtain ⟨z, b, h1, h2, h3⟩ := zs_add_ok h hy
      refine ⟨z, _, b, h1, hx, h2, ?_⟩
      rw [Int32.add_comm]
      exact h3
    · obtain ⟨h1, h2⟩ := zs_bool h
      obtain ⟨h2, h3⟩ := zs_bool h2
      obtain ⟨a, ha⟩ := zs_isI_of h1 hx
      obtain ⟨b, hb⟩ := zs_isI_of h2 hy
      exact ⟨_, a, b, h3, ha, hb, _, rfl⟩
theorem zs_isub_ok {x y : zv} {ux uy : Value} {k : zv → Bool} (h : zs_isub rs x y k = true) (hx : zs_g ρ x ux) (hy : zs_g ρ y uy) : ∃ z a b, k z = true ∧ ux = .int a ∧ uy = .int b ∧ zs_g ρ z (.int (a - b)) := by
  unfold zs_isub at h
  split at h
  · rename_i b
    obtain ⟨z, a, h1, h2, h3⟩ := zs_add_ok h hx
    refine ⟨z, a, _, h1, h2, hy, ?_⟩
    rw [Int32.sub_eq_add_neg, ← Int32.ofInt_neg]
    exact h3
  · obtain ⟨h1, h2⟩ := zs_bool h
    obtain ⟨h2, h3⟩ := zs_bool h2
    obtain ⟨a, ha⟩ := zs_isI_of h1 hx
    obtain ⟨b, hb⟩ := zs_isI_of h2 hy
    exact ⟨_, a, b, h3, ha, hb, _, rfl⟩
theorem zs_ar_ok {f : Int32 → Int32 → Int32} {x y : zv} {ux uy : Value} {k : zv → Bool} {re : zs_R → Bool} (h : zs_ar f rs x y k re = true) (hr : zs_ok ρ rs) (hx : zs_g ρ x ux) (hy : zs_g ρ y uy) : (∃ rs', re rs' = true ∧ zs_ok ρ rs') ∨ ∃ z a b, k z = true ∧ ux = .int a ∧ uy = .int b ∧ zs_g ρ z (.int (f a b)) := by
  unfold zs_ar at h
  obtain ⟨h1, h2⟩ := zs_bool h
  obtain ⟨h2, h3⟩ := zs_bool h2
  split at h3
  · obtain ⟨a, ha⟩ := zs_isI_of h1 hx
    obtain ⟨b, hb⟩ := zs_isI_of h2 hy
    exact Or.inr ⟨_, a, b, h3, ha, hb, _, rfl⟩
  · rcases zs_lv_ok h3 hr hy with q | ⟨b, h4, hb⟩
    · exact Or.inl q
    · rcases zs_lv_ok h4 hr hx with q | ⟨a, h5, ha⟩
      · exact Or.inl q
      · rw [zs_lit_eq] at h5
        refine Or.inr ⟨_, _, _, h5, ha, hb, ?_⟩
        show Value.int _ = Value.int _
        rw [Int32.ofInt_toInt]
theorem zs_arn_ok {f : Int32 → Int32 → Int32} {x y : zv} {ux uy : Value} {k : zv → Bool} {re : zs_R → Bool} (h : zs_arn f rs x y k re = true) (hr : zs_ok ρ rs) (hx : zs_g ρ x ux) (hy : zs_g ρ y uy) : (∃ rs', re rs' = true ∧ zs_ok ρ rs') ∨ ∃ z a b, k z = true ∧ ux = .int a ∧ uy = .int b ∧ b ≠ 0 ∧ zs_g ρ z (.int (f a b)) := by
  unfold zs_arn at h
  obtain ⟨h1, h2⟩ := zs_bool h
  rcases zs_lv_ok h2 hr hy with q | ⟨b, h4, hb⟩
  · exact Or.inl q
  · split at h4
    · cases h4
    · rename_i hb0
      have hb0 := of_decide_eq_false hb0
      split at h4
      · obtain ⟨a, ha⟩ := zs_isI_of h1 hx
        exact Or.inr ⟨_, a, _, h4, ha, hb, hb0, _, rfl⟩
      · rcases zs_lv_ok h4 hr hx with q | ⟨a, h5, ha⟩
        · exact Or.inl q
        · rw [zs_lit_eq] at h5
          refine Or.inr ⟨_, _, _, h5, ha, hb, hb0, ?_⟩
          show Value.int _ = Value.int _
          rw [Int32.ofInt_toInt]
theorem zs_i2l_ok {x : zv} {ux : Value} {k : zv → Bool} (h : zs_i2l rs x k = true) (hr : zs_ok ρ rs) (hx : zs_g ρ x ux) : ∃ z a, k z = true ∧ ux = .int a ∧ zs_g ρ z (.long a.toInt64) := by
  unfold zs_i2l at h
  split at h
  · exact ⟨_, _, h, hx, rfl⟩
  · split at h
    · rename_i j c a b ho
      obtain ⟨h1, h2⟩ := zs_bool h
      have hs := zs_sh_of ho hr
      refine ⟨_, _, h2, hx, ?_⟩
      show Value.long _ = Value.long _
      rw [← Int64.ofInt_int32ToInt, zs_in_of h1 hs.1 hs.2]
    · cases h
  · cases h
theorem zs_l2_ok {f : Int64 → Int64 → Int64} {x y : zv} {ux uy : Value} {k : zv → Bool} (h : zs_l2 f x y k = true) (hx : zs_g ρ x ux) (hy : zs_g ρ y uy) : ∃ z a b, k z = true ∧ ux = .long a ∧ uy = .long b ∧ zs_g ρ z (.long (f a b)) := by
  unfold zs_l2 at h
  split at h
  · split at h
    · exact ⟨_, _, _, h, hx, hy, rfl⟩
    · cases h
  · cases h
theorem zs_d3_of {p q : Int × Int} {z x y : Int} (h : zs_d3 p q = some z) (h1 : p.1 ≤ x) (h2 : x ≤ p.2) (h3 : q.1 ≤ y) (h4 : y ≤ q.2) : (z = -1 ∧ x < y) ∨ (z = 1 ∧ y < x) ∨ (z = 0 ∧ x = y) := by
  unfold zs_d3 at h
  cases e1 : zs_lt p.2 q.1 with
  | true =>
    rw [e1] at h
    cases h
    rw [zs_lt_iff] at e1
    exact Or.inl ⟨rfl, by omega⟩
  | false =>
    rw [e1] at h
    dsimp only at h
    rw [zs_lt_f] at e1
    cases e2 : zs_lt q.2 p.1 with
    | true =>
      rw [e2] at h
      cases h
      rw [zs_lt_iff] at e2
      exact Or.inr (Or.inl ⟨rfl, by omega⟩)
    | false =>
      rw [e2] at h
      dsimp only at h
      rw [zs_lt_f] at e2
      cases e3 : zs_le p.2 p.1 with
      | false =>
        rw [e3] at h
        cases h
      | true =>
        rw [e3] at h
        dsimp only at h
        rw [zs_le_iff] at e3
        cases e4 : zs_le q.2 q.1 with
        | false =>
          rw [e4] at h
          cases h
        | true =>
          rw [e4] at h
          cases h
          rw [zs_le_iff] at e4
          exact Or.inr (Or.inr ⟨rfl, by omega⟩)
theorem zs_lcmp_ok {x y : zv} {ux uy : Value} {k : zv → Bool} {re : zs_R → Bool} (h : zs_lcmp rs x y k re = true) (hr : zs_ok ρ rs) (hx : zs_g ρ x ux) (hy : zs_g ρ y uy) : (∃ rs', re rs' = true ∧ zs_ok ρ rs') ∨ ∃ z a b, k z = true ∧ ux = .long a ∧ uy = .long b ∧ zs_g ρ z (.int (lg_cmp a b)) := by
  unfold zs_lcmp at h
  split at h
  · rename_i p hp
    split at h
    · rename_i q hq
      obtain ⟨h1, h2⟩ := zs_bool h
      obtain ⟨h2, h3⟩ := zs_bool h2
      obtain ⟨a, ha, a1, a2⟩ := zs_jv_of (a := p.1) (b := p.2) hp h1 hr hx
      obtain ⟨b, hb, b1, b2⟩ := zs_jv_of (a := q.1) (b := q.2) hq h2 hr hy
      split at h3
      · rename_i z hz
        refine Or.inr ⟨_, a, b, h3, ha, hb, ?_⟩
        show Value.int _ = Value.int _
        unfold lg_cmp
        rcases zs_d3_of hz a1 a2 b1 b2 with ⟨rfl, c⟩ | ⟨rfl, c⟩ | ⟨rfl, c⟩
        · have e1 : ¬ a > b := by show ¬ b < a; rw [Int64.lt_iff_toInt_lt]; omega
          have e2 : ¬ a = b := fun e => by rw [e] at c; omega
          rw [if_neg e1, if_neg e2]
          rfl
        · have e1 : a > b := by show b < a; rw [Int64.lt_iff_toInt_lt]; omega
          rw [if_pos e1]
          rfl
        · have e0 : a = b := Int64.toInt_inj.mp c
          have e1 : ¬ a > b := by show ¬ b < a; rw [Int64.lt_iff_toInt_lt]; omega
          rw [if_neg e1, if_pos e0]
          rfl
      · split at h3
        · exact Or.inl (zs_cut_ok h3 hr)
        · split at h3
          · exact Or.inl (zs_cut_ok h3 hr)
          · cases h3
    · cases h
  · cases h
theorem zs_dec_of {op : ClassFile.Cond} {p q : Int × Int} {t : Bool} {X Y : Int32} {x y : Int} (h : zs_dec op p q = some t) (h1 : p.1 ≤ x) (h2 : x ≤ p.2) (h3 : q.1 ≤ y) (h4 : y ≤ q.2) (hx : X.toInt = x) (hy : Y.toInt = y) : zz_ic op X Y = t := by
  subst hx
  subst hy
  cases op with
  | eq =>
    simp only [zs_dec] at h
    split at h
    · rename_i z hz
      cases h
      simp only [zz_ic, ← Int32.toInt_inj]
      rcases zs_d3_of hz h1 h2 h3 h4 with ⟨rfl, c⟩ | ⟨rfl, c⟩ | ⟨rfl, c⟩
      · rw [decide_eq_false (by omega)]; rfl
      · rw [decide_eq_false (by omega)]; rfl
      · rw [decide_eq_true c]; rfl
    · cases h
  | ne =>
    simp only [zs_dec] at h
    split at h
    · rename_i z hz
      cases h
      simp only [zz_ic, ← Int32.toInt_inj]
      rcases zs_d3_of hz h1 h2 h3 h4 with ⟨rfl, c⟩ | ⟨rfl, c⟩ | ⟨rfl, c⟩
      · rw [decide_eq_false (by omega)]; rfl
      · rw [decide_eq_false (by omega)]; rfl
      · rw [decide_eq_true c]; rfl
    · cases h
  | lt =>
    simp only [zs_dec] at h
    simp only [zz_ic, Int32.lt_iff_toInt_lt]
    split at h
    · rename_i hq
      rw [zs_lt_iff] at hq
      cases h
      exact decide_eq_true (by omega)
    · split at h
      · rename_i hq
        rw [zs_le_iff] at hq
        cases h
        exact decide_eq_false (by omega)
      · cases h
  | ge =>
    simp only [zs_dec] at h
    simp only [zz_ic, Int32.le_iff_toInt_le]
    split at h
    · rename_i hq
      rw [zs_lt_iff] at hq
      cases h
      exact decide_eq_false (by omega)
    · split at h
      · rename_i hq
        rw [zs_le_iff] at hq
        cases h
        exact decide_eq_true (by omega)
      · cases h
  | gt =>
    simp only [zs_dec] at h
    simp only [zz_ic, Int32.lt_iff_toInt_lt]
    split at h
    · rename_i hq
      rw [zs_le_iff] at hq
      cases h
      exact decide_eq_false (by omega)
    · split at h
      · rename_i hq
        rw [zs_lt_iff] at hq
        cases h
        exact decide_eq_true (by omega)
      · cases h
  | le =>
    simp only [zs_dec] at h
    simp only [zz_ic, Int32.le_iff_toInt_le]
    split at h
    · rename_i hq
      rw [zs_le_iff] at hq
      cases h
      exact decide_eq_true (by omega)
    · split at h
      · rename_i hq
        rw [zs_lt_iff] at hq
        cases h
        exact decide_eq_false (by omega)
      · cases h
theorem zs_cmp_ok {op : ClassFile.Cond} {x y : zv} {ux uy : Value} {k : Bool → Bool} {re : zs_R → Bool} (h : zs_cmp op rs x y k re = true) (hr : zs_ok ρ rs) (hx : zs_g ρ x ux) (hy : zs_g ρ y uy) : (∃ rs', re rs' = true ∧ zs_ok ρ rs') ∨ ∃ X Y, ux = .int X ∧ uy = .int Y ∧ k (zz_ic op X Y) = true := by
  unfold zs_cmp at h
  split at h
  · rename_i p hp
    split at h
    · rename_i q hq
      obtain ⟨h1, h2⟩ := zs_bool h
      obtain ⟨h2, h3⟩ := zs_bool h2
      obtain ⟨a, ha, a1, a2⟩ := zs_iv_of (a := p.1) (b := p.2) hp hr hx
      obtain ⟨b, hb, b1, b2⟩ := zs_iv_of (a := q.1) (b := q.2) hq hr hy
      split at h3
      · rename_i t ht
        refine Or.inr ⟨_, _, ha, hb, ?_⟩
        rw [zs_dec_of ht a1 a2 b1 b2 (zs_in_of h1 a1 a2) (zs_in_of h2 b1 b2)]
        exact h3
      · split at h3
        · exact Or.inl (zs_cut_ok h3 hr)
        · split at h3
          · exact Or.inl (zs_cut_ok h3 hr)
          · cases h3
    · cases h
  · cases h
theorem zs_to_ok {pc : Nat} {off : Int} {k : Nat → Bool} (h : zs_to pc off k = true) : ∃ t, zz_tg pc off = some t ∧ k t = true := by
  unfold zs_to at h
  split at h
  · exact ⟨_, by assumption, h⟩
  · cases h
theorem zs_br_ok {pc : Nat} {off : Int} {k : Nat → Bool} {b : Bool} (h : zs_br pc off k b = true) : ∃ t, zz_br b pc off = some t ∧ k t = true := by
  unfold zs_br at h
  split at h
  · rename_i t ht
    unfold zz_br
    rw [ht]
    cases b with
    | true => exact ⟨t, rfl, h⟩
    | false => exact ⟨pc + 3, rfl, h⟩
  · cases h
theorem zz_if_ic (op : ClassFile.Cond) (x : Int32) : zz_if op x = zz_ic op x 0 := by cases op <;> rfl
theorem zs_tsw_ok {pc : Nat} {d lo hi : Int} {offs : Array Int} {v : zv} {u : Value} {r : List Value} {k : Nat → Bool} {re : zs_R → Bool} (h : zs_tsw pc d lo hi offs.toList rs v k re = true) (hr : zs_ok ρ rs) (hg : zs_g ρ v u) : (∃ rs', re rs' = true ∧ zs_ok ρ rs') ∨ ∃ t, k t = true ∧ zz_da (.tableswitch d lo hi offs) pc L (u :: r) = some (t, L, r) := by
  unfold zs_tsw at h
  split at h
  · rename_i p hp
    obtain ⟨h1, h2⟩ := zs_bool h
    obtain ⟨z, rfl, z1, z2⟩ := zs_iv_of (a := p.1) (b := p.2) hp hr hg
    have hz := zs_in_of h1 z1 z2
    split at h2
    · rename_i hc
      obtain ⟨t, ht, hk⟩ := zs_to_ok h2
      refine Or.inr ⟨t, hk, ?_⟩
      have hout : z < lo ∨ hi < z := by
        split at hc
        · rename_i hq; rw [zs_lt_iff] at hq; exact Or.inl (by omega)
        · rw [zs_lt_iff] at hc; exact Or.inr (by omega)
      simp only [zz_da]
      rw [hz, if_pos hout, ht]
      rfl
    · split at h2
      · rename_i hq
        rw [zs_le_iff] at hq
        rw [zs_nth_eq] at h2
        split at h2
        · rename_i off hoff
          obtain ⟨e1, h3⟩ := zs_bool h2
          obtain ⟨e2, h3⟩ := zs_bool h3
          rw [zs_le_iff] at e1 e2
          obtain ⟨t, ht, hk⟩ := zs_to_ok h3
          refine Or.inr ⟨t, hk, ?_⟩
          have hpz : p.1 = z := by omega
          simp only [zz_da]
          rw [hz, if_neg (by omega)]
          have hoff' : offs[(z - lo).toNat]? = some off := by
            rw [← hpz, ← Array.getElem?_toList]
            exact hoff
          rw [hoff']
          dsimp only
          rw [ht]
          rfl
        · cases h2
      · split at h2
        · split at h2
          · exact Or.inl (zs_cut_ok h2 hr)
          · split at h2
            · exact Or.inl (zs_cut_ok h2 hr)
            · exact Or.inl (zs_cut_ok h2 hr)
        · cases h2
  · cases h
theorem zs_fit_of {tc : Nat} {v : zv} {u : Value} (h : zs_fit tc v = true) (hg : zs_g ρ v u) : zz_fit tc u = true := by
  unfold zs_fit at h
  split at h
  · obtain ⟨x, rfl⟩ := zs_isI_of h hg
    rfl
  · split at h
    · rename_i x
      rw [show u = _ from hg]
      unfold zz_fit
      dsimp only
      split at h
      · rename_i hq
        rw [zs_eq_iff] at hq
        subst hq
        rfl
      · rw [zs_eq_iff] at h
        subst h
        rfl
    · cases h
  · unfold zs_isN at h
    split at h
    · rw [show u = _ from hg]; rfl
    · rw [show u = _ from hg]; rfl
    · cases h
  · obtain ⟨x, rfl⟩ := zs_isJ_of h hg
    rfl
  · cases h
theorem zs_some_ok {α : Type} {o : Option α} {k : α → Bool} (h : zs_some o k = true) : ∃ v, o = some v ∧ k v = true := by
  unfold zs_some at h
  split at h
  · exact ⟨_, rfl, h⟩
  · cases h
theorem zs_jx_ok {j : Int} {k : Nat → Bool} (h : zs_jx j k = true) : ∃ n : Nat, k n = true ∧ ¬ Int32.ofInt j < 0 ∧ (Int32.ofInt j).toNatClampNeg = n := by
  unfold zs_jx at h
  split at h
  · rename_i n
    obtain ⟨h1, h2⟩ := zs_bool h
    have h1 := Nat.le_of_ble_eq_true h1
    refine ⟨n, h2, ?_, ?_⟩
    · rw [Int32.lt_iff_toInt_lt]
      have := Int32.toInt_ofInt_of_le (n := Int.ofNat n) (by rw [Int.ofNat_eq_natCast]; omega) (by rw [Int.ofNat_eq_natCast]; omega)
      rw [this]
      show ¬ Int.ofNat n < 0
      rw [Int.ofNat_eq_natCast]
      omega
    · rw [Int32.toNatClampNeg_ofInt_of_le (by rw [Int.ofNat_eq_natCast]; omega) (by rw [Int.ofNat_eq_natCast]; omega)]
      rfl
  · cases h
theorem zs_tk_eq {α β : Type} : ∀ (n : Nat) (xs ys : List α) (k : List α → β), n ≤ xs.length → n ≤ ys.length → zs_tk n xs ys k = k (xs.take n ++ ys.drop n)
  | 0, xs, ys, k, _, _ => rfl
  | n + 1, x :: xs, y :: ys, k, h1, h2 => by
    show zs_tk n xs ys (fun r => k (x :: r)) = _
    rw [zs_tk_eq n xs ys _ (by simpa using h1) (by simpa using h2)]
    rfl
  | n + 1, [], _, _, h1, _ => by simp at h1
  | n + 1, _ :: _, [], _, _, h2 => by simp at h2
theorem zs_mm_ok {mx : Bool} {x y : zv} {ux uy : Value} {k : zv → Bool} {re : zs_R → Bool} (h : zs_mm mx rs x y k re = true) (hr : zs_ok ρ rs) (hx : zs_g ρ x ux) (hy : zs_g ρ y uy) : (∃ rs', re rs' = true ∧ zs_ok ρ rs') ∨ ∃ z a b, k z = true ∧ ux = .int a ∧ uy = .int b ∧ zs_g ρ z (.int (if mx = true then (if a < b then b else a) else (if b < a then b else a))) := by
  unfold zs_mm at h
  obtain ⟨h1, h2⟩ := zs_bool h
  obtain ⟨h2, h3⟩ := zs_bool h2
  split at h3
  · obtain ⟨a, ha⟩ := zs_isI_of h1 hx
    obtain ⟨b, hb⟩ := zs_isI_of h2 hy
    exact Or.inr ⟨_, a, b, h3, ha, hb, _, rfl⟩
  · rcases zs_lv_ok h3 hr hy with q | ⟨b, h4, hb⟩
    · exact Or.inl q
    · rcases zs_lv_ok h4 hr hx with q | ⟨a, h5, ha⟩
      · exact Or.inl q
      · obtain ⟨i1, h5⟩ := zs_bool h5
        obtain ⟨i2, h5⟩ := zs_bool h5
        refine Or.inr ⟨_, _, _, h5, ha, hb, ?_⟩
        have ea := zs_in_of i1 (Int.le_refl a) (Int.le_refl a)
        have eb := zs_in_of i2 (Int.le_refl b) (Int.le_refl b)
        show Value.int _ = Value.int _
        simp only [Int32.lt_iff_toInt_lt, ea, eb]
        cases mx with
        | true =>
          rw [if_pos rfl]
          unfold zs_if
          dsimp only
          cases hq : zs_lt a b with
          | true => rw [zs_lt_iff] at hq; rw [if_pos hq]
          | false => rw [zs_lt_f] at hq; rw [if_neg (by omega)]
        | false =>
          rw [if_neg (by simp)]
          unfold zs_if
          dsimp only
          cases hq : zs_lt b a with
          | true => rw [zs_lt_iff] at hq; rw [if_pos hq]
          | false => rw [zs_lt_f] at hq; rw [if_neg (by omega)]
end ZS2
