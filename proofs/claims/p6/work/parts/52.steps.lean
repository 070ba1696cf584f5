/-! the typed machine is sound: runs of the pure machine; one step -/
def tr_run (mi : zz_Mi) (σ : zz_S) (P : Option Value → zz_W → Prop) : Prop := ∃ n v cs', zz_ev n mi σ = some (v, cs') ∧ P v cs'
theorem zz_ev_mono : ∀ (n : Nat) {m : Nat} {mi : zz_Mi} {σ : zz_S} {r : Option Value × zz_W}, zz_ev n mi σ = some r → n ≤ m → zz_ev m mi σ = some r := by
  intro n
  induction n with
  | zero => intro m mi σ r h; cases h
  | succ n ih =>
    intro m mi σ r h hm
    obtain ⟨m', rfl⟩ : ∃ m', m = m' + 1 := ⟨m - 1, by omega⟩
    have hm' : n ≤ m' := by omega
    unfold zz_ev at h ⊢
    split at h
    · cases h
    · rename_i e hf
      split at h
      · rename_i σ' h1
        exact ih h hm'
      · split at h
        · exact h
        · split at h
          · cases h
          · rename_i mj hca
            split at h
            · cases h
            · rename_i hc
              split at h
              · cases h
              · rename_i v cs' h2
                rw [ih h2 hm']
                exact ih h hm'
theorem tr_mono {mi : zz_Mi} {σ : zz_S} {P Q : Option Value → zz_W → Prop} (h : tr_run mi σ P) (hPQ : ∀ v cs', P v cs' → Q v cs') : tr_run mi σ Q := by
  obtain ⟨n, v, cs', h1, h2⟩ := h
  exact ⟨n, v, cs', h1, hPQ v cs' h2⟩
theorem tr_both {mi : zz_Mi} {σ : zz_S} {P Q : Option Value → zz_W → Prop} (h : tr_run mi σ P) (h2 : tr_run mi σ Q) : tr_run mi σ (fun v cs => P v cs ∧ Q v cs) := by
  obtain ⟨n, v, cs', h1, hP⟩ := h
  obtain ⟨m, v2, cs2, h2, hQ⟩ := h2
  have e1 := zz_ev_mono n h1 (Nat.le_max_left n m)
  have e2 := zz_ev_mono m h2 (Nat.le_max_right n m)
  rw [e1] at e2
  cases e2
  exact ⟨n, v, cs', h1, hP, hQ⟩
theorem tr_one {mi : zz_Mi} {e : zz_I} {pc : Nat} {L : List (Option Value)} {st : List Value} {cs : zz_W} {σ' : zz_S} {P : Option Value → zz_W → Prop} (hf : zz_fetch mi.2.2.2.2.2.2.2.2 pc = some e) (h1 : zz_one mi.2.2.2.2.2.2.1 e (pc, L, st, cs, 0, 0) = some σ') (h : tr_run mi σ' P) : tr_run mi (pc, L, st, cs, 0, 0) P := by
  obtain ⟨n, v, cs', h2, h3⟩ := h
  refine ⟨n + 1, v, cs', ?_, h3⟩
  unfold zz_ev
  dsimp only
  rw [hf]
  dsimp only
  rw [h1]
  exact h2
theorem tr_ret {mi : zz_Mi} {e : zz_I} {pc : Nat} {L : List (Option Value)} {st : List Value} {cs : zz_W} {v : Option Value} {P : Option Value → zz_W → Prop} (hf : zz_fetch mi.2.2.2.2.2.2.2.2 pc = some e) (h1 : zz_one mi.2.2.2.2.2.2.1 e (pc, L, st, cs, 0, 0) = none) (h2 : zz_rt1 e.2.1 mi.2.2.2.1 st = some v) (h : P v cs) : tr_run mi (pc, L, st, cs, 0, 0) P := by
  refine ⟨1, v, cs, ?_, h⟩
  unfold zz_ev
  dsimp only
  rw [hf]
  dsimp only
  rw [h1]
  dsimp only
  rw [h2]
theorem tr_call {mi mj : zz_Mi} {e : zz_I} {pc : Nat} {L : List (Option Value)} {st : List Value} {cs : zz_W} {P P' : Option Value → zz_W → Prop} (hf : zz_fetch mi.2.2.2.2.2.2.2.2 pc = some e) (h1 : zz_one mi.2.2.2.2.2.2.1 e (pc, L, st, cs, 0, 0) = none) (h2 : zz_rt1 e.2.1 mi.2.2.2.1 st = none) (h3 : zz_ca e.2.1 e.2.2.2.1 st cs = some mj) (h4 : zz_cok2 mi.2.2.2.2.2.2.1 mj (pc, L, st, cs, 0, 0) = true) (h5 : mj.2.2.2.2.2.2.1.1 = 0 ∧ mj.2.2.2.2.2.2.1.2.1 = 0) (h : tr_run mj (0, zz_ent mj.2.2.1 (st.take (zz_cn mj)).reverse, [], cs, 0, 0) P') (hk : ∀ v cs', P' v cs' → tr_run mi (pc + 3, L, v.toList ++ st.drop (zz_cn mj), cs', 0, 0) P) : tr_run mi (pc, L, st, cs, 0, 0) P := by
  obtain ⟨n, v, cs', a1, a2⟩ := h
  obtain ⟨m, v2, cs2, b1, b2⟩ := hk v cs' a2
  refine ⟨max n m + 1, v2, cs2, ?_, b2⟩
  unfold zz_ev
  dsimp only
  rw [hf]
  dsimp only
  rw [h1]
  dsimp only
  rw [h2]
  dsimp only
  rw [h3]
  dsimp only
  rw [h4]
  dsimp only
  rw [zz_ev_mono n a1 (Nat.le_max_left n m)]
  dsimp only
  rw [h5.1, h5.2]
  exact zz_ev_mono m b1 (Nat.le_max_right n m)
section TS5
variable {ρ : List Int} {rs : tB} {F : tF} {tk : List Nat} {cs : zz_W} {A : tL} {L : List (Option Value)}
theorem t_cat_of {v : ta} {u : Value} (hg : tgv ρ v u) : u.category = if t_isL v = true then 2 else 1 := by
  match v, hg with
  | .inl x, ⟨_, hx, _⟩ => rw [hx]; rfl
  | .inr (.inl x), ⟨_, hx, _⟩ => rw [hx]; rfl
  | .inr (.inr (.inl r)), ⟨_, hx, _⟩ => rw [hx]; rfl
  | .inr (.inr (.inr _)), hg => exact hg
theorem t_css_of : ∀ {s : List ta} {t : List Value}, t_rS ρ s t → zz_ss t = t_css s
  | [], [], _ => rfl
  | v :: s, u :: t, h => by
    have ih := t_css_of h.2
    have hc := t_cat_of h.1
    unfold zz_ss at ih ⊢
    rw [List.map_cons, List.sum_cons, ih, hc]
    show _ = (match t_isL v with | true => Nat.succ (Nat.succ (t_css s)) | false => Nat.succ (t_css s))
    cases t_isL v
    · simp only [Bool.false_eq_true, if_false]
      omega
    · simp only [if_true]
      omega
  | [], _ :: _, h => h.elim
  | _ :: _, [], h => h.elim
theorem t_ld_of {j : Nat} {u : Value} (h : L[j]? = some (some u)) : zz_ld L j = some u := by
  unfold zz_ld
  rw [h]
theorem t_cl_of {i j : Nat} {u : Value} (h : L[i]? = some (some u)) (hn : ¬ (i + 1 = j ∧ u.category = 2)) : (zz_cl L j)[i]? = some (some u) := by
  cases j with
  | zero => exact h
  | succ j =>
    show (match zz_ld L j with | some w => if w.category = 2 then L.set j none else L | none => L)[i]? = some (some u)
    split
    · rename_i w hw
      split
      · rename_i hc
        have hij : j ≠ i := by
          intro q
          subst q
          rw [t_ld_of h] at hw
          cases hw
          exact hn ⟨rfl, hc⟩
        rw [List.getElem?_set_ne hij]
        exact h
      · exact h
    · exact h
theorem t_sto_ok {j : Nat} {v : ta} {u : Value} {k : tL → Bool} (h : t_sto A j v k = true) (hA : t_loc ρ A L) (hg : tgv ρ v u) : j < L.length ∧ k (A.set j v) = true ∧ ∀ (i : Nat) (t : ta), (A.set j v)[i]? = some t → t = t_top ∨ ∃ u', ((zz_cl L j).set j (some u))[i]? = some (some u') ∧ tgv ρ t u' := by
  unfold t_sto at h
  rw [t_nth_eq] at h
  cases ho : A[j]? with
  | none => rw [ho] at h; cases h
  | some o =>
    rw [ho] at h
    dsimp only at h
    have hj : j < A.length := (List.getElem?_eq_some_iff.mp ho).1
    split at h
    · cases h
    · rename_i hp
      rw [t_upd_eq] at h
      refine ⟨by rw [← hA.1]; exact hj, h, fun i t hi => ?_⟩
      by_cases hij : j = i
      · subst hij
        rw [List.getElem?_set_self hj] at hi
        cases hi
        exact Or.inr ⟨u, List.getElem?_set_self (by rw [zz_cl_len, ← hA.1]; exact hj), hg⟩
      · rw [List.getElem?_set_ne hij] at hi ⊢
        rcases hA.2 i t hi with q | ⟨u', hu', hg'⟩
        · exact Or.inl q
        · refine Or.inr ⟨u', t_cl_of hu' ?_, hg'⟩
          rintro ⟨q, hc⟩
          subst q
          replace hp : (match t_nth A i with | some w => t_isL w | none => true) = false := hp
          rw [t_nth_eq, hi] at hp
          replace hp : t_isL t = false := hp
          rw [t_cat_of hg', hp] at hc
          cases hc
theorem t_st1 {j : Nat} {v : ta} {u : Value} {k : tL → Bool} (h : t_sto A j v k = true) (hA : t_loc ρ A L) (hg : tgv ρ v u) (hc : u.category = 1) : j < L.length ∧ ∃ A', k A' = true ∧ t_loc ρ A' (zz_sv L j u) := by
  obtain ⟨h1, h2, h3⟩ := t_sto_ok h hA hg
  have e : zz_sv L j u = (zz_cl L j).set j (some u) := by unfold zz_sv; rw [if_neg (by omega)]
  refine ⟨h1, _, h2, by rw [e, List.length_set, List.length_set, zz_cl_len]; exact hA.1, fun i t hi => ?_⟩
  rw [e]
  exact h3 i t hi
theorem t_st2 {j : Nat} {v : ta} {z : Int64} {k : tL → Bool} (h : t_sto A j v (fun A' => match t_nth A' (Nat.succ j) with
      | some _ => t_upd A' (Nat.succ j) t_top k
      | none => false) = true) (hA : t_loc ρ A L) (hg : tgv ρ v (.long z)) : j + 1 < L.length ∧ ∃ A', k A' = true ∧ t_loc ρ A' (zz_sv L j (.long z)) := by
  obtain ⟨h1, h2, h3⟩ := t_sto_ok h hA hg
  rw [t_nth_eq] at h2
  cases ho : (A.set j v)[Nat.succ j]? with
  | none => rw [ho] at h2; cases h2
  | some o =>
    rw [ho] at h2
    dsimp only at h2
    rw [t_upd_eq] at h2
    have hj : j + 1 < (A.set j v).length := (List.getElem?_eq_some_iff.mp ho).1
    rw [List.length_set, hA.1] at hj
    have e : zz_sv L j (.long z) = ((zz_cl L j).set j (some (.long z))).set (j + 1) none := rfl
    refine ⟨hj, _, h2, by rw [e, List.length_set, List.length_set, List.length_set, List.length_set, zz_cl_len]; exact hA.1, fun i t hi => ?_⟩
    rw [e]
    by_cases hij : j + 1 = i
    · subst hij
      rw [List.getElem?_set_self (by rw [List.length_set, hA.1]; exact hj)] at hi
      cases hi
      exact Or.inl rfl
    · rw [List.getElem?_set_ne hij] at hi ⊢
      exact h3 i t hi
theorem t_ldI_ok {j : Nat} {k : ta → Bool} (h : t_ldI A j k = true) (hA : t_loc ρ A L) : ∃ v z, k v = true ∧ zz_ld L j = some (.int z) ∧ tgv ρ v (.int z) := by
  unfold t_ldI at h
  rw [t_nth_eq] at h
  split at h
  · rename_i x hx
    rcases hA.2 _ _ hx with q | ⟨u, h1, z, rfl, h2⟩
    · cases q
    · exact ⟨_, z, h, t_ld_of h1, z, rfl, h2⟩
  · cases h
theorem t_ldJ_ok {j : Nat} {k : ta → Bool} (h : t_ldJ A j k = true) (hA : t_loc ρ A L) : ∃ v z, k v = true ∧ zz_ld L j = some (.long z) ∧ tgv ρ v (.long z) := by
  unfold t_ldJ at h
  rw [t_nth_eq] at h
  split at h
  · rename_i x hx
    rcases hA.2 _ _ hx with q | ⟨u, h1, z, rfl, h2⟩
    · cases q
    · exact ⟨_, z, h, t_ld_of h1, z, rfl, h2⟩
  · cases h
theorem t_ldA_ok {j : Nat} {k : ta → Bool} (h : t_ldA A j k = true) (hA : t_loc ρ A L) : ∃ v z, k v = true ∧ zz_ld L j = some (.ref z) ∧ tgv ρ v (.ref z) := by
  unfold t_ldA at h
  rw [t_nth_eq] at h
  split at h
  · rename_i x hx
    rcases hA.2 _ _ hx with q | ⟨u, h1, z, rfl, h2⟩
    · cases q
    · exact ⟨_, z, h, t_ld_of h1, z, rfl, h2⟩
  · cases h
theorem t_i2_ok {f : tB → tT → tT → (tT → Bool) → Bool} {st : List ta} {t : List Value} {k : List ta → Bool} (h : t_i2 f rs st k = true) (hS : t_rS ρ st t) : ∃ x y s a b t', t = .int b :: .int a :: t' ∧ tg ρ x a.toInt ∧ tg ρ y b.toInt ∧ t_rS ρ s t' ∧ f rs x y (fun z => k (.inl z :: s)) = true := by
  unfold t_i2 at h
  split at h
  · obtain ⟨u, t1, rfl, ⟨b, rfl, hb⟩, hS1⟩ := t_rS_cons hS
    obtain ⟨u2, t2, rfl, ⟨a, rfl, ha⟩, hS2⟩ := t_rS_cons hS1
    exact ⟨_, _, _, a, b, t2, rfl, ha, hb, hS2, h⟩
  · cases h
theorem t_j2_ok {f : tB → tT → tT → (tT → Bool) → Bool} {st : List ta} {t : List Value} {k : List ta → Bool} (h : t_j2 f rs st k = true) (hS : t_rS ρ st t) : ∃ x y s a b t', t = .long b :: .long a :: t' ∧ tg ρ x a.toInt ∧ tg ρ y b.toInt ∧ t_rS ρ s t' ∧ f rs x y (fun z => k (.inr (.inl z) :: s)) = true := by
  unfold t_j2 at h
  split at h
  · obtain ⟨u, t1, rfl, ⟨b, rfl, hb⟩, hS1⟩ := t_rS_cons hS
    obtain ⟨u2, t2, rfl, ⟨a, rfl, ha⟩, hS2⟩ := t_rS_cons hS1
    exact ⟨_, _, _, a, b, t2, rfl, ha, hb, hS2, h⟩
  · cases h
theorem t_to_ok {pc : Nat} {off : Int} {k : Nat → Bool} (h : t_to pc off k = true) : ∃ t, zz_tg pc off = some t ∧ k t = true := by
  unfold t_to at h
  split at h
  · rename_i t ht
    rw [t_fn_eq] at h
    exact ⟨t, ht, h⟩
  · cases h
theorem t_br_ok {op : ClassFile.Cond} {off : Int} {pc : Nat} {x y : tT} {z w : Int} {k : Nat → tB → Bool} (h : t_br op off pc rs x y k = true) (hr : t_okr ρ rs) (hx : tg ρ x z) (hy : tg ρ y w) : ∃ t rs', zz_br (t_rel op z w) pc off = some t ∧ t_okr ρ rs' ∧ k t rs' = true := by
  unfold t_br at h
  split at h
  · rename_i tt ht
    obtain ⟨rs', h1, h2⟩ := t_cmp_ok h hr hx hy
    unfold zz_br
    rw [ht]
    dsimp only
    cases hb : t_rel op z w with
    | true =>
      rw [hb] at h2
      dsimp only at h2
      rw [t_fn_eq] at h2
      exact ⟨tt, rs', rfl, h1, h2⟩
    | false =>
      rw [hb] at h2
      dsimp only at h2
      unfold t_nx at h2
      rw [t_fn_eq] at h2
      exact ⟨pc + 3, rs', rfl, h1, h2⟩
  · cases h
theorem t_cases_ok {f : Nat → Int → Bool} : ∀ {offs : List Int} {n : Nat}, (List.rec (motive := fun _ => Nat → Bool) (fun _ => true) (fun o _ ih i => match f i o with
  | true => ih (Nat.succ i)
  | false => false) offs n : Bool) = true → ∀ (i : Nat) (o : Int), offs[i]? = some o → f (n + i) o = true
  | [], n, _, i, o, ho => by simp at ho
  | a :: offs, n, h, i, o, ho => by
    replace h : (match f n a with | true => (List.rec (motive := fun _ => Nat → Bool) (fun _ => true) (fun o _ ih i => match f i o with
      | true => ih (Nat.succ i)
      | false => false) offs (Nat.succ n) : Bool) | false => false) = true := h
    obtain ⟨h1, h2⟩ := t_bool h
    cases i with
    | zero =>
      cases ho
      exact h1
    | succ i =>
      rw [List.getElem?_cons_succ] at ho
      have := t_cases_ok h2 i o ho
      rw [show n + (i + 1) = Nat.succ n + i by omega]
      exact this
theorem t_tsw_ok {d lo hi : Int} {offs : Array Int} {pc : Nat} {x : tT} {z : Int32} {t : List Value} {k : Nat → tB → Bool} (h : t_tsw d lo hi offs.toList pc rs x k = true) (hr : t_okr ρ rs) (hx : tg ρ x z.toInt) : ∃ t' rs', zz_da (.tableswitch d lo hi offs) pc L (.int z :: t) = some (t', L, t) ∧ t_okr ρ rs' ∧ k t' rs' = true := by
  unfold t_tsw at h
  split at h
  · rename_i p q hiv
    rw [t_and_iff, t_and_iff, t_le_iff, t_len_eq] at h
    obtain ⟨⟨h0, h1⟩, h2⟩ := h
    have hb := t_iv_ok hiv hr hx
    simp only [zz_da]
    by_cases hc : z.toInt < lo ∨ hi < z.toInt
    · rw [if_pos hc]
      split at h1
      · rename_i h3
        rw [t_and_iff, t_le_iff, t_le_iff] at h3
        omega
      · obtain ⟨t', h3, h4⟩ := t_to_ok h1
        rw [h3]
        exact ⟨t', rs, rfl, hr, h4⟩
    · rw [if_neg hc]
      replace h0 : hi - lo ≤ (offs.toList.length : Int) - 1 := h0
      have hl : (z.toInt - lo).toNat < offs.toList.length := by omega
      have hl2 : (z.toInt - lo).toNat < offs.size := by rw [← Array.length_toList]; exact hl
      have h3 := t_cases_ok (n := 0) h2 (z.toInt - lo).toNat offs.toList[(z.toInt - lo).toNat] (List.getElem?_eq_getElem hl)
      rw [Nat.zero_add, t_fi_eq] at h3
      have e : Int.add lo (Int.ofNat (z.toInt - lo).toNat) = z.toInt := by
        show lo + (((z.toInt - lo).toNat : Nat) : Int) = _
        rw [Int.toNat_of_nonneg (by omega)]
        omega
      rw [e] at h3
      obtain ⟨rs', h4, h5⟩ := t_equ_ok h3 hr hx (tg_c (Int.le_refl _) (Int.le_refl _)) rfl
      obtain ⟨t', h6, h7⟩ := t_to_ok h4
      rw [Array.getElem?_eq_getElem hl2]
      dsimp only
      rw [← Array.getElem_toList, h6]
      exact ⟨t', rs', rfl, h5, h7⟩
  · cases h
theorem t_off_mem (d z : Int) : ∀ (l : List (Int × Int)), Op.lookupswitch.offset l d z = d ∨ ∃ q ∈ l, Op.lookupswitch.offset l d z = q.2
  | [] => Or.inl rfl
  | (a, o) :: r => by
    rw [Op.lookupswitch.offset_cons]
    split
    · exact Or.inr ⟨(a, o), List.mem_cons_self, rfl⟩
    · rcases t_off_mem d z r with q | ⟨q, h1, h2⟩
      · exact Or.inl q
      · exact Or.inr ⟨q, List.mem_cons_of_mem _ h1, h2⟩
end TS5
