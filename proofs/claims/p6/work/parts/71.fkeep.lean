/-! the functional view: what never changes is kept by every run; what an answer is -/
theorem f_ix {j : Int32} {n : Nat} (h : zz_ix j n = true) : 0 ≤ j.toInt ∧ j.toNatClampNeg < n ∧ ((j.toNatClampNeg : Nat) : Int) = j.toInt := by
  simp only [zz_ix, Bool.and_eq_true, Bool.not_eq_true', decide_eq_false_iff_not, decide_eq_true_eq] at h
  obtain ⟨h1, h2⟩ := h
  rw [Int32.lt_iff_toInt_lt] at h1
  have h3 : ¬ j.toInt < 0 := h1
  refine ⟨by omega, h2, ?_⟩
  show ((j.toInt.toNat : Nat) : Int) = _
  rw [Int.toNat_of_nonneg (by omega)]
theorem f_fit {tc : Nat} {v : Value} (h : zz_fit tc v = true) (h3 : Nat.beq tc 3 = false) : v.category = 1 := by
  unfold zz_fit at h
  split at h
  · split at h <;> first | rfl | cases h
  · split at h <;> first | rfl | cases h
  · split at h <;> first | rfl | cases h
  · cases h3
  · cases h
theorem fx_db {ins : Instr} {len pc0 : Nat} {r : List Nat} {v0 : Value} {pc pc' : Nat} {L L' : List (Option Value)} {st st' : List Value} {cs cs' : zz_W} (h : zz_db ins r v0 pc L st cs = some (pc', L', st', cs')) (ho : f_okI (pc0, ins, len, r, v0) = true) (hF : fFX cs) : fFX cs' := by
  unfold zz_db at h
  split at h
  · split at h
    · split at h
      · split at h
        · split at h
          · split at h
            · cases h
              exact hF
            · cases h
          · cases h
        · cases h
      · cases h
    · cases h
  · split at h
    · rename_i ci k w tc
      split at h
      · split at h
        · rename_i cj fs hc
          split at h
          · rename_i hq
            cases h
            obtain ⟨q1, q2, q3⟩ := hq
            subst q1
            simp only [f_okI, Bool.and_eq_true, Bool.not_eq_true', Option.isNone_iff_eq_none] at ho
            exact (f_put hF hc q2 ho.1 (f_fit q3 ho.2)).1
          · cases h
        · cases h
      · cases h
    · cases h
  · split at h
    · split at h
      · split at h
        · cases h
          exact hF
        · cases h
      · cases h
    · cases h
  · split at h
    · split at h
      · rename_i hc
        split at h
        · rename_i hq
          cases h
          exact (f_sti hF hc (f_ix hq).2.1).1
        · cases h
      · cases h
    · cases h
  · split at h
    · split at h
      · split at h
        · cases h
          exact hF
        · cases h
      · cases h
    · cases h
  · split at h
    · rename_i t ci w
      split at h
      · split at h
        · rename_i hc
          split at h
          · split at h
            · rename_i hq
              cases h
              obtain ⟨q1, q2, q3⟩ := hq
              subst q1
              simp only [f_okI, Option.isNone_iff_eq_none] at ho
              exact (f_sta hF hc (f_ix q3).2.1 ho).1
            · cases h
          · cases h
        · cases h
      · cases h
    · cases h
  · split at h
    · split at h
      · cases h
        exact hF
      · split at h
        · cases h
          exact hF
        · cases h
      · cases h
    · cases h
  · cases h
    exact hF
  · cases h
    exact hF
  · cases h
    exact hF
  · cases h
theorem fx_al {ins : Instr} {len pc0 : Nat} {r : List Nat} {v0 : Value} {a b pc cu su : Nat} {L : List (Option Value)} {st : List Value} {cs : zz_W} (ho : f_okI (pc0, ins, len, r, v0) = true) : zz_al ins r a b pc L st cs cu su = none := by
  unfold zz_al
  split
  · cases ho
  · cases ho
  · cases ho
  · cases ho
  · rfl
theorem f_neg {n : Int32} (h : ¬ n < 0) : ((n.toNatClampNeg : Nat) : Int) = n.toInt := by
  rw [Int32.lt_iff_toInt_lt] at h
  have h3 : ¬ n.toInt < 0 := h
  show ((n.toInt.toNat : Nat) : Int) = _
  rw [Int.toNat_of_nonneg (by omega)]
theorem fx_na {ins : Instr} {r : List Nat} {fr lo pc pc' : Nat} {L L' : List (Option Value)} {st st' : List Value} {cs cs' : zz_W} (h : zz_na ins r fr lo pc L st cs = some (pc', L', st', cs')) (hF : fFX cs) : fFX cs' := by
  unfold zz_na at h
  split at h
  · split at h
    · split at h
      · split at h
        · cases h
          exact hF
        · cases h
      · cases h
    · cases h
  · split at h
    · split at h
      · split at h
        · cases h
          exact hF
        · cases h
      · cases h
    · split at h
      · split at h
        · cases h
          exact hF
        · cases h
      · cases h
    · split at h
      · split at h
        · rename_i hi
          split at h
          · rename_i hj
            split at h
            · rename_i hq
              cases h
              exact (f_cpy hF hi hj hq.2.2.2.2.2.1 hq.2.2.2.2.2.2).1
            · cases h
          · cases h
        · cases h
      · cases h
    · cases h
  · cases h
theorem fx_one {q : Nat × Nat × Nat × Nat} {e : zz_I} {pc : Nat} {L : List (Option Value)} {st : List Value} {cs : zz_W} {cu su : Nat} {σ' : zz_S} (h : zz_one q e (pc, L, st, cs, cu, su) = some σ') (ho : f_okI e = true) (hF : fFX cs) : fFX σ'.2.2.2.1 := by
  obtain ⟨p, ins, len, r, v0⟩ := e
  simp only [zz_one] at h
  split at h
  · cases h
    exact hF
  · split at h
    · rename_i hd
      cases h
      exact fx_db hd ho hF
    · rw [fx_al ho] at h
      dsimp only at h
      split at h
      · rename_i hd
        cases h
        exact fx_na hd hF
      · cases h
theorem f_alt_in {ci k w : Nat} : ∀ {l : List Nat}, zz_alt ci l = some (k, w) → k ∈ f_alts l
  | [], h => by cases h
  | [_], h => by cases h
  | [_, _], h => by cases h
  | a :: k' :: w' :: r, h => by
    unfold zz_alt at h
    split at h
    · cases h
      exact List.mem_cons_self
    · exact List.mem_cons_of_mem _ (f_alt_in h)
theorem f_call {ins : Instr} {r : List Nat} {st : List Value} {cs : zz_W} {mj : zz_Mi} (h : zz_ca ins r st cs = some mj) : ∃ k ∈ f_tg r, zz_mts[k]? = some mj := by
  unfold zz_ca at h
  split at h
  · split at h
    · exact ⟨_, List.mem_cons_self, h⟩
    · exact ⟨_, List.mem_cons_self, h⟩
    · cases h
  · split at h
    all_goals first
      | cases h; done
      | (split at h
         · rename_i hm
           split at h
           · cases h
             exact ⟨_, List.mem_cons_self, hm⟩
           · cases h
         · cases h)
  · split at h
    · split at h
      · rename_i hm
        split at h
        · split at h
          · cases h
            exact ⟨_, List.mem_cons_self, hm⟩
          · cases h
        · cases h
      · cases h
    · split at h
      · rename_i hm
        split at h
        · split at h
          · cases h
            exact ⟨_, List.mem_cons_self, hm⟩
          · cases h
        · cases h
      · cases h
    · split at h
      · split at h
        · split at h
          · rename_i ha
            split at h
            · rename_i hm
              split at h
              · cases h
                exact ⟨_, f_alt_in ha, hm⟩
              · cases h
            · cases h
          · cases h
        · cases h
      · cases h
    · cases h
  · cases h
theorem f_tgok {pc0 len : Nat} {ins : Instr} {r : List Nat} {v0 : Value} {st : List Value} {cs : zz_W} {mj : zz_Mi} (h : zz_ca ins r st cs = some mj) (ho : f_okI (pc0, ins, len, r, v0) = true) : ∃ k, f_ok k = true ∧ zz_mts[k]? = some mj := by
  obtain ⟨k, hk, hm⟩ := f_call h
  refine ⟨k, ?_, hm⟩
  have hall : (f_tg r).all f_ok = true := by
    unfold zz_ca at h
    split at h
    · split at h
      · exact ho
      · exact ho
      · cases h
    · exact ho
    · exact ho
    · cases h
  exact List.all_eq_true.mp hall k hk
/-- a run, one step at a time -/
theorem f_cut {m : Nat} {mi : zz_Mi} {pc : Nat} {L : List (Option Value)} {t : List Value} {cs : zz_W} {cu su : Nat} {v : Option Value} {cs' : zz_W} (h : zz_ev m mi (pc, L, t, cs, cu, su) = some (v, cs')) : ∃ m0 e, m = m0 + 1 ∧ zz_fetch mi.2.2.2.2.2.2.2.2 pc = some e ∧ ((∃ σ', zz_one mi.2.2.2.2.2.2.1 e (pc, L, t, cs, cu, su) = some σ' ∧ zz_ev m0 mi σ' = some (v, cs')) ∨ (zz_one mi.2.2.2.2.2.2.1 e (pc, L, t, cs, cu, su) = none ∧ zz_rt1 e.2.1 mi.2.2.2.1 t = some v ∧ cs' = cs) ∨ (zz_one mi.2.2.2.2.2.2.1 e (pc, L, t, cs, cu, su) = none ∧ zz_rt1 e.2.1 mi.2.2.2.1 t = none ∧ ∃ mj w cs1, zz_ca e.2.1 e.2.2.2.1 t cs = some mj ∧ zz_ev m0 mj (0, zz_ent mj.2.2.1 (t.take (zz_cn mj)).reverse, [], cs, 0, 0) = some (w, cs1) ∧ zz_ev m0 mi (pc + 3, L, w.toList ++ t.drop (zz_cn mj), cs1, cu + mj.2.2.2.2.2.2.1.1, su + mj.2.2.2.2.2.2.1.2.1) = some (v, cs'))) := by
  match m, h with
  | 0, h => cases h
  | m0 + 1, h =>
    unfold zz_ev at h
    split at h
    · cases h
    · rename_i e he
      refine ⟨m0, e, rfl, he, ?_⟩
      split at h
      · rename_i σ' h1
        exact Or.inl ⟨σ', h1, h⟩
      · rename_i h1
        split at h
        · rename_i w h2
          cases h
          exact Or.inr (Or.inl ⟨h1, h2, rfl⟩)
        · rename_i h2
          split at h
          · cases h
          · rename_i mj h3
            split at h
            · cases h
            · split at h
              · cases h
              · rename_i w cs1 h4
                exact Or.inr (Or.inr ⟨h1, h2, mj, w, cs1, h3, h4, h⟩)
theorem fx_ev : ∀ (m : Nat) (mi : zz_Mi) (pc : Nat) (L : List (Option Value)) (t : List Value) (cs : zz_W) (cu su : Nat) (v : Option Value) (cs' : zz_W), f_okM mi = true → fFX cs → zz_ev m mi (pc, L, t, cs, cu, su) = some (v, cs') → fFX cs'
  | 0, mi, pc, L, t, cs, cu, su, v, cs', _, _, h => by cases h
  | m + 1, mi, pc, L, t, cs, cu, su, v, cs', ho, hF, h => by
    obtain ⟨m0, e, hm, he, h1 | h1 | h1⟩ := f_cut h
    · obtain ⟨⟨pc', L', t', cs1, cu', su'⟩, h2, h3⟩ := h1
      have : m0 = m := by omega
      subst this
      exact fx_ev m0 mi pc' L' t' cs1 cu' su' v cs' ho (fx_one h2 (f_oke ho he) hF) h3
    · rw [h1.2.2]
      exact hF
    · obtain ⟨h2, h3, mj, w, cs1, h4, h5, h6⟩ := h1
      have : m0 = m := by omega
      subst this
      obtain ⟨pc0, ins, len, r, v0⟩ := e
      obtain ⟨k, hk, hkm⟩ := f_tgok h4 (f_oke ho he)
      exact fx_ev m0 mi _ _ _ cs1 _ _ v cs' ho (fx_ev m0 mj _ _ _ cs _ _ w cs1 (f_okm hkm hk) hF h5) h6
/-- the tag of an answer -/
def f_rtg (r : Option FieldType) : Option Nat := match r with
  | none => none
  | some .long => some 1
  | some _ => some 0
def f_rok (a : Option Nat) (v : Option Value) : Prop := match a with
  | none => v = none
  | some 1 => ∃ u, v = some u ∧ u.category = 2
  | some _ => ∃ u, v = some u ∧ u.category = 1
theorem f_ret {ins : Instr} {r : Option FieldType} {t : List Value} {v : Option Value} (h : zz_rt1 ins r t = some v) : f_rok (f_rtg r) v := by
  unfold zz_rt1 at h
  split at h
  · split at h
    · split at h
      · cases h
        exact ⟨_, rfl, rfl⟩
      · split at h
        · cases h
          exact ⟨_, rfl, rfl⟩
        · cases h
      · cases h
    · cases h
  · split at h
    · split at h
      · cases h
        exact ⟨_, rfl, rfl⟩
      · cases h
    · cases h
  · split at h
    · split at h
      · cases h
        rfl
      · cases h
    · cases h
  · cases h
theorem f_ret_ev : ∀ (m : Nat) (mi : zz_Mi) (σ : zz_S) (v : Option Value) (cs' : zz_W), zz_ev m mi σ = some (v, cs') → f_rok (f_rtg mi.2.2.2.1) v
  | 0, _, _, _, _, h => by cases h
  | m + 1, mi, σ, v, cs', h => by
    obtain ⟨pc, L, t, cs, cu, su⟩ := σ
    obtain ⟨m0, e, hm, he, h1 | h1 | h1⟩ := f_cut h
    · obtain ⟨σ', h2, h3⟩ := h1
      have : m0 = m := by omega
      subst this
      exact f_ret_ev m0 mi σ' v cs' h3
    · exact f_ret h1.2.1
    · obtain ⟨h2, h3, mj, w, cs1, h4, h5, h6⟩ := h1
      have : m0 = m := by omega
      subst this
      exact f_ret_ev m0 mi _ v cs' h6
