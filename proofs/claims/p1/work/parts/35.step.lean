/-! the abstract machine is sound: a step -/
section ZS3
variable {ρ : Nat → Int} {rs : zs_R} {A A' : zs_L} {L L' : List (Option Value)} {st s' : List zv} {t t' : List Value} {w w' : zs_W} {cs cs' : zz_W} {N pc pc' : Nat} {q : Nat × Nat × Nat × Nat} {e : zz_I} {k : Nat → zs_L → List zv → zs_W → Bool} {re : zs_R → Bool} {dflt : Bool}
def zs_D (ρ : Nat → Int) (N : Nat) (q : Nat × Nat × Nat × Nat) (e : zz_I) (pc : Nat) (L : List (Option Value)) (t : List Value) (cs : zz_W) (k : Nat → zs_L → List zv → zs_W → Bool) (re : zs_R → Bool) (dflt : Bool) : Prop := (∃ rs', re rs' = true ∧ zs_ok ρ rs') ∨ (∃ pc' A' s' w' L' t' cs', k pc' A' s' w' = true ∧ zs_rL ρ A' L' ∧ zs_rS ρ s' t' ∧ zs_rW ρ N w' cs' ∧ ∀ cu su : Nat, zz_one q e (pc, L, t, cs, cu, su) = some (pc', L', t', cs', cu, su)) ∨ dflt = true
theorem zs_D.da (hk : k pc' A' s' w = true) (hA : zs_rL ρ A' L') (hS : zs_rS ρ s' t') (hW : zs_rW ρ N w cs) (hd : zz_da e.2.1 pc L t = some (pc', L', t')) : zs_D ρ N q e pc L t cs k re dflt :=
  Or.inr (Or.inl ⟨pc', A', s', w, L', t', cs, hk, hA, hS, hW, fun cu su => by simp only [zz_one, hd]⟩)
theorem zs_D.db (hk : k pc' A' s' w' = true) (hA : zs_rL ρ A' L') (hS : zs_rS ρ s' t') (hW : zs_rW ρ N w' cs') (h0 : zz_da e.2.1 pc L t = none) (hd : zz_db e.2.1 e.2.2.2.1 e.2.2.2.2 pc L t cs = some (pc', L', t', cs')) : zs_D ρ N q e pc L t cs k re dflt :=
  Or.inr (Or.inl ⟨pc', A', s', w', L', t', cs', hk, hA, hS, hW, fun cu su => by simp only [zz_one, h0, hd]⟩)
theorem zs_D.na (hk : k pc' A' s' w' = true) (hA : zs_rL ρ A' L') (hS : zs_rS ρ s' t') (hW : zs_rW ρ N w' cs') (h0 : zz_da e.2.1 pc L t = none) (h1 : zz_db e.2.1 e.2.2.2.1 e.2.2.2.2 pc L t cs = none) (h2 : ∀ cu su : Nat, zz_al e.2.1 e.2.2.2.1 q.1 q.2.1 pc L t cs cu su = none) (hd : zz_na e.2.1 e.2.2.2.1 q.2.2.1 q.2.2.2 pc L t cs = some (pc', L', t', cs')) : zs_D ρ N q e pc L t cs k re dflt :=
  Or.inr (Or.inl ⟨pc', A', s', w', L', t', cs', hk, hA, hS, hW, fun cu su => by simp only [zz_one, h0, h1, h2, hd]⟩)
theorem zs_rS_mk {v : zv} {u : Value} (h1 : zs_g ρ v u) (h2 : zs_rS ρ st t) : zs_rS ρ (v :: st) (u :: t) := ⟨h1, h2⟩
theorem zs_cell_of {i : Nat} {d : zz_C} (h : cs[i]? = some (some d)) : zz_cell cs i = some d := by
  unfold zz_cell
  rw [h]
theorem zs_ob_ok {ci : Nat} {v : zv} {u : Value} {k : Nat → List zv → Bool} (h : zs_ob w ci v k = true) (hW : zs_rW ρ N w cs) (hg : zs_g ρ v u) : ∃ i fs us, u = .ref i ∧ zs_get w i = some (.inr (.inr (ci, fs))) ∧ zz_cell cs i = some (.inr (.inr (ci, us))) ∧ zs_rS ρ fs us ∧ k i fs = true := by
  unfold zs_ob at h
  split at h
  · rename_i i
    split at h
    · rename_i cj fs hget
      obtain ⟨h1, h2⟩ := zs_bool h
      have e1 := Nat.eq_of_beq_eq_true h1
      subst e1
      obtain ⟨d, hd, hc⟩ := hW.2 _ _ hget
      match d, hd, hc with
      | .inr (.inr (m, us)), hd, ⟨hc1, hc2⟩ =>
        subst hc1
        refine ⟨i, fs, us, hg, hget, ?_, hc2, h2⟩
        unfold zz_cell
        rw [hd]
    · cases h
  · cases h
theorem zs_ia_ok {v : zv} {u : Value} {k : Nat → List zv → Bool} (h : zs_ia w v k = true) (hW : zs_rW ρ N w cs) (hg : zs_g ρ v u) : ∃ i xs ys, u = .ref i ∧ zs_get w i = some (.inl xs) ∧ zz_cell cs i = some (.inl ys) ∧ zs_rS ρ xs (ys.map Value.int) ∧ k i xs = true := by
  unfold zs_ia at h
  split at h
  · rename_i i
    split at h
    · rename_i xs hget
      obtain ⟨d, hd, hc⟩ := hW.2 _ _ hget
      match d, hd, hc with
      | .inl ys, hd, hc =>
        refine ⟨i, xs, ys, hg, hget, ?_, hc, h⟩
        unfold zz_cell
        rw [hd]
    · cases h
  · cases h
theorem zs_ra_ok {v : zv} {u : Value} {k : Nat → List (Option Nat) → Bool} (h : zs_ra w v k = true) (hW : zs_rW ρ N w cs) (hg : zs_g ρ v u) : ∃ i tt xs, u = .ref i ∧ zz_cell cs i = some (.inr (.inl (tt, xs))) ∧ k tt xs = true := by
  unfold zs_ra at h
  split at h
  · rename_i i
    split at h
    · rename_i tt xs hget
      obtain ⟨d, hd, hc⟩ := hW.2 _ _ hget
      match d, hd, hc with
      | .inr (.inl q'), hd, hc =>
        refine ⟨i, tt, xs, hg, ?_, h⟩
        unfold zz_cell
        rw [hd]
        show some (Sum.inr (Sum.inl q')) = _
        rw [← show _ = q' from hc]
    · cases h
  · cases h
theorem zs_ix_of {j : Int32} {n m : Nat} (h1 : ¬ j < 0) (h2 : j.toNatClampNeg = n) (h3 : n < m) : zz_ix j m = true := by
  unfold zz_ix
  rw [decide_eq_false h1, decide_eq_true (by omega)]
  rfl
theorem zs_ints_nth {xs : List zv} {ys : List Int32} {n : Nat} {v : zv} (h : zs_rS ρ xs (ys.map Value.int)) (hv : xs[n]? = some v) : n < ys.length ∧ zs_g ρ v (.int (ys.getD n 0)) := by
  obtain ⟨u, hu, hg⟩ := zs_rS_nth h hv
  rw [List.getElem?_map] at hu
  cases hy : ys[n]? with
  | none => rw [hy] at hu; cases hu
  | some y =>
    rw [hy] at hu
    cases hu
    refine ⟨(List.getElem?_eq_some_iff.mp hy).1, ?_⟩
    rw [List.getD_eq_getElem?_getD, hy]
    exact hg
theorem zs_ints_len {xs : List zv} {ys : List Int32} (h : zs_rS ρ xs (ys.map Value.int)) : xs.length = ys.length := by
  rw [zs_rS_len h, List.length_map]
theorem zs_rf_of (o : Option Nat) : zs_g ρ (zs_rf o) (va_rf o) := by
  cases o <;> rfl
theorem zs_na_ok {ix : Nat} {r : List Nat} {v0 : Value} {len : Nat} (h : zs_na r q.2.2.1 q.2.2.2 pc A st w rs k re dflt = true) (hr : zs_ok ρ rs) (hA : zs_rL ρ A L) (hS : zs_rS ρ st t) (hW : zs_rW ρ N w cs) : zs_D ρ N q (pc, .invokestatic ix, len, r, v0) pc L t cs k re dflt := by
  unfold zs_na at h
  split at h
  · rename_i a b c d f
    split at h
    · split at h
      · rename_i y x rest
        obtain ⟨uy, t1, rfl, gy, hS1⟩ := zs_rS_cons hS
        obtain ⟨ux, t2, rfl, gx, hS2⟩ := zs_rS_cons hS1
        obtain ⟨c1, h⟩ := zs_bool h
        obtain ⟨c2, h⟩ := zs_bool h
        rcases zs_mm_ok h hr gx gy with z | ⟨z, a1, b1, hk, rfl, rfl, gz⟩
        · exact Or.inl z
        · rw [if_pos rfl] at gz
          refine zs_D.na hk hA (zs_rS_mk gz hS2) hW rfl rfl (fun _ _ => rfl) ?_
          simp only [zz_na]
          rw [if_pos ⟨Nat.le_of_ble_eq_true c1, by rw [zs_css_of hS2]; exact Nat.le_of_ble_eq_true c2⟩]
      · cases h
    · split at h
      · rename_i y x rest
        obtain ⟨uy, t1, rfl, gy, hS1⟩ := zs_rS_cons hS
        obtain ⟨ux, t2, rfl, gx, hS2⟩ := zs_rS_cons hS1
        obtain ⟨c1, h⟩ := zs_bool h
        obtain ⟨c2, h⟩ := zs_bool h
        rcases zs_mm_ok h hr gx gy with z | ⟨z, a1, b1, hk, rfl, rfl, gz⟩
        · exact Or.inl z
        · rw [if_neg (by simp)] at gz
          refine zs_D.na hk hA (zs_rS_mk gz hS2) hW rfl rfl (fun _ _ => rfl) ?_
          simp only [zz_na]
          rw [if_pos ⟨Nat.le_of_ble_eq_true c1, by rw [zs_css_of hS2]; exact Nat.le_of_ble_eq_true c2⟩]
      · cases h
    · split at h
      · obtain ⟨u1, t1, rfl, g1, hS1⟩ := zs_rS_cons hS
        obtain ⟨u2, t2, rfl, g2, hS2⟩ := zs_rS_cons hS1
        obtain ⟨u3, t3, rfl, g3, hS3⟩ := zs_rS_cons hS2
        obtain ⟨u4, t4, rfl, g4, hS4⟩ := zs_rS_cons hS3
        obtain ⟨u5, t5, rfl, g5, hS5⟩ := zs_rS_cons hS4
        split at h
        · split at h
          · split at h
            · obtain ⟨c1, h⟩ := zs_bool h
              obtain ⟨c2, h⟩ := zs_bool h
              obtain ⟨c3, h⟩ := zs_bool h
              obtain ⟨c4, h⟩ := zs_bool h
              rw [zs_eq_iff] at c1 c2
              obtain ⟨i, xs, ys, rfl, w1, l1, r1, h⟩ := zs_ia_ok h hW g5
              obtain ⟨j, xs2, ys2, rfl, w2, l2, r2, h⟩ := zs_ia_ok h hW g3
              obtain ⟨n, h, n1, n2⟩ := zs_jx_ok h
              obtain ⟨c5, h⟩ := zs_bool h
              obtain ⟨c6, h⟩ := zs_bool h
              have c5 := Nat.le_of_ble_eq_true c5
              have c6 := Nat.le_of_ble_eq_true c6
              rw [zs_len_eq] at c5 c6
              rw [zs_tk_eq n xs xs2 _ c5 c6] at h
              have m1 := zs_ints_len r1
              have m2 := zs_ints_len r2
              obtain ⟨w9, hk, hW9⟩ := zs_put_ok (d := .inl (ys.take n ++ ys2.drop n)) h w2 hW (by
                show zs_rS ρ _ _
                rw [List.map_append, List.map_take, List.map_drop]
                exact zs_rS_app (zs_rS_take n r1) (zs_rS_drop n r2))
              rw [show u1 = _ from g1, show u2 = _ from g2, show u4 = _ from g4]
              refine zs_D.na hk hA hS5 hW9 rfl rfl (fun _ _ => rfl) ?_
              simp only [zz_na]
              rw [l1, l2]
              dsimp only
              rw [if_pos ⟨Nat.le_of_ble_eq_true c3, by rw [zs_css_of hS5]; exact Nat.le_of_ble_eq_true c4, by rw [c2]; rfl, by rw [c1]; rfl, n1, by rw [n2]; omega, by rw [n2]; omega⟩, n2]
            · cases h
          · cases h
        · cases h
      · cases h
    · exact Or.inr (Or.inr h)
  · exact Or.inr (Or.inr h)
theorem zs_one_ok {ins : Instr} {len : Nat} {r : List Nat} {v0 : Value} (h : zs_one ins r v0 q.2.2.1 q.2.2.2 pc A st w rs k re dflt = true) (hr : zs_ok ρ rs) (hA : zs_rL ρ A L) (hS : zs_rS ρ st t) (hW : zs_rW ρ N w cs) : zs_D ρ N q (pc, ins, len, r, v0) pc L t cs k re dflt := by
  have hI : ∀ v u, zs_isI v = true → zs_g ρ v u → u.category = 1 := fun v u hp hg => by
    obtain ⟨x, rfl⟩ := zs_isI_of hp hg
    rfl
  have hR : ∀ v u, zs_isA v = true → zs_g ρ v u → u.category = 1 := fun v u hp hg => by
    obtain ⟨x, rfl⟩ := zs_isA_of hp hg
    rfl
  cases ins with
  | iconst n =>
    replace h : zo_iconst n pc A st w k = true := h
    unfold zo_iconst at h
    rw [zs_lit_eq] at h
    exact zs_D.da h hA (zs_rS_mk rfl hS) hW rfl
  | bipush n =>
    replace h : zo_bipush n pc A st w k = true := h
    unfold zo_bipush at h
    rw [zs_lit_eq] at h
    exact zs_D.da h hA (zs_rS_mk (congrArg Value.int (Int32.ofInt_toInt _).symm) hS) hW rfl
  | sipush n =>
    replace h : zo_sipush n pc A st w k = true := h
    unfold zo_sipush at h
    rw [zs_lit_eq] at h
    exact zs_D.da h hA (zs_rS_mk (congrArg Value.int (Int32.ofInt_toInt _).symm) hS) hW rfl
  | lconst n =>
    replace h : zo_lconst n pc A st w k = true := h
    unfold zo_lconst at h
    exact zs_D.da h hA (zs_rS_mk rfl hS) hW rfl
  | iload_n j =>
    replace h : zo_iload_n j pc A st w k = true := h
    unfold zo_iload_n at h
    obtain ⟨v, u, h1, h2, h3, h4⟩ := zs_pv_ok h hA
    obtain ⟨x, rfl⟩ := zs_isI_of h2 h4
    exact zs_D.da h1 hA (zs_rS_mk h4 hS) hW (by show zz_pi _ _ (zz_ld L _) _ = _; rw [h3]; rfl)
  | iload j =>
    replace h : zo_iload j pc A st w k = true := h
    unfold zo_iload at h
    obtain ⟨v, u, h1, h2, h3, h4⟩ := zs_pv_ok h hA
    obtain ⟨x, rfl⟩ := zs_isI_of h2 h4
    exact zs_D.da h1 hA (zs_rS_mk h4 hS) hW (by show zz_pi _ _ (zz_ld L _) _ = _; rw [h3]; rfl)
  | aload_n j =>
    replace h : zo_aload_n j pc A st w k = true := h
    unfold zo_aload_n at h
    obtain ⟨v, u, h1, h2, h3, h4⟩ := zs_pv_ok h hA
    obtain ⟨x, rfl⟩ := zs_isA_of h2 h4
    exact zs_D.da h1 hA (zs_rS_mk h4 hS) hW (by show zz_pr _ _ (zz_ld L _) _ = _; rw [h3]; rfl)
  | aload j =>
    replace h : zo_aload j pc A st w k = true := h
    unfold zo_aload at h
    obtain ⟨v, u, h1, h2, h3, h4⟩ := zs_pv_ok h hA
    obtain ⟨x, rfl⟩ := zs_isA_of h2 h4
    exact zs_D.da h1 hA (zs_rS_mk h4 hS) hW (by show zz_pr _ _ (zz_ld L _) _ = _; rw [h3]; rfl)
  | lload_n j =>
    replace h : zo_lload_n j pc A st w k = true := h
    unfold zo_lload_n at h
    obtain ⟨v, u, h1, h2, h3, h4⟩ := zs_pv_ok h hA
    obtain ⟨x, rfl⟩ := zs_isJ_of h2 h4
    exact zs_D.da h1 hA (zs_rS_mk h4 hS) hW (by show zz_pl _ _ (zz_ld L _) _ = _; rw [h3]; rfl)
  | lload j =>
    replace h : zo_lload j pc A st w k = true := h
    unfold zo_lload at h
    obtain ⟨v, u, h1, h2, h3, h4⟩ := zs_pv_ok h hA
    obtain ⟨x, rfl⟩ := zs_isJ_of h2 h4
    exact zs_D.da h1 hA (zs_rS_mk h4 hS) hW (by show zz_pl _ _ (zz_ld L _) _ = _; rw [h3]; rfl)
  | istore_n j =>
    replace h : zo_istore_n j pc A st w k = true := h
    unfold zo_istore_n at h
    obtain ⟨v, u, r', A', s', p1, g1, rfl, k1, s1, a1, l1⟩ := zs_stv_ok h hA hS hI
    obtain ⟨x, rfl⟩ := zs_isI_of p1 g1
    exact zs_D.da k1 a1 s1 hW (by simp only [zz_da, zz_si]; rw [if_pos l1])
  | istore j =>
    replace h : zo_istore j pc A st w k = true := h
    unfold zo_istore at h
    obtain ⟨v, u, r', A', s', p1, g1, rfl, k1, s1, a1, l1⟩ := zs_stv_ok h hA hS hI
    obtain ⟨x, rfl⟩ := zs_isI_of p1 g1
    exact zs_D.da k1 a1 s1 hW (by simp only [zz_da, zz_si]; rw [if_pos l1])
  | astore_n j =>
    replace h : zo_astore_n j pc A st w k = true := h
    unfold zo_astore_n at h
    obtain ⟨v, u, r', A', s', p1, g1, rfl, k1, s1, a1, l1⟩ := zs_stv_ok h hA hS hR
    obtain ⟨x, rfl⟩ := zs_isA_of p1 g1
    exact zs_D.da k1 a1 s1 hW (by simp only [zz_da, zz_sr]; rw [if_pos l1])
  | astore j =>
    replace h : zo_astore j pc A st w k = true := h
    unfold zo_astore at h
    obtain ⟨v, u, r', A', s', p1, g1, rfl, k1, s1, a1, l1⟩ := zs_stv_ok h hA hS hR
    obtain ⟨x, rfl⟩ := zs_isA_of p1 g1
    exact zs_D.da k1 a1 s1 hW (by simp only [zz_da, zz_sr]; rw [if_pos l1])
  | lstore_n j =>
    replace h : zo_lstore_n j pc A st w k = true := h
    unfold zo_lstore_n at h
    obtain ⟨x, r', A', s', rfl, k1, s1, a1, l1⟩ := zs_stl_ok h hA hS
    exact zs_D.da k1 a1 s1 hW (by simp only [zz_da, zz_sl]; rw [if_pos l1])
  | lstore j =>
    replace h : zo_lstore j pc A st w k = true := h
    unfold zo_lstore at h
    obtain ⟨x, r', A', s', rfl, k1, s1, a1, l1⟩ := zs_stl_ok h hA hS
    exact zs_D.da k1 a1 s1 hW (by simp only [zz_da, zz_sl]; rw [if_pos l1])
  | iinc j n =>
    replace h : zo_iinc j n pc A st w k = true := h
    unfold zo_iinc at h
    obtain ⟨v, u, h1, h2, h3, h4⟩ := zs_pv_ok h hA
    obtain ⟨z, a, h5, rfl, h6⟩ := zs_add_ok h1 h4
    obtain ⟨l1, A', k1, a1⟩ := zs_st1 h5 hA h6 rfl
    exact zs_D.da k1 a1 hS hW (by simp only [zz_da]; rw [h3])
  | iadd =>
    replace h : zo_iadd pc A st w rs k = true := h
    unfold zo_iadd at h
    obtain ⟨x, y, r', ux, uy, tr, rfl, gy, gx, sr, hf⟩ := zs_i2_ok h hS
    obtain ⟨z, a, b, hk, rfl, rfl, gz⟩ := zs_iadd_ok hf gx gy
    exact zs_D.da hk hA (zs_rS_mk gz sr) hW rfl
  | isub =>
    replace h : zo_isub pc A st w rs k = true := h
    unfold zo_isub at h
    obtain ⟨x, y, r', ux, uy, tr, rfl, gy, gx, sr, hf⟩ := zs_i2_ok h hS
    obtain ⟨z, a, b, hk, rfl, rfl, gz⟩ := zs_isub_ok hf gx gy
    exact zs_D.da hk hA (zs_rS_mk gz sr) hW rfl
  | imul =>
    replace h : zo_imul pc A st w rs k re = true := h
    unfold zo_imul at h
    obtain ⟨x, y, r', ux, uy, tr, rfl, gy, gx, sr, hf⟩ := zs_i2_ok h hS
    rcases zs_ar_ok hf hr gx gy with z | ⟨z, a, b, hk, rfl, rfl, gz⟩
    · exact Or.inl z
    · exact zs_D.da hk hA (zs_rS_mk gz sr) hW rfl
  | iand =>
    replace h : zo_iand pc A st w rs k re = true := h
    unfold zo_iand at h
    obtain ⟨x, y, r', ux, uy, tr, rfl, gy, gx, sr, hf⟩ := zs_i2_ok h hS
    rcases zs_ar_ok hf hr gx gy with z | ⟨z, a, b, hk, rfl, rfl, gz⟩
    · exact Or.inl z
    · exact zs_D.da hk hA (zs_rS_mk gz sr) hW rfl
  | ior =>
    replace h : zo_ior pc A st w rs k re = true := h
    unfold zo_ior at h
    obtain ⟨x, y, r', ux, uy, tr, rfl, gy, gx, sr, hf⟩ := zs_i2_ok h hS
    rcases zs_ar_ok hf hr gx gy with z | ⟨z, a, b, hk, rfl, rfl, gz⟩
    · exact Or.inl z
    · exact zs_D.da hk hA (zs_rS_mk gz sr) hW rfl
  | ixor =>
    replace h : zo_ixor pc A st w rs k re = true := h
    unfold zo_ixor at h
    obtain ⟨x, y, r', ux, uy, tr, rfl, gy, gx, sr, hf⟩ := zs_i2_ok h hS
    rcases zs_ar_ok hf hr gx gy with z | ⟨z, a, b, hk, rfl, rfl, gz⟩
    · exact Or.inl z
    · exact zs_D.da hk hA (zs_rS_mk gz sr) hW rfl
  | ishl =>
    replace h : zo_ishl pc A st w rs k re = true := h
    unfold zo_ishl at h
    obtain ⟨x, y, r', ux, uy, tr, rfl, gy, gx, sr, hf⟩ := zs_i2_ok h hS
    rcases zs_ar_ok hf hr gx gy with z | ⟨z, a, b, hk, rfl, rfl, gz⟩
    · exact Or.inl z
    · exact zs_D.da hk hA (zs_rS_mk gz sr) hW rfl
  | ishr =>
    replace h : zo_ishr pc A st w rs k re = true := h
    unfold zo_ishr at h
    obtain ⟨x, y, r', ux, uy, tr, rfl, gy, gx, sr, hf⟩ := zs_i2_ok h hS
    rcases zs_ar_ok hf hr gx gy with z | ⟨z, a, b, hk, rfl, rfl, gz⟩
    · exact Or.inl z
    · exact zs_D.da hk hA (zs_rS_mk gz sr) hW rfl
  | iushr =>
    replace h : zo_iushr pc A st w rs k re = true := h
    unfold zo_iushr at h
    obtain ⟨x, y, r', ux, uy, tr, rfl, gy, gx, sr, hf⟩ := zs_i2_ok h hS
    rcases zs_ar_ok hf hr gx gy with z | ⟨z, a, b, hk, rfl, rfl, gz⟩
    · exact Or.inl z
    · exact zs_D.da hk hA (zs_rS_mk gz sr) hW rfl
  | idiv =>
    replace h : zo_idiv pc A st w rs k re = true := h
    unfold zo_idiv at h
    obtain ⟨x, y, r', ux, uy, tr, rfl, gy, gx, sr, hf⟩ := zs_i2_ok h hS
    rcases zs_arn_ok hf hr gx gy with z | ⟨z, a, b, hk, rfl, rfl, hb, gz⟩
    · exact Or.inl z
    · exact zs_D.da hk hA (zs_rS_mk gz sr) hW (by simp only [zz_da, zz_i2n]; rw [if_neg hb])
  | irem =>
    replace h : zo_irem pc A st w rs k re = true := h
    unfold zo_irem at h
    obtain ⟨x, y, r', ux, uy, tr, rfl, gy, gx, sr, hf⟩ := zs_i2_ok h hS
    rcases zs_arn_ok hf hr gx gy with z | ⟨z, a, b, hk, rfl, rfl, hb, gz⟩
    · exact Or.inl z
    · exact zs_D.da hk hA (zs_rS_mk gz sr) hW (by simp only [zz_da, zz_i2n]; rw [if_neg hb])
  | ineg =>
    replace h : zo_ineg pc A st w rs k re = true := h
    unfold zo_ineg at h
    obtain ⟨x, r', ux, tr, rfl, gx, sr, hf⟩ := zs_i1_ok h hS
    rcases zs_lv_ok hf hr gx with z | ⟨a, h5, rfl⟩
    · exact Or.inl z
    · rw [zs_lit_eq] at h5
      exact zs_D.da h5 hA (zs_rS_mk (congrArg Value.int (Int32.ofInt_neg a).symm) sr) hW rfl
  | i2l =>
    replace h : zo_i2l pc A st w rs k = true := h
    unfold zo_i2l at h
    obtain ⟨x, r', ux, tr, rfl, gx, sr, hf⟩ := zs_i1_ok h hS
    obtain ⟨z, a, hk, rfl, gz⟩ := zs_i2l_ok hf hr gx
    exact zs_D.da hk hA (zs_rS_mk gz sr) hW rfl
  | ladd =>
    replace h : zo_ladd pc A st w k = true := h
    unfold zo_ladd at h
    obtain ⟨x, y, r', ux, uy, tr, rfl, gy, gx, sr, hf⟩ := zs_i2_ok h hS
    obtain ⟨z, a, b, hk, rfl, rfl, gz⟩ := zs_l2_ok hf gx gy
    exact zs_D.da hk hA (zs_rS_mk gz sr) hW rfl
  | lsub =>
    replace h : zo_lsub pc A st w k = true := h
    unfold zo_lsub at h
    obtain ⟨x, y, r', ux, uy, tr, rfl, gy, gx, sr, hf⟩ := zs_i2_ok h hS
    obtain ⟨z, a, b, hk, rfl, rfl, gz⟩ := zs_l2_ok hf gx gy
    exact zs_D.da hk hA (zs_rS_mk gz sr) hW rfl
  | lcmp =>
    replace h : zo_lcmp pc A st w rs k re = true := h
    unfold zo_lcmp at h
    obtain ⟨x, y, r', ux, uy, tr, rfl, gy, gx, sr, hf⟩ := zs_i2_ok h hS
    rcases zs_lcmp_ok hf hr gx gy with z | ⟨z, a, b, hk, rfl, rfl, gz⟩
    · exact Or.inl z
    · exact zs_D.da hk hA (zs_rS_mk gz sr) hW rfl
  | dup =>
    replace h : zo_dup pc A st w k = true := h
    unfold zo_dup at h
    split at h
    · obtain ⟨u, r', rfl, hg, hS'⟩ := zs_rS_cons hS
      split at h
      · cases h
      · rename_i hc
        exact zs_D.da h hA (zs_rS_mk hg (zs_rS_mk hg hS')) hW (by simp only [zz_da]; rw [if_pos (by rw [zs_cat2_of hg, hc]; rfl)])
    · cases h
  | pop =>
    replace h : zo_pop pc A st w k = true := h
    unfold zo_pop at h
    split at h
    · obtain ⟨u, r', rfl, hg, hS'⟩ := zs_rS_cons hS
      split at h
      · cases h
      · rename_i hc
        exact zs_D.da h hA hS' hW (by simp only [zz_da]; rw [if_pos (by rw [zs_cat2_of hg, hc]; rfl)])
    · cases h
  | dup2 =>
    replace h : zo_dup2 pc A st w k = true := h
    unfold zo_dup2 at h
    split at h
    · obtain ⟨u, r', rfl, hg, hS'⟩ := zs_rS_cons hS
      obtain ⟨u2, r2, rfl, hg2, hS2⟩ := zs_rS_cons hS'
      split at h
      · cases h
      · rename_i hc
        split at h
        · cases h
        · rename_i hc2
          exact zs_D.da h hA (zs_rS_mk hg (zs_rS_mk hg2 (zs_rS_mk hg (zs_rS_mk hg2 hS2)))) hW (by simp only [zz_da]; rw [if_pos ⟨by rw [zs_cat2_of hg, hc]; rfl, by rw [zs_cat2_of hg2, hc2]; rfl⟩])
    · cases h
  | goto off =>
    replace h : zo_goto off pc A st w k = true := h
    unfold zo_goto at h
    obtain ⟨t', ht, hk⟩ := zs_to_ok h
    exact zs_D.da hk hA hS hW (by show zz_go _ _ (zz_tg pc off) = _; rw [ht]; rfl)
  | ifCond op off =>
    replace h : zo_ifCond op off pc A st w rs k re = true := h
    unfold zo_ifCond at h
    split at h
    · obtain ⟨u, r', rfl, hg, hS'⟩ := zs_rS_cons hS
      rcases zs_cmp_ok h hr hg (show zs_g ρ _ (.int 0) from rfl) with z | ⟨X, Y, rfl, hY, hk⟩
      · exact Or.inl z
      · cases hY
        obtain ⟨t', ht, hk⟩ := zs_br_ok hk
        exact zs_D.da hk hA hS' hW (by simp only [zz_da]; rw [zz_if_ic, ht]; rfl)
    · cases h
  | if_icmp op off =>
    replace h : zo_if_icmp op off pc A st w rs k re = true := h
    unfold zo_if_icmp at h
    split at h
    · obtain ⟨u, r', rfl, hg, hS'⟩ := zs_rS_cons hS
      obtain ⟨u2, r2, rfl, hg2, hS2⟩ := zs_rS_cons hS'
      rcases zs_cmp_ok h hr hg2 hg with z | ⟨X, Y, rfl, rfl, hk⟩
      · exact Or.inl z
      · obtain ⟨t', ht, hk⟩ := zs_br_ok hk
        exact zs_D.da hk hA hS2 hW (by simp only [zz_da]; rw [ht]; rfl)
    · cases h
  | tableswitch d lo hi offs =>
    replace h : zo_tableswitch d lo hi offs pc A st w rs k re = true := h
    unfold zo_tableswitch at h
    split at h
    · obtain ⟨u, r', rfl, hg, hS'⟩ := zs_rS_cons hS
      rcases zs_tsw_ok (L := L) (r := r') h hr hg with z | ⟨t', hk, hd⟩
      · exact Or.inl z
      · exact zs_D.da hk hA hS' hW hd
    · cases h
  | lookupswitch d ps =>
    replace h : zo_lookupswitch d ps pc A st w rs k re = true := h
    unfold zo_lookupswitch at h
    split at h
    · obtain ⟨u, r', rfl, hg, hS'⟩ := zs_rS_cons hS
      rcases zs_lv_ok h hr hg with z | ⟨a, h5, rfl⟩
      · exact Or.inl z
      · obtain ⟨i1, h5⟩ := zs_bool h5
        obtain ⟨i2, h5⟩ := zs_bool h5
        obtain ⟨t', ht, hk⟩ := zs_to_ok h5
        refine zs_D.da hk hA hS' hW ?_
        simp only [zz_da]
        rw [zs_in_of i1 (Int.le_refl a) (Int.le_refl a), if_pos i2, ht]
        rfl
    · cases h
  | getfield ix =>
    replace h : zo_getfield r pc A st w k = true := h
    unfold zo_getfield at h
    split at h
    · split at h
      · obtain ⟨u, r', rfl, hg, hS'⟩ := zs_rS_cons hS
        obtain ⟨i, fs, us, rfl, w1, l1, r1, h⟩ := zs_ob_ok h hW hg
        obtain ⟨x, hx, hk⟩ := zs_some_ok h
        rw [zs_nth_eq] at hx
        obtain ⟨y, hy, gy⟩ := zs_rS_nth r1 hx
        refine zs_D.db hk hA (zs_rS_mk gy hS') hW rfl ?_
        simp only [zz_db]
        rw [l1]
        dsimp only
        rw [if_pos rfl, hy]
      · cases h
    · cases h
  | putfield ix =>
    replace h : zo_putfield r pc A st w k = true := h
    unfold zo_putfield at h
    split at h
    · split at h
      · obtain ⟨u, r', rfl, hg, hS'⟩ := zs_rS_cons hS
        obtain ⟨u2, r2, rfl, hg2, hS2⟩ := zs_rS_cons hS'
        obtain ⟨hf, h⟩ := zs_bool h
        obtain ⟨i, fs, us, rfl, w1, l1, r1, h⟩ := zs_ob_ok h hW hg2
        obtain ⟨x, hx, h⟩ := zs_some_ok h
        rw [zs_nth_eq] at hx
        rw [zs_upd_eq] at h
        obtain ⟨y, hy, gy⟩ := zs_rS_nth r1 hx
        obtain ⟨w9, hk, hW9⟩ := zs_put_ok h w1 hW (show zs_gc ρ _ (.inr (.inr (_, us.set _ u))) from ⟨rfl, zs_rS_set r1 hg⟩)
        refine zs_D.db hk hA hS2 hW9 rfl ?_
        simp only [zz_db]
        rw [l1]
        dsimp only
        rw [if_pos ⟨rfl, (List.getElem?_eq_some_iff.mp hy).1, zs_fit_of hf hg⟩]
      · cases h
    · cases h
  | iaload =>
    replace h : zo_iaload pc A st w rs k re = true := h
    unfold zo_iaload at h
    split at h
    · obtain ⟨u, r', rfl, hg, hS'⟩ := zs_rS_cons hS
      obtain ⟨u2, r2, rfl, hg2, hS2⟩ := zs_rS_cons hS'
      rcases zs_lv_ok h hr hg with z | ⟨a, h5, rfl⟩
      · exact Or.inl z
      · obtain ⟨n, h5, n1, n2⟩ := zs_jx_ok h5
        obtain ⟨i, xs, ys, rfl, w1, l1, r1, h5⟩ := zs_ia_ok h5 hW hg2
        obtain ⟨x, hx, hk⟩ := zs_some_ok h5
        rw [zs_nth_eq] at hx
        obtain ⟨hl, gx⟩ := zs_ints_nth r1 hx
        refine zs_D.db hk hA (zs_rS_mk gx hS2) hW rfl ?_
        simp only [zz_db]
        rw [l1]
        dsimp only
        rw [if_pos (zs_ix_of n1 n2 hl), n2]
    · cases h
  | iastore =>
    replace h : zo_iastore pc A st w rs k re = true := h
    unfold zo_iastore at h
    split at h
    · obtain ⟨u0, r0, rfl, hg0, hS0⟩ := zs_rS_cons hS
      obtain ⟨u, r', rfl, hg, hS'⟩ := zs_rS_cons hS0
      obtain ⟨u2, r2, rfl, hg2, hS2⟩ := zs_rS_cons hS'
      obtain ⟨hi, h⟩ := zs_bool h
      obtain ⟨x0, rfl⟩ := zs_isI_of hi hg0
      rcases zs_lv_ok h hr hg with z | ⟨a, h5, rfl⟩
      · exact Or.inl z
      · obtain ⟨n, h5, n1, n2⟩ := zs_jx_ok h5
        obtain ⟨i, xs, ys, rfl, w1, l1, r1, h5⟩ := zs_ia_ok h5 hW hg2
        obtain ⟨x, hx, h5⟩ := zs_some_ok h5
        rw [zs_nth_eq] at hx
        rw [zs_upd_eq] at h5
        obtain ⟨hl, gx⟩ := zs_ints_nth r1 hx
        obtain ⟨w9, hk, hW9⟩ := zs_put_ok (d := .inl (ys.set n x0)) h5 w1 hW (by
          show zs_rS ρ _ _
          rw [List.map_set]
          exact zs_rS_set r1 hg0)
        refine zs_D.db hk hA hS2 hW9 rfl ?_
        simp only [zz_db]
        rw [l1]
        dsimp only
        rw [if_pos (zs_ix_of n1 n2 hl), n2]
    · cases h
  | aaload =>
    replace h : zo_aaload pc A st w rs k re = true := h
    unfold zo_aaload at h
    split at h
    · obtain ⟨u, r', rfl, hg, hS'⟩ := zs_rS_cons hS
      obtain ⟨u2, r2, rfl, hg2, hS2⟩ := zs_rS_cons hS'
      rcases zs_lv_ok h hr hg with z | ⟨a, h5, rfl⟩
      · exact Or.inl z
      · obtain ⟨n, h5, n1, n2⟩ := zs_jx_ok h5
        obtain ⟨i, tt, xs, rfl, l1, h5⟩ := zs_ra_ok h5 hW hg2
        obtain ⟨hrt, h5⟩ := zs_bool h5
        obtain ⟨x, hx, hk⟩ := zs_some_ok h5
        rw [zs_nth_eq] at hx
        have hl := (List.getElem?_eq_some_iff.mp hx).1
        refine zs_D.db hk hA (zs_rS_mk (zs_rf_of x) hS2) hW rfl ?_
        simp only [zz_db]
        rw [l1]
        dsimp only
        rw [if_pos ⟨zs_ix_of n1 n2 hl, hrt⟩, n2, List.getD_eq_getElem?_getD, hx]
        rfl
    · cases h
  | arraylength =>
    replace h : zo_arraylength pc A st w k = true := h
    unfold zo_arraylength at h
    split at h
    · obtain ⟨u, r', rfl, hg, hS'⟩ := zs_rS_cons hS
      rw [show u = _ from hg]
      split at h
      · rename_i xs hget
        rw [zs_lit_eq, zs_len_eq] at h
        obtain ⟨d, hd, hc⟩ := hW.2 _ _ hget
        match d, hd, hc with
        | .inl ys, hd, hc =>
          have hl := zs_ints_len hc
          refine zs_D.db h hA (zs_rS_mk (congrArg Value.int (Int32.ofInt_toInt _).symm) hS') hW rfl ?_
          simp only [zz_db]
          rw [zs_cell_of hd]
          dsimp only
          rw [hl]
      · rename_i tt xs hget
        obtain ⟨hrt, h⟩ := zs_bool h
        rw [zs_lit_eq, zs_len_eq] at h
        obtain ⟨d, hd, hc⟩ := hW.2 _ _ hget
        match d, hd, hc with
        | .inr (.inl q'), hd, hc =>
          refine zs_D.db h hA (zs_rS_mk (congrArg Value.int (Int32.ofInt_toInt _).symm) hS') hW rfl ?_
          simp only [zz_db]
          rw [zs_cell_of hd, ← show _ = q' from hc]
          dsimp only
          rw [if_pos hrt]
      · cases h
    · cases h
  | ldc ix =>
    replace h : zo_ldc v0 pc A st w k = true := h
    unfold zo_ldc at h
    split at h
    · rw [zs_lit_eq] at h
      exact zs_D.db h hA (zs_rS_mk (congrArg Value.int (Int32.ofInt_toInt _).symm) hS) hW rfl rfl
    · cases h
  | ldc_w ix =>
    replace h : zo_ldc_w v0 pc A st w k = true := h
    unfold zo_ldc_w at h
    split at h
    · rw [zs_lit_eq] at h
      exact zs_D.db h hA (zs_rS_mk (congrArg Value.int (Int32.ofInt_toInt _).symm) hS) hW rfl rfl
    · cases h
  | ldc2_w ix =>
    replace h : zo_ldc2_w v0 pc A st w k = true := h
    unfold zo_ldc2_w at h
    exact zs_D.db h hA (zs_rS_mk rfl hS) hW rfl rfl
  | invokestatic ix => exact zs_na_ok (show zs_na r q.2.2.1 q.2.2.2 pc A st w rs k re dflt = true from h) hr hA hS hW
  | _ => exact Or.inr (Or.inr h)
end ZS3
