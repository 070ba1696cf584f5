/-! the check of trees is sound: a step, whole runs -/
section XS3
variable {ρ ρ2 : List Int} {I : Nat → List Int → fH → Prop} {Q : Int → fH → Prop} {T : xT} {h : fH} {A : xL} {L : List (Option Value)} {st : xS} {t : List Value} {cs : zz_W} {pc p len lvl cu su : Nat} {r : List Nat} {v0 : Value} {k : xK} {σ' : zz_S} {q : Nat × Nat × Nat × Nat} {ins : Instr}
theorem x_op_ok {f : xX} (h1 : x_op ins = some f) (hone : zz_one q (p, ins, len, r, v0) (pc, L, t, cs, cu, su) = some σ') (hh : f r v0 pc A st lvl T k = true) (hl : ρ.length = lvl) (hA : xRL ρ A L) (hS : xRS ρ st t) (hF : fFX cs) (hd : xd I Q T 0 ρ (fh cs)) : xNx k I Q ρ cu su σ' := by
  unfold x_op at h1
  split at h1
  · split at h1
    · rename_i n hin
      cases h1
      rw [t_in_iff] at hin
      obtain ⟨pc', L', t', h2, rfl⟩ := x_pure hone rfl rfl rfl
      cases h2
      exact x_con_ok hh hl hA hS hF hd rfl (Int32.toInt_ofInt_of_le (by omega) (by omega)) rfl
    · cases h1
  · cases h1
    obtain ⟨pc', L', t', h2, rfl⟩ := x_pure hone rfl rfl rfl
    cases h2
    exact x_con_ok hh hl hA hS hF hd rfl rfl rfl
  · cases h1
    obtain ⟨pc', L', t', h2, rfl⟩ := x_pure hone rfl rfl rfl
    cases h2
    exact x_con_ok hh hl hA hS hF hd rfl rfl rfl
  · cases h1
    obtain ⟨pc', L', t', cs', h2, rfl⟩ := x_heap hone rfl rfl rfl
    dsimp only at hh
    split at hh
    · cases h2
      exact x_con_ok hh hl hA hS hF hd rfl rfl rfl
    · cases hh
  · rename_i n
    cases h1
    obtain ⟨pc', L', t', h2, rfl⟩ := x_pure hone rfl rfl rfl
    cases h2
    have hv : (Int64.ofNat (n : Nat)).toInt = Int.ofNat (n : Nat) := by
      match n with
      | 0 => decide
      | 1 => decide
    exact x_con_ok hh hl hA hS hF hd rfl hv rfl
  · cases h1
    obtain ⟨pc', L', t', cs', h2, rfl⟩ := x_heap hone rfl rfl rfl
    dsimp only at hh
    split at hh
    · cases h2
      exact x_con_ok hh hl hA hS hF hd rfl rfl rfl
    · cases hh
  · cases h1
    obtain ⟨pc', L', t', h2, rfl⟩ := x_pure hone rfl rfl rfl
    obtain ⟨w, h3, rfl, rfl, rfl⟩ := x_pi_inv h2
    exact x_lod_ok hh hl hA hS hF hd ⟨w, h3, rfl⟩
  · cases h1
    obtain ⟨pc', L', t', h2, rfl⟩ := x_pure hone rfl rfl rfl
    obtain ⟨w, h3, rfl, rfl, rfl⟩ := x_pi_inv h2
    exact x_lod_ok hh hl hA hS hF hd ⟨w, h3, rfl⟩
  · cases h1
    obtain ⟨pc', L', t', h2, rfl⟩ := x_pure hone rfl rfl rfl
    obtain ⟨w, h3, rfl, rfl, rfl⟩ := x_pl_inv h2
    exact x_lod_ok hh hl hA hS hF hd ⟨w, h3, rfl⟩
  · cases h1
    obtain ⟨pc', L', t', h2, rfl⟩ := x_pure hone rfl rfl rfl
    obtain ⟨w, h3, rfl, rfl, rfl⟩ := x_pl_inv h2
    exact x_lod_ok hh hl hA hS hF hd ⟨w, h3, rfl⟩
  · cases h1
    obtain ⟨pc', L', t', h2, rfl⟩ := x_pure hone rfl rfl rfl
    obtain ⟨w, h3, rfl, rfl, rfl⟩ := x_pr_inv h2
    exact x_lod_ok hh hl hA hS hF hd ⟨w, h3, rfl⟩
  · cases h1
    obtain ⟨pc', L', t', h2, rfl⟩ := x_pure hone rfl rfl rfl
    obtain ⟨w, h3, rfl, rfl, rfl⟩ := x_pr_inv h2
    exact x_lod_ok hh hl hA hS hF hd ⟨w, h3, rfl⟩
  · cases h1
    obtain ⟨pc', L', t', h2, rfl⟩ := x_pure hone rfl rfl rfl
    obtain ⟨w, h3, h4, rfl, rfl⟩ := x_si_inv h2
    exact x_sto_ok hh hl hA hS hF hd ⟨w, t', h3, h4, rfl⟩
  · cases h1
    obtain ⟨pc', L', t', h2, rfl⟩ := x_pure hone rfl rfl rfl
    obtain ⟨w, h3, h4, rfl, rfl⟩ := x_si_inv h2
    exact x_sto_ok hh hl hA hS hF hd ⟨w, t', h3, h4, rfl⟩
  · cases h1
    obtain ⟨pc', L', t', h2, rfl⟩ := x_pure hone rfl rfl rfl
    obtain ⟨w, h3, h4, rfl, rfl⟩ := x_sl_inv h2
    exact x_sto_ok hh hl hA hS hF hd ⟨w, t', h3, h4, rfl⟩
  · cases h1
    obtain ⟨pc', L', t', h2, rfl⟩ := x_pure hone rfl rfl rfl
    obtain ⟨w, h3, h4, rfl, rfl⟩ := x_sl_inv h2
    exact x_sto_ok hh hl hA hS hF hd ⟨w, t', h3, h4, rfl⟩
  · cases h1
    obtain ⟨pc', L', t', h2, rfl⟩ := x_pure hone rfl rfl rfl
    obtain ⟨w, h3, h4, rfl, rfl⟩ := x_sr_inv h2
    exact x_sto_ok hh hl hA hS hF hd ⟨w, t', h3, h4, rfl⟩
  · cases h1
    obtain ⟨pc', L', t', h2, rfl⟩ := x_pure hone rfl rfl rfl
    obtain ⟨w, h3, h4, rfl, rfl⟩ := x_sr_inv h2
    exact x_sto_ok hh hl hA hS hF hd ⟨w, t', h3, h4, rfl⟩
  · -- iinc
    rename_i j n
    split at h1
    · rename_i hin
      cases h1
      rw [t_in_iff] at hin
      obtain ⟨pc', L', t', h2, rfl⟩ := x_pure hone rfl rfl rfl
      simp only [zz_da] at h2
      split at h2
      · rename_i x hx
        cases h2
        dsimp only at hh
        unfold x_ldv at hh
        rw [t_nth_eq] at hh
        obtain ⟨y, h3, h4⟩ := hA.2 j _ hx
        rw [h3] at hh
        split at hh
        · rename_i v hv
          cases hv
          obtain ⟨T', rfl, h5⟩ := x_ev_ok hh
          unfold x_st at h5
          rw [t_upd_eq, t_fn_eq] at h5
          have hd : xd I Q T' 0 (ρ ++ [wr (xe ρ v.2 + n)]) (fh cs) := hd _ rfl
          rw [xe_of (h4 v rfl).1] at hd
          have e : (x + Int32.ofInt n).toInt = wr (fv (.int x) + n) := by
            rw [Int32.toInt_add, Int32.toInt_ofInt_of_le (by omega) (by omega)]
            rfl
          rw [← e] at hd
          have hj : j < L.length := by
            unfold zz_ld at hx
            split at hx
            · rename_i hq
              exact (List.getElem?_eq_some_iff.mp hq).1
            · cases hx
          exact xNx_1 h5 hl (xRL_sv (xRL_ext hA) ⟨by rw [← hl]; exact xl_new _, rfl⟩ hj) (xRS_ext hS) hF hd
        · cases hh
      · cases h2
    · cases h1
  · -- ineg
    cases h1
    obtain ⟨pc', L', t', h2, rfl⟩ := x_pure hone rfl rfl rfl
    simp only [zz_da] at h2
    split at h2
    · rename_i x s
      cases h2
      exact x_1_ok hh hl hA hS hF hd (fun a t2 e => by
        cases e
        exact ⟨_, rfl, rfl, Int32.toInt_neg x⟩)
    · cases h2
  · -- l2i
    cases h1
    obtain ⟨pc', L', t', h2, rfl⟩ := x_pure hone rfl rfl rfl
    simp only [zz_da] at h2
    split at h2
    · rename_i x s
      cases h2
      exact x_1_ok hh hl hA hS hF hd (fun a t2 e => by
        cases e
        exact ⟨_, rfl, rfl, Int64.toInt_toInt32 x⟩)
    · cases h2
  · -- i2l
    cases h1
    obtain ⟨pc', L', t', h2, rfl⟩ := x_pure hone rfl rfl rfl
    simp only [zz_da] at h2
    split at h2
    · rename_i x s
      cases h2
      dsimp only at hh
      split at hh
      · rename_i τ y s'
        obtain ⟨u, t2, h3, hu, hS2⟩ := xRS_cons hS
        cases h3
        rw [t_fn_eq] at hh
        exact xNx_0 hh hl hA ⟨⟨by rw [show fv (Value.long x.toInt64) = x.toInt64.toInt from rfl, Int32.toInt_toInt64]; exact hu.1, rfl⟩, hS2⟩ hF hd
      · cases hh
    · cases h2
  · -- dup
    cases h1
    obtain ⟨pc', L', t', h2, rfl⟩ := x_pure hone rfl rfl rfl
    simp only [zz_da] at h2
    split at h2
    · rename_i v s
      split at h2
      · cases h2
        dsimp only at hh
        split at hh
        · obtain ⟨u, t2, h3, hu, hS2⟩ := xRS_cons hS
          cases h3
          rw [t_fn_eq] at hh
          exact xNx_0 hh hl hA ⟨hu, hu, hS2⟩ hF hd
        · cases hh
      · cases h2
    · cases h2
  · -- dup2
    cases h1
    obtain ⟨pc', L', t', h2, rfl⟩ := x_pure hone rfl rfl rfl
    simp only [zz_da] at h2
    split at h2
    · rename_i v w s
      split at h2
      · cases h2
        dsimp only at hh
        split at hh
        · obtain ⟨u, t2, h3, hu, hS2⟩ := xRS_cons hS
          obtain ⟨u2, t3, h4, hu2, hS3⟩ := xRS_cons hS2
          cases h3
          cases h4
          rw [t_fn_eq] at hh
          exact xNx_0 hh hl hA ⟨hu, hu2, hu, hu2, hS3⟩ hF hd
        · cases hh
      · cases h2
    · cases h2
  · -- pop
    cases h1
    obtain ⟨pc', L', t', h2, rfl⟩ := x_pure hone rfl rfl rfl
    simp only [zz_da] at h2
    split at h2
    · rename_i v s
      split at h2
      · cases h2
        dsimp only at hh
        split at hh
        · obtain ⟨u, t2, h3, hu, hS2⟩ := xRS_cons hS
          cases h3
          rw [t_fn_eq] at hh
          exact xNx_0 hh hl hA hS2 hF hd
        · cases hh
      · cases h2
    · cases h2
  · -- goto
    cases h1
    obtain ⟨pc', L', t', h2, rfl⟩ := x_pure hone rfl rfl rfl
    simp only [zz_da] at h2
    obtain ⟨tt, h3, h4⟩ := x_go_ok hh
    rw [h3] at h2
    cases h2
    exact xNx_0 h4 hl hA hS hF hd
  · -- ifCond
    rename_i op off
    cases h1
    obtain ⟨pc', L', t', h2, rfl⟩ := x_pure hone rfl rfl rfl
    simp only [zz_da] at h2
    split at h2
    · rename_i x s
      rw [t_if_rel] at h2
      dsimp only at hh
      split at hh
      · rename_i τ y s'
        obtain ⟨u, t2, h3, hu, hS2⟩ := xRS_cons hS
        cases h3
        obtain ⟨rfl, rfl, T', h5, h6⟩ := x_bo_ok hh hu.1 (show xl ρ (.inr 0) 0 from rfl) hd h2
        exact xNx_0 h5 hl hA hS2 hF h6
      · cases hh
    · cases h2
  · -- if_icmp
    rename_i op off
    cases h1
    obtain ⟨pc', L', t', h2, rfl⟩ := x_pure hone rfl rfl rfl
    simp only [zz_da] at h2
    split at h2
    · rename_i y x s
      rw [t_ic_rel] at h2
      dsimp only at hh
      split at hh
      · rename_i τ y' τ2 x' s'
        obtain ⟨u, t2, h3, hu, hS2⟩ := xRS_cons hS
        obtain ⟨u2, t3, h4, hu2, hS3⟩ := xRS_cons hS2
        cases h3
        cases h4
        obtain ⟨rfl, rfl, T', h5, h6⟩ := x_bo_ok hh hu2.1 hu.1 hd h2
        exact xNx_0 h5 hl hA hS3 hF h6
      · cases hh
    · cases h2
  · -- tableswitch
    rename_i d lo hi offs
    cases h1
    obtain ⟨pc', L', t', h2, rfl⟩ := x_pure hone rfl rfl rfl
    simp only [zz_da] at h2
    split at h2
    · rename_i x s
      dsimp only at hh
      split at hh
      · rename_i τ x' s'
        obtain ⟨u, t2, h3, hu, hS2⟩ := xRS_cons hS
        cases h3
        split at hh
        · rename_i hlen
          rw [t_eq_iff, t_len_eq] at hlen
          have hlen : hi - lo = (offs.toList.length : Int) - 1 := hlen
          obtain ⟨T', tt, h5, h6, h7⟩ := x_cs_ok hu.1 hh hd
          rw [x_fst_ts] at h5
          have hx : fv (Value.int x) = x.toInt := rfl
          rw [hx] at h5
          by_cases hc : x.toInt < lo ∨ hi < x.toInt
          · rw [if_pos hc] at h2
            rw [if_pos (by omega)] at h5
            rw [h5] at h2
            cases h2
            exact xNx_0 h6 hl hA hS2 hF h7
          · rw [if_neg hc] at h2
            rw [if_neg (by omega)] at h5
            rw [Array.getElem?_toList] at h5
            split at h2
            · rename_i off ho
              rw [ho] at h5
              rw [show ((some off : Option Int).getD d) = off from rfl] at h5
              rw [h5] at h2
              cases h2
              exact xNx_0 h6 hl hA hS2 hF h7
            · cases h2
        · cases hh
      · cases hh
    · cases h2
  · -- lookupswitch
    rename_i d ps
    cases h1
    obtain ⟨pc', L', t', h2, rfl⟩ := x_pure hone rfl rfl rfl
    simp only [zz_da] at h2
    split at h2
    · rename_i x s
      dsimp only at hh
      split at hh
      · rename_i τ x' s'
        obtain ⟨u, t2, h3, hu, hS2⟩ := xRS_cons hS
        cases h3
        split at h2
        · obtain ⟨T', tt, h5, h6, h7⟩ := x_cs_ok hu.1 hh hd
          rw [x_fst_ls] at h5
          have hx : fv (Value.int x) = x.toInt := rfl
          rw [hx] at h5
          rw [h5] at h2
          cases h2
          exact xNx_0 h6 hl hA hS2 hF h7
        · cases h2
      · cases hh
    · cases h2
  · cases h1
    exact x_getf_ok hone hh hl hA hS hF hd
  · cases h1
    exact x_putf_ok hone hh hl hA hS hF hd
  · cases h1
    dsimp only at hh
    split at hh
    · exact x_ild_ok (kk := fun _ _ _ => True) hone rfl hh hl hA hS hF hd
    · cases hh
  · cases h1
    dsimp only at hh
    split at hh
    · exact x_ist_ok hone rfl hh hl hA hS hF hd
    · cases hh
  · cases h1
    exact x_ald_ok hone hh hl hA hS hF hd
  · cases h1
    dsimp only at hh
    split at hh
    · split at hh
      · cases hh
      · rename_i hr
        split at hh
        · exact x_ast_ok hone hr rfl hh hl hA hS hF hd
        · cases hh
    · cases hh
  · cases h1
    dsimp only at hh
    split at hh
    · exact x_aln_ok hone rfl hh hl hA hS hF hd
    · cases hh
  · split at h1
    · rename_i o τ har
      cases h1
      exact x_ar_ok har hone hh hl hA hS hF hd
    · cases h1
theorem x_op_nr {f : xX} {t : List Value} {cs : zz_W} {r : List Nat} {ret : Option FieldType} (h1 : x_op ins = some f) : zz_rt1 ins ret t = none ∧ zz_ca ins r t cs = none := by
  constructor
  · unfold zz_rt1
    split
    · cases h1
    · cases h1
    · cases h1
    · rfl
  · unfold zz_ca
    split
    · cases h1
    · cases h1
    · cases h1
    · rfl
end XS3
