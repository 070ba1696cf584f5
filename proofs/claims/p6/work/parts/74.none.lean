/-! the check of trees is sound: every instruction -/
section XS2
variable {ρ ρ2 : List Int} {I : Nat → List Int → fH → Prop} {Q : Int → fH → Prop} {T : xT} {h : fH} {A : xL} {L : List (Option Value)} {st : xS} {t : List Value} {cs : zz_W} {pc p len lvl cu su : Nat} {r : List Nat} {v0 : Value} {k : xK} {σ' : zz_S} {q : Nat × Nat × Nat × Nat} {ins : Instr}
theorem xtB_0 {u : Value} {τ : Nat} (h : xtB τ u) (hn : τ ≠ 1) : xtB 0 u := by
  match τ, h with
  | 0, h => exact h
  | 1, h => exact absurd rfl hn
  | t + 2, h => exact h.1
theorem x_getf_ok {ix : Nat} (hone : zz_one q (p, .getfield ix, len, r, v0) (pc, L, t, cs, cu, su) = some σ') (hh : x_getf r v0 pc A st lvl T k = true) (hl : ρ.length = lvl) (hA : xRL ρ A L) (hS : xRS ρ st t) (hF : fFX cs) (hd : xd I Q T 0 ρ (fh cs)) : xNx k I Q ρ cu su σ' := by
  obtain ⟨pc', L', t', cs', h1, rfl⟩ := x_heap hone rfl rfl rfl
  unfold x_getf at hh
  split at hh
  · rename_i ci f w
    split at hh
    · rename_i τ o s
      obtain ⟨u, t2, rfl, hu, hS2⟩ := xRS_cons hS
      simp only [zz_db] at h1
      split at h1
      · rename_i i rest heq
        cases heq
        split at h1
        · rename_i cj fs hc
          split at h1
          · rename_i hcj
            subst hcj
            split at h1
            · rename_i v hv
              cases h1
              obtain ⟨b1, b2⟩ := f_obj hF hc
              have hcat := b2 v (List.mem_of_getElem? hv)
              have hfh : fh cs (i : Int) (f : Int) = fv v := by
                rw [fh_at cs i f hc]
                simp only [fcl]
                rw [hv]
              split at hh
              · rename_i ab z τ' hr
                obtain ⟨c1, c2⟩ := f_rule hF hr b1
                rw [hfh] at c1
                have htg : xtB τ' v := by
                  match τ', c2 with
                  | 0, _ => exact hcat
                  | t + 2, c2 =>
                    refine ⟨hcat, fun j hj => ?_⟩
                    rw [hj] at c1
                    have c1 : ((j : Nat) : Int) = f_to i (ab, z, t + 2) := c1
                    rw [← c1] at c2
                    have c2 : (match f_ct[j]? with | some (a, u, _) => Nat.beq a 1 && Nat.beq u t | none => false) = true := c2
                    split at c2
                    · rename_i a u' n hq
                      rw [Bool.and_eq_true] at c2
                      have e1 := Nat.eq_of_beq_eq_true c2.1
                      have e2 := Nat.eq_of_beq_eq_true c2.2
                      subst e1
                      subst e2
                      exact ⟨n, hq⟩
                    · cases c2
                split at hh
                · rw [t_fi_eq, t_fn_eq] at hh
                  exact xNx_0 hh hl hA ⟨⟨c1.symm, htg⟩, hS2⟩ hF hd
                · split at hh
                  · rename_i y
                    rw [t_fi_eq, t_fn_eq] at hh
                    have hy : y = (i : Int) := hu.1
                    subst hy
                    exact xNx_0 hh hl hA ⟨⟨c1.symm, htg⟩, hS2⟩ hF hd
                  · rename_i y
                    obtain ⟨T', rfl, h2⟩ := x_ev_ok hh
                    rw [t_fn_eq] at h2
                    have hd : xd I Q T' 0 (ρ ++ [xe ρ (.inl y) + z]) (fh cs) := hd _ rfl
                    rw [xe_of hu.1] at hd
                    have c1 : fv v = (i : Int) + z := c1
                    rw [show fv (Value.ref i) = (i : Int) from rfl, ← c1] at hd
                    exact xNx_1 h2 hl (xRL_ext hA) ⟨⟨by rw [← hl]; exact xl_new _, htg⟩, xRS_ext hS2⟩ hF hd
              · obtain ⟨T', rfl, h2⟩ := x_ev_ok hh
                rw [t_fn_eq] at h2
                have hd : xd I Q T' 0 (ρ ++ [fh cs (xe ρ o) (f : Int)]) (fh cs) := hd _ rfl
                rw [xe_of hu.1, show fv (Value.ref i) = (i : Int) from rfl, hfh] at hd
                exact xNx_1 h2 hl (xRL_ext hA) ⟨⟨by rw [← hl]; exact xl_new _, hcat⟩, xRS_ext hS2⟩ hF hd
            · cases h1
          · cases h1
        · cases h1
      · cases h1
    · cases hh
  · cases hh
theorem x_putf_ok {ix : Nat} (hone : zz_one q (p, .putfield ix, len, r, v0) (pc, L, t, cs, cu, su) = some σ') (hh : x_putf r v0 pc A st lvl T k = true) (hl : ρ.length = lvl) (hA : xRL ρ A L) (hS : xRS ρ st t) (hF : fFX cs) (hd : xd I Q T 0 ρ (fh cs)) : xNx k I Q ρ cu su σ' := by
  obtain ⟨pc', L', t', cs', h1, rfl⟩ := x_heap hone rfl rfl rfl
  unfold x_putf at hh
  split at hh
  · rename_i ci f w tc
    split at hh
    · rename_i τ1 v τ2 o s
      obtain ⟨u, t2, rfl, hu, hS2⟩ := xRS_cons hS
      obtain ⟨y, t3, rfl, hy, hS3⟩ := xRS_cons hS2
      split at hh
      · cases hh
      · rename_i hr
        split at hh
        · cases hh
        · rename_i htc
          simp only [zz_db] at h1
          split at h1
          · rename_i v' i rest heq
            cases heq
            split at h1
            · rename_i cj fs hc
              split at h1
              · rename_i hq
                cases h1
                obtain ⟨q1, q2, q3⟩ := hq
                subst q1
                obtain ⟨b1, b2⟩ := f_put hF hc q2 hr (f_fit q3 htc)
                obtain ⟨T', rfl, h2⟩ := x_em_ok hh
                rw [t_fn_eq] at h2
                have hd : xd I Q T' 0 ρ (fu (fh cs) (xe ρ o) (f : Int) (xe ρ v)) := hd _ rfl
                rw [xe_of hu.1, xe_of hy.1] at hd
                refine xNx_0 h2 hl hA hS3 b1 ?_
                rw [b2]
                exact hd
              · cases h1
            · cases h1
          · cases h1
    · cases hh
  · cases hh
theorem x_ild_ok (hone : zz_one q (p, .iaload, len, r, v0) (pc, L, t, cs, cu, su) = some σ') {kk : xV → xV → xS → Prop} {τ1 τ2 : Nat} {i a : xO} {s : xS} (hst : st = (τ1, i) :: (τ2, a) :: s) (hh : x_ev (1, [a, i], 0, 0) lvl T (fun v l T' => t_fn (Nat.add pc 1) (fun pc' => k pc' A ((0, v) :: s) l T')) = true) (hl : ρ.length = lvl) (hA : xRL ρ A L) (hS : xRS ρ st t) (hF : fFX cs) (hd : xd I Q T 0 ρ (fh cs)) : xNx k I Q ρ cu su σ' := by
  obtain ⟨pc', L', t', cs', h1, rfl⟩ := x_heap hone rfl rfl rfl
  subst hst
  obtain ⟨u, t2, rfl, hu, hS2⟩ := xRS_cons hS
  obtain ⟨y, t3, rfl, hy, hS3⟩ := xRS_cons hS2
  simp only [zz_db] at h1
  split at h1
  · rename_i j b rest heq
    cases heq
    split at h1
    · rename_i xs hc
      split at h1
      · rename_i hq
        cases h1
        obtain ⟨q1, q2, q3⟩ := f_ix hq
        obtain ⟨T', rfl, h2⟩ := x_ev_ok hh
        rw [t_fn_eq] at h2
        have hd : xd I Q T' 0 (ρ ++ [fh cs (xe ρ a) (xe ρ i)]) (fh cs) := hd _ rfl
        rw [xe_of hu.1, xe_of hy.1] at hd
        have e : fh cs (fv (.ref b)) (fv (.int j)) = (xs.getD j.toNatClampNeg 0).toInt := by
          show fh cs (b : Int) j.toInt = _
          rw [← q3, fh_at cs b _ hc]
          simp only [fcl]
          rw [List.getElem?_eq_getElem q2, List.getD_eq_getElem?_getD, List.getElem?_eq_getElem q2]
          rfl
        rw [e] at hd
        exact xNx_1 h2 hl (xRL_ext hA) ⟨⟨by rw [← hl]; exact xl_new _, rfl⟩, xRS_ext hS3⟩ hF hd
      · cases h1
    · cases h1
  · cases h1
theorem x_ist_ok (hone : zz_one q (p, .iastore, len, r, v0) (pc, L, t, cs, cu, su) = some σ') {τ1 τ2 τ3 : Nat} {v i a : xO} {s : xS} (hst : st = (τ1, v) :: (τ2, i) :: (τ3, a) :: s) (hh : x_em (3, [a, i, v], 0, 0) T (fun T' => t_fn (Nat.add pc 1) (fun pc' => k pc' A s lvl T')) = true) (hl : ρ.length = lvl) (hA : xRL ρ A L) (hS : xRS ρ st t) (hF : fFX cs) (hd : xd I Q T 0 ρ (fh cs)) : xNx k I Q ρ cu su σ' := by
  obtain ⟨pc', L', t', cs', h1, rfl⟩ := x_heap hone rfl rfl rfl
  subst hst
  obtain ⟨u, t2, rfl, hu, hS2⟩ := xRS_cons hS
  obtain ⟨y, t3, rfl, hy, hS3⟩ := xRS_cons hS2
  obtain ⟨w, t4, rfl, hw, hS4⟩ := xRS_cons hS3
  simp only [zz_db] at h1
  split at h1
  · rename_i x j b rest heq
    cases heq
    split at h1
    · rename_i xs hc
      split at h1
      · rename_i hq
        cases h1
        obtain ⟨q1, q2, q3⟩ := f_ix hq
        obtain ⟨b1, b2⟩ := f_sti (x := x) hF hc q2
        obtain ⟨T', rfl, h2⟩ := x_em_ok hh
        rw [t_fn_eq] at h2
        have hd : xd I Q T' 0 ρ (fu (fh cs) (xe ρ a) (xe ρ i) (xe ρ v)) := hd _ rfl
        rw [xe_of hu.1, xe_of hy.1, xe_of hw.1] at hd
        refine xNx_0 h2 hl hA hS4 b1 ?_
        rw [b2, q3]
        exact hd
      · cases h1
    · cases h1
  · cases h1
theorem x_ast_ok {t0 w1 w2 : Nat} (hone : zz_one q (p, .aastore, len, [t0, w1, w2], v0) (pc, L, t, cs, cu, su) = some σ') (hr : f_arr t0 = none) {τ1 τ2 τ3 : Nat} {v i a : xO} {s : xS} (hst : st = (τ1, v) :: (τ2, i) :: (τ3, a) :: s) (hh : x_em (3, [a, i, v], 0, 0) T (fun T' => t_fn (Nat.add pc 1) (fun pc' => k pc' A s lvl T')) = true) (hl : ρ.length = lvl) (hA : xRL ρ A L) (hS : xRS ρ st t) (hF : fFX cs) (hd : xd I Q T 0 ρ (fh cs)) : xNx k I Q ρ cu su σ' := by
  obtain ⟨pc', L', t', cs', h1, rfl⟩ := x_heap hone rfl rfl rfl
  subst hst
  obtain ⟨u, t2, rfl, hu, hS2⟩ := xRS_cons hS
  obtain ⟨y, t3, rfl, hy, hS3⟩ := xRS_cons hS2
  obtain ⟨w, t4, rfl, hw, hS4⟩ := xRS_cons hS3
  simp only [zz_db] at h1
  split at h1
  · rename_i x j b rest heq
    cases heq
    split at h1
    · rename_i t1 rs hc
      split at h1
      · split at h1
        · rename_i hq
          cases h1
          obtain ⟨q0, qc, qi⟩ := hq
          subst q0
          obtain ⟨q1, q2, q3⟩ := f_ix qi
          obtain ⟨b1, b2⟩ := f_sta (w := x) hF hc q2 hr
          obtain ⟨T', rfl, h2⟩ := x_em_ok hh
          rw [t_fn_eq] at h2
          have hd : xd I Q T' 0 ρ (fu (fh cs) (xe ρ a) (xe ρ i) (xe ρ v)) := hd _ rfl
          rw [xe_of hu.1, xe_of hy.1, xe_of hw.1] at hd
          refine xNx_0 h2 hl hA hS4 b1 ?_
          rw [b2, q3]
          exact hd
        · cases h1
      · cases h1
    · cases h1
  · cases h1
theorem x_ald_ok (hone : zz_one q (p, .aaload, len, r, v0) (pc, L, t, cs, cu, su) = some σ') (hh : x_ald r v0 pc A st lvl T k = true) (hl : ρ.length = lvl) (hA : xRL ρ A L) (hS : xRS ρ st t) (hF : fFX cs) (hd : xd I Q T 0 ρ (fh cs)) : xNx k I Q ρ cu su σ' := by
  obtain ⟨pc', L', t', cs', h1, rfl⟩ := x_heap hone rfl rfl rfl
  unfold x_ald at hh
  split at hh
  · rename_i τ1 i τ a s
    obtain ⟨u, t2, rfl, hu, hS2⟩ := xRS_cons hS
    obtain ⟨y, t3, rfl, hy, hS3⟩ := xRS_cons hS2
    simp only [zz_db] at h1
    split at h1
    · rename_i j b rest heq
      cases heq
      split at h1
      · rename_i t1 rs hc
        split at h1
        · rename_i hq
          cases h1
          obtain ⟨q1, q2, q3⟩ := f_ix hq.1
          have hkd := f_kind hF hc
          have e : fh cs (fv (.ref b)) (fv (.int j)) = fv (va_rf (rs.getD j.toNatClampNeg none)) := by
            show fh cs (b : Int) j.toInt = _
            rw [← q3, fh_at cs b _ hc, fv_rf]
            simp only [fcl]
            rw [List.getElem?_eq_getElem q2, List.getD_eq_getElem?_getD, List.getElem?_eq_getElem q2]
            rfl
          have hcat : (va_rf (rs.getD j.toNatClampNeg none)).category = 1 := by
            cases rs.getD j.toNatClampNeg none <;> rfl
          split at hh
          · rename_i t0
            have hty : t1 = t0 := by
              obtain ⟨n, hn⟩ := hy.2.2 b rfl
              rw [hn] at hkd
              simp only [fct, Option.some.injEq, Prod.mk.injEq] at hkd
              exact hkd.2.1.symm
            subst hty
            split at hh
            · rename_i m hr
              have e2 := f_arule hF hr hkd q2
              obtain ⟨T', rfl, h2⟩ := x_ev_ok hh
              rw [t_fn_eq] at h2
              have hd : xd I Q T' 0 (ρ ++ [xe ρ a + 1 + m * xe ρ i]) (fh cs) := hd _ rfl
              rw [xe_of hu.1, xe_of hy.1] at hd
              have e3 : fv (.ref b) + 1 + m * fv (.int j) = fv (va_rf (rs.getD j.toNatClampNeg none)) := by
                rw [← e]
                show (b : Int) + 1 + m * j.toInt = fh cs (b : Int) j.toInt
                rw [← q3, e2]
              rw [e3] at hd
              exact xNx_1 h2 hl (xRL_ext hA) ⟨⟨by rw [← hl]; exact xl_new _, hcat⟩, xRS_ext hS3⟩ hF hd
            · obtain ⟨T', rfl, h2⟩ := x_ev_ok hh
              rw [t_fn_eq] at h2
              have hd : xd I Q T' 0 (ρ ++ [fh cs (xe ρ a) (xe ρ i)]) (fh cs) := hd _ rfl
              rw [xe_of hu.1, xe_of hy.1, e] at hd
              exact xNx_1 h2 hl (xRL_ext hA) ⟨⟨by rw [← hl]; exact xl_new _, hcat⟩, xRS_ext hS3⟩ hF hd
          · cases hh
        · cases h1
      · cases h1
    · cases h1
  · cases hh
theorem x_aln_ok (hone : zz_one q (p, .arraylength, len, r, v0) (pc, L, t, cs, cu, su) = some σ') {τ1 : Nat} {a : xO} {s : xS} (hst : st = (τ1, a) :: s) (hh : x_ev (6, [a], 0, 0) lvl T (fun v l T' => t_fn (Nat.add pc 1) (fun pc' => k pc' A ((0, v) :: s) l T')) = true) (hl : ρ.length = lvl) (hA : xRL ρ A L) (hS : xRS ρ st t) (hF : fFX cs) (hd : xd I Q T 0 ρ (fh cs)) : xNx k I Q ρ cu su σ' := by
  obtain ⟨pc', L', t', cs', h1, rfl⟩ := x_heap hone rfl rfl rfl
  subst hst
  obtain ⟨u, t2, rfl, hu, hS2⟩ := xRS_cons hS
  obtain ⟨T', rfl, h2⟩ := x_ev_ok hh
  rw [t_fn_eq] at h2
  have hd : xd I Q T' 0 (ρ ++ [f_len (xe ρ a)]) (fh cs) := hd _ rfl
  rw [xe_of hu.1] at hd
  have key : ∀ (b n : Nat) (d : zz_C), zz_cell cs b = some d → (fct (some d)).2.2 = n → n ≤ 2000 → f_len (fv (.ref b)) = (Int32.ofNat n).toInt := by
    intro b n d hc hn hle
    have hk := f_kind hF hc
    show (match f_ct[b]? with | some (_, _, n) => (n : Int) | none => 0) = _
    rw [hk]
    show ((fct (some d)).2.2 : Int) = _
    rw [hn, Int32.toInt_ofNat_of_lt (by omega)]
  have small : ∀ (b : Nat) (d : zz_C), zz_cell cs b = some d → (fct (some d)).2.2 ≤ 2000 := by
    intro b d hc
    have h3 : f_ct.all (fun e => decide (e.2.2 ≤ 2000)) = true := by decide +kernel
    have h4 := List.all_eq_true.mp h3 _ (List.mem_of_getElem? (f_kind hF hc))
    simpa using h4
  simp only [zz_db] at h1
  split at h1
  · rename_i b rest heq
    cases heq
    split at h1
    · rename_i xs hc
      cases h1
      rw [key b xs.length _ hc rfl (small b _ hc)] at hd
      exact xNx_1 h2 hl (xRL_ext hA) ⟨⟨by rw [← hl]; exact xl_new _, rfl⟩, xRS_ext hS2⟩ hF hd
    · rename_i t1 rs hc
      split at h1
      · cases h1
        rw [key b rs.length _ hc rfl (small b _ hc)] at hd
        exact xNx_1 h2 hl (xRL_ext hA) ⟨⟨by rw [← hl]; exact xl_new _, rfl⟩, xRS_ext hS2⟩ hF hd
      · cases h1
    · cases h1
  · cases h1
theorem x_na_ok {ix : Nat} {a1 a2 a3 a4 a5 : Nat} (hone : zz_one q (p, .invokestatic ix, len, [a1, a2, a3, a4, a5], v0) (pc, L, t, cs, cu, su) = some σ') (hh : x_na [a1, a2, a3, a4, a5] v0 pc A st lvl T k = true) (hl : ρ.length = lvl) (hA : xRL ρ A L) (hS : xRS ρ st t) (hF : fFX cs) (hd : xd I Q T 0 ρ (fh cs)) : xNx k I Q ρ cu su σ' := by
  have hna : ∃ pc' L' t' cs', zz_na (.invokestatic ix) [a1, a2, a3, a4, a5] q.2.2.1 q.2.2.2 pc L t cs = some (pc', L', t', cs') ∧ σ' = (pc', L', t', cs', cu, su) := by
    simp only [zz_one, zz_da, zz_db, zz_al] at hone
    split at hone
    · rename_i h1
      cases hone
      exact ⟨_, _, _, _, h1, rfl⟩
    · cases hone
  obtain ⟨pc', L', t', cs', h1, rfl⟩ := hna
  unfold x_na at hh
  split at hh
  · rename_i b1 b2 b3 b4 b5 heq
    cases heq
    split at hh
    · simp only [zz_na] at h1
      split at h1
      · split at h1
        · cases h1
          exact x_2_ok hh hl hA hS hF hd (fun a b t2 e => by
            cases e
            exact ⟨_, rfl, rfl, g_max _ _⟩)
        · cases h1
      · cases h1
    · simp only [zz_na] at h1
      split at h1
      · split at h1
        · cases h1
          exact x_2_ok hh hl hA hS hF hd (fun a b t2 e => by
            cases e
            exact ⟨_, rfl, rfl, g_min _ _⟩)
        · cases h1
      · cases h1
    · split at hh
      · rename_i τ1 n y1 τ2 j y2 τ3 i s
        obtain ⟨u1, t1, rfl, hu1, hS1⟩ := xRS_cons hS
        obtain ⟨u2, t2, rfl, hu2, hS2⟩ := xRS_cons hS1
        obtain ⟨u3, t3, rfl, hu3, hS3⟩ := xRS_cons hS2
        obtain ⟨u4, t4, rfl, hu4, hS4⟩ := xRS_cons hS3
        obtain ⟨u5, t5, rfl, hu5, hS5⟩ := xRS_cons hS4
        simp only [zz_na] at h1
        split at h1
        · rename_i n' dp j' sp i' rest heq
          cases heq
          split at h1
          · rename_i xs hi
            split at h1
            · rename_i ys hj
              split at h1
              · rename_i hq
                cases h1
                obtain ⟨b1, b2⟩ := f_cpy hF hi hj hq.2.2.2.2.2.1 hq.2.2.2.2.2.2
                obtain ⟨T', rfl, h2⟩ := x_em_ok hh
                rw [t_fn_eq] at h2
                have hd : xd I Q T' 0 ρ (fcp (fh cs) (xe ρ i) (xe ρ j) (xe ρ n)) := hd _ rfl
                rw [xe_of hu1.1, xe_of hu3.1, xe_of hu5.1] at hd
                refine xNx_0 h2 hl hA hS5 b1 ?_
                rw [b2, f_neg hq.2.2.2.2.1]
                exact hd
              · cases h1
            · cases h1
          · cases h1
        · cases h1
      · cases hh
    · cases hh
  · rename_i hne
    exact absurd rfl (hne _ _ _ _ _)
theorem x_ar_ok {o τ : Nat} (har : x_ar ins = some (o, τ)) (hone : zz_one q (p, ins, len, r, v0) (pc, L, t, cs, cu, su) = some σ') (hh : x_2 o τ 1 r v0 pc A st lvl T k = true) (hl : ρ.length = lvl) (hA : xRL ρ A L) (hS : xRS ρ st t) (hF : fFX cs) (hd : xd I Q T 0 ρ (fh cs)) : xNx k I Q ρ cu su σ' := by
  unfold x_ar at har
  split at har
  · cases har
    exact x_i2_go hone rfl rfl rfl (fun _ _ _ e => x_i2_inv e) g_add hh hl hA hS hF hd
  · cases har
    exact x_i2_go hone rfl rfl rfl (fun _ _ _ e => x_i2_inv e) g_sub hh hl hA hS hF hd
  · cases har
    exact x_i2_go hone rfl rfl rfl (fun _ _ _ e => x_i2_inv e) g_mul hh hl hA hS hF hd
  · cases har
    exact x_i2_go hone rfl rfl rfl (fun _ _ _ e => x_i2_inv e) g_and hh hl hA hS hF hd
  · cases har
    exact x_i2_go hone rfl rfl rfl (fun _ _ _ e => x_i2_inv e) g_or hh hl hA hS hF hd
  · cases har
    exact x_i2_go hone rfl rfl rfl (fun _ _ _ e => x_i2_inv e) g_xor hh hl hA hS hF hd
  · cases har
    exact x_i2_go hone rfl rfl rfl (fun _ _ _ e => x_i2_inv (g := fun x y => x <<< (y &&& 31)) e) g_shl hh hl hA hS hF hd
  · cases har
    exact x_i2_go hone rfl rfl rfl (fun _ _ _ e => x_i2_inv (g := fun x y => x >>> (y &&& 31)) e) g_shr hh hl hA hS hF hd
  · cases har
    exact x_i2_go hone rfl rfl rfl (fun _ _ _ e => x_i2_inv (g := fun x y => (x.toUInt32 >>> (y.toUInt32 &&& Int32.toUInt32 31)).toInt32) e) g_ushr hh hl hA hS hF hd
  · cases har
    exact x_i2_go hone rfl rfl rfl (fun _ _ _ e => x_i2n_inv e) g_div hh hl hA hS hF hd
  · cases har
    exact x_i2_go hone rfl rfl rfl (fun _ _ _ e => x_i2n_inv (g := fun x y => x - x / y * y) e) g_rem hh hl hA hS hF hd
  · cases har
    exact x_l2_go hone rfl rfl rfl (fun _ _ _ e => x_l2_inv e) g_ladd hh hl hA hS hF hd
  · cases har
    exact x_l2_go hone rfl rfl rfl (fun _ _ _ e => x_l2_inv e) g_lsub hh hl hA hS hF hd
  · cases har
    exact x_l2_go hone rfl rfl rfl (fun _ _ _ e => x_l2_inv e) g_lmul hh hl hA hS hF hd
  · cases har
    exact x_l2_go hone rfl rfl rfl (fun _ _ _ e => x_l2n_inv e) g_ldiv hh hl hA hS hF hd
  · cases har
    exact x_l2_go hone rfl rfl rfl (fun _ _ _ e => x_l2n_inv (g := fun x y => x - x / y * y) e) g_lrem hh hl hA hS hF hd
  · cases har
    obtain ⟨pc', L', t', h1, rfl⟩ := x_pure hone rfl rfl rfl
    simp only [zz_da] at h1
    split at h1
    · cases h1
      exact x_2_ok hh hl hA hS hF hd (fun a b t2 e => by
        cases e
        exact ⟨_, rfl, rfl, g_lcmp _ _⟩)
    · cases h1
  · cases har
end XS2
