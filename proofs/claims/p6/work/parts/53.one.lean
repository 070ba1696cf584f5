/-! the typed machine is sound: every instruction -/
section TS6
variable {ρ : List Int} {rs : tB} {F : tF} {tk : List Nat} {cs : zz_W} {A : tL} {L : List (Option Value)} {st : List ta} {t : List Value} {mi : zz_Mi} {Mw pc len : Nat} {ins : Instr} {r : List Nat} {v0 : Value} {k : tK} {P : Option Value → zz_W → Prop}
def t_KK (mi : zz_Mi) (ρ : List Int) (cs : zz_W) (Mw : Nat) (k : tK) (P : Option Value → zz_W → Prop) : Prop := ∀ (ρ' : List Int) (pc' : Nat) (A' : tL) (st' : List ta) (F' : tF) (tk' : List Nat) (rs' : tB) (L' : List (Option Value)) (t' : List Value) (cs' : zz_W), t_ext ρ ρ' → t_stt ρ' rs' F' tk' cs' → t_loc ρ' A' L' → t_rS ρ' st' t' → t_frm Mw cs cs' → k pc' A' st' F' tk' rs' = true → tr_run mi (pc', L', t', cs', 0, 0) P
theorem t_da_go (hf : zz_fetch mi.2.2.2.2.2.2.2.2 pc = some (pc, ins, len, r, v0)) {pc' : Nat} {L' : List (Option Value)} {t' : List Value} (hda : zz_da ins pc L t = some (pc', L', t')) (hst : t_stt ρ rs F tk cs) (KK : t_KK mi ρ cs Mw k P) {ρ' : List Int} {rs' : tB} {A' : tL} {st' : List ta} (hx : t_ext ρ ρ') (hr : t_okr ρ' rs') (hA' : t_loc ρ' A' L') (hS' : t_rS ρ' st' t') (hk : k pc' A' st' F tk rs' = true) : tr_run mi (pc, L, t, cs, 0, 0) P :=
  tr_one hf (σ' := (pc', L', t', cs, 0, 0)) (by simp only [zz_one]; rw [hda]) (KK ρ' pc' A' st' F tk rs' L' t' cs hx (hst.ext hx hr) hA' hS' (t_frm_rf Mw cs) hk)
theorem t_da_g0 (hf : zz_fetch mi.2.2.2.2.2.2.2.2 pc = some (pc, ins, len, r, v0)) {pc' : Nat} {t' : List Value} (hda : zz_da ins pc L t = some (pc', L, t')) (hst : t_stt ρ rs F tk cs) (KK : t_KK mi ρ cs Mw k P) {st' : List ta} (hA : t_loc ρ A L) (hS' : t_rS ρ st' t') (hk : k pc' A st' F tk rs = true) : tr_run mi (pc, L, t, cs, 0, 0) P := t_da_go hf hda hst KK (t_ext.rf ρ) hst.1 hA hS' hk
theorem t_db_go (hf : zz_fetch mi.2.2.2.2.2.2.2.2 pc = some (pc, ins, len, r, v0)) {pc' : Nat} {t' : List Value} {cs' : zz_W} (hn : zz_da ins pc L t = none) (hdb : zz_db ins r v0 pc L t cs = some (pc', L, t', cs')) (KK : t_KK mi ρ cs Mw k P) {ρ' : List Int} {rs' : tB} {st' : List ta} {F' : tF} {tk' : List Nat} (hx : t_ext ρ ρ') (hst : t_stt ρ' rs' F' tk' cs') (hA' : t_loc ρ' A L) (hS' : t_rS ρ' st' t') (hfr : t_frm Mw cs cs') (hk : k pc' A st' F' tk' rs' = true) : tr_run mi (pc, L, t, cs, 0, 0) P :=
  tr_one hf (σ' := (pc', L, t', cs', 0, 0)) (by simp only [zz_one]; rw [hn]; dsimp only; rw [hdb]) (KK ρ' pc' A st' F' tk' rs' L t' cs' hx hst hA' hS' hfr hk)
theorem t_na_go (hf : zz_fetch mi.2.2.2.2.2.2.2.2 pc = some (pc, ins, len, r, v0)) {pc' : Nat} {t' : List Value} {cs' : zz_W} (hn : zz_da ins pc L t = none) (hn2 : zz_db ins r v0 pc L t cs = none) (hn3 : zz_al ins r mi.2.2.2.2.2.2.1.1 mi.2.2.2.2.2.2.1.2.1 pc L t cs 0 0 = none) (hna : zz_na ins r mi.2.2.2.2.2.2.1.2.2.1 mi.2.2.2.2.2.2.1.2.2.2 pc L t cs = some (pc', L, t', cs')) (KK : t_KK mi ρ cs Mw k P) {st' : List ta} {F' : tF} {tk' : List Nat} (hst : t_stt ρ rs F' tk' cs') (hA' : t_loc ρ A L) (hS' : t_rS ρ st' t') (hfr : t_frm Mw cs cs') (hk : k pc' A st' F' tk' rs = true) : tr_run mi (pc, L, t, cs, 0, 0) P :=
  tr_one hf (σ' := (pc', L, t', cs', 0, 0)) (by simp only [zz_one]; rw [hn]; dsimp only; rw [hn2]; dsimp only; rw [hn3]; dsimp only; rw [hna]) (KK ρ pc' A st' F' tk' rs L t' cs' (t_ext.rf ρ) hst hA' hS' hfr hk)
theorem t_con1_ok {z : Int} {kk : ta → Bool} (h : t_con1 z kk = true) {v : Int32} (hv : v.toInt = z) : ∃ x, kk x = true ∧ tgv ρ x (.int v) := by
  unfold t_con1 at h
  rw [t_fi_eq] at h
  exact ⟨_, h, v, rfl, tg_c (by omega) (by omega)⟩
theorem t_i2_go {f : tB → tT → tT → (tT → Bool) → Bool} {g : Int32 → Int32 → Int32} (hf : zz_fetch mi.2.2.2.2.2.2.2.2 pc = some (pc, ins, len, r, v0)) (h : t_i2 f rs st (fun s => t_nx pc 1 (fun pc' => k pc' A s F tk rs)) = true) (hst : t_stt ρ rs F tk cs) (hA : t_loc ρ A L) (hS : t_rS ρ st t) (KK : t_KK mi ρ cs Mw k P) (hs : tSI f g) (hda : ∀ a b t', zz_da ins pc L (.int b :: .int a :: t') = some (pc + 1, L, .int (g a b) :: t')) : tr_run mi (pc, L, t, cs, 0, 0) P := by
  obtain ⟨x, y, s, a, b, t', rfl, hx, hy, hS', h1⟩ := t_i2_ok h hS
  obtain ⟨z, h2, h3⟩ := hs ρ rs x y _ a b hst.1 hx hy h1
  unfold t_nx at h2
  rw [t_fn_eq] at h2
  exact t_da_g0 hf (hda a b t') hst KK hA (st' := .inl z :: s) ⟨⟨_, rfl, h3⟩, hS'⟩ h2
theorem t_i2n_go {f : tB → tT → tT → (tT → Bool) → Bool} {g : Int32 → Int32 → Int32} (hf : zz_fetch mi.2.2.2.2.2.2.2.2 pc = some (pc, ins, len, r, v0)) (h : t_i2 f rs st (fun s => t_nx pc 1 (fun pc' => k pc' A s F tk rs)) = true) (hst : t_stt ρ rs F tk cs) (hA : t_loc ρ A L) (hS : t_rS ρ st t) (KK : t_KK mi ρ cs Mw k P) (hs : tSN f g) (hda : ∀ a b t', b ≠ 0 → zz_da ins pc L (.int b :: .int a :: t') = some (pc + 1, L, .int (g a b) :: t')) : tr_run mi (pc, L, t, cs, 0, 0) P := by
  obtain ⟨x, y, s, a, b, t', rfl, hx, hy, hS', h1⟩ := t_i2_ok h hS
  obtain ⟨hb, z, h2, h3⟩ := hs ρ rs x y _ a b hst.1 hx hy h1
  unfold t_nx at h2
  rw [t_fn_eq] at h2
  exact t_da_g0 hf (hda a b t' hb) hst KK hA (st' := .inl z :: s) ⟨⟨_, rfl, h3⟩, hS'⟩ h2
theorem t_j2_go {f : tB → tT → tT → (tT → Bool) → Bool} {g : Int64 → Int64 → Int64} (hf : zz_fetch mi.2.2.2.2.2.2.2.2 pc = some (pc, ins, len, r, v0)) (h : t_j2 f rs st (fun s => t_nx pc 1 (fun pc' => k pc' A s F tk rs)) = true) (hst : t_stt ρ rs F tk cs) (hA : t_loc ρ A L) (hS : t_rS ρ st t) (KK : t_KK mi ρ cs Mw k P) (hs : ∀ (x y : tT) (kk : tT → Bool) (a b : Int64), tg ρ x a.toInt → tg ρ y b.toInt → f rs x y kk = true → kk tJ = true ∧ ∀ t', zz_da ins pc L (.long b :: .long a :: t') = some (pc + 1, L, .long (g a b) :: t')) : tr_run mi (pc, L, t, cs, 0, 0) P := by
  obtain ⟨x, y, s, a, b, t', rfl, hx, hy, hS', h1⟩ := t_j2_ok h hS
  obtain ⟨h2, h3⟩ := hs x y _ a b hx hy h1
  unfold t_nx at h2
  rw [t_fn_eq] at h2
  exact t_da_g0 hf (h3 t') hst KK hA (st' := .inr (.inl tJ) :: s) ⟨⟨_, rfl, tg_J _⟩, hS'⟩ h2
theorem t_cpy_ok {lo fr ix : Nat} {w1 w2 w3 w4 : Nat} {kk : List ta → tF → List Nat → Bool} (hfr1 : 1 ≤ fr) (h : t_cpy Mw lo st F tk rs kk = true) (hst : t_stt ρ rs F tk cs) (hS : t_rS ρ st t) : ∃ t' cs' s F' tk', zz_na (.invokestatic ix) [12, w1, w2, w3, w4] fr lo pc L t cs = some (pc + 3, L, t', cs') ∧ kk s F' tk' = true ∧ t_stt ρ rs F' tk' cs' ∧ t_rS ρ s t' ∧ t_frm Mw cs cs' := by
  unfold t_cpy at h
  split at h
  · rename_i n d rj s0 ri s
    rw [t_nth_eq] at h
    split at h
    · rename_i ci oi bi ni loi hii hri
      rw [t_nth_eq] at h
      split at h
      · rename_i c one b nj loj hij hrj
        obtain ⟨h1, h8⟩ := t_bool h
        replace h := h8
        clear h8
        simp only [t_and_iff, t_le_iff] at h1
        obtain ⟨q1, q2, q3, q4, q5, q6, q7, q8⟩ := h1
        obtain ⟨u1, t1, rfl, ⟨n', rfl, hn⟩, hS1⟩ := t_rS_cons hS
        obtain ⟨u2, t2, rfl, ⟨d', rfl, hd0⟩, hS2⟩ := t_rS_cons hS1
        obtain ⟨u3, t3, rfl, ⟨j, rfl, hj⟩, hS3⟩ := t_rS_cons hS2
        obtain ⟨u4, t4, rfl, ⟨sp, rfl, hs0⟩, hS4⟩ := t_rS_cons hS3
        obtain ⟨u5, t5, rfl, ⟨i, rfl, hi⟩, hS5⟩ := t_rS_cons hS4
        obtain ⟨e, he, hce⟩ := t_ref_ok hst.2.2.2 hi hri
        obtain ⟨g, hg, hcg⟩ := t_ref_ok hst.2.2.2 hj hrj
        match e, he, hce, g, hg, hcg with
        | .inl xs, he, ⟨e1, e2⟩, .inl ys, hg, ⟨g1, g2⟩ =>
          have b1 := t_wi_ok q1 hst.1 hn
          have b2 := t_wi_ok q2 hst.1 hn
          have b3 := t_wi_ok q3 hst.1 hd0
          have b4 := t_wi_ok q4 hst.1 hs0
          simp only [Int.ofNat_eq_natCast] at b1 b2 b3 b4
          have hd1 : d' = 0 := Int32.toInt_inj.mp (by show d'.toInt = 0; omega)
          have hs1 : sp = 0 := Int32.toInt_inj.mp (by show sp.toInt = 0; omega)
          subst hd1
          subst hs1
          have hn0 : ((n'.toNatClampNeg : Nat) : Int) = n'.toInt := by
            show ((n'.toInt.toNat : Nat) : Int) = _
            rw [Int.toNat_of_nonneg (by omega)]
          have hneg : ¬ n' < 0 := by
            rw [Int32.lt_iff_toInt_lt]
            show ¬ n'.toInt < 0
            omega
          have hb2 : n'.toInt ≤ (nj : Int) := b1.2
          have hb3 : n'.toInt ≤ (ni : Int) := b2.2
          have hlo : zz_ss t5 + 18 ≤ lo := by
            rw [t_css_of hS5]
            exact Nat.le_of_ble_eq_true q8
          have hcel : t_cel (.inl (nj, loj, hij)) (.inl (xs.take n'.toNatClampNeg ++ ys.drop n'.toNatClampNeg)) := by
            refine ⟨?_, fun z hz => ?_⟩
            · rw [List.length_append, List.length_take, List.length_drop]
              omega
            · rcases List.mem_append.mp hz with q | q
              · have := e2 z (List.mem_of_mem_take q)
                omega
              · exact g2 z (List.mem_of_mem_drop q)
          have hty := t_ty_set hst.2.2.2 hj hrj hg hcel
          have hfr : t_frm Mw cs (cs.set j (some (.inl (xs.take n'.toNatClampNeg ++ ys.drop n'.toNatClampNeg)))) := t_frm_set hj hrj hg ⟨by rw [hcel.1]; exact g1.symm, fun hq => by rw [q7] at hq; cases hq⟩
          have hna : zz_na (.invokestatic ix) [12, w1, w2, w3, w4] fr lo pc L (.int n' :: .int 0 :: .ref j :: .int 0 :: .ref i :: t5) cs = some (pc + 3, L, t5, cs.set j (some (.inl (xs.take n'.toNatClampNeg ++ ys.drop n'.toNatClampNeg)))) := by
            simp only [zz_na]
            rw [he]
            dsimp only
            rw [hg]
            dsimp only
            rw [if_pos ⟨hfr1, hlo, trivial, trivial, hneg, by omega, by omega⟩]
          cases one with
          | false =>
            exact ⟨t5, _, s, F, tk, hna, h, ⟨hst.1, t_fac_set hst.2.1 hg (fun e he => t_sngl_ne hj hrj (hst.2.1 e he).1), t_tks_set hst.2.2.1 hg (fun c hc => t_sngl_ne hj hrj (hst.2.2.1 c hc).1), hty⟩, hS5, hfr⟩
          | true =>
            dsimp only at h
            have hic : j = c := t_sgl_ok hj hrj
            subst hic
            unfold t_fdel t_tdel at h
            rw [t_fil_eq, t_fil_eq] at h
            exact ⟨t5, _, s, _, _, hna, h, ⟨hst.1, t_fdel_ok hst.2.1 hg rfl, t_tks_set (fun c hc => hst.2.2.1 c (t_tdl hc).1) hg (fun c hc => Ne.symm (t_tdl hc).2), hty⟩, hS5, hfr⟩
      · cases h
    · cases h
  · cases h
theorem t_nat_ok {ix : Nat} {dflt : Bool} (hf : zz_fetch mi.2.2.2.2.2.2.2.2 pc = some (pc, .invokestatic ix, len, r, v0)) (h : t_na Mw mi.2.2.2.2.2.2.1.2.2.1 mi.2.2.2.2.2.2.1.2.2.2 r pc A st F tk rs k dflt = true) (hst : t_stt ρ rs F tk cs) (hA : t_loc ρ A L) (hS : t_rS ρ st t) (KK : t_KK mi ρ cs Mw k P) (hd : dflt = true → r.length ≠ 5 → tr_run mi (pc, L, t, cs, 0, 0) P) : tr_run mi (pc, L, t, cs, 0, 0) P := by
  unfold t_na at h
  split at h
  · rename_i a w1 w2 w3 w4
    obtain ⟨h1, h8⟩ := t_bool h
    replace h := h8
    clear h8
    have h1 := Nat.le_of_ble_eq_true h1
    split at h
    · obtain ⟨h2, h8⟩ := t_bool h
      replace h := h8
      clear h8
      obtain ⟨x, y, s, a, b, t', rfl, hx, hy, hS', h3⟩ := t_i2_ok h hS
      obtain ⟨z, h4, h5⟩ := t_mmx_ok ρ rs x y _ a b hst.1 hx hy h3
      unfold t_nx at h4
      rw [t_fn_eq] at h4
      have hlo := Nat.le_of_ble_eq_true h2
      have hss : zz_ss t' + 13 ≤ mi.2.2.2.2.2.2.1.2.2.2 := by
        have hS2 : t_rS ρ (st.drop 2) t' := by
          match st, hS with
          | v :: w :: s', hS => exact hS.2.2
        rw [t_css_of hS2]
        exact hlo
      refine t_na_go hf rfl rfl rfl (t' := .int (if a < b then b else a) :: t') ?_ KK hst hA (st' := .inl z :: s) ⟨⟨_, rfl, h5⟩, hS'⟩ (t_frm_rf Mw cs) h4
      simp only [zz_na]
      rw [if_pos ⟨h1, hss⟩]
    · obtain ⟨h2, h8⟩ := t_bool h
      replace h := h8
      clear h8
      obtain ⟨x, y, s, a, b, t', rfl, hx, hy, hS', h3⟩ := t_i2_ok h hS
      obtain ⟨z, h4, h5⟩ := t_mmn_ok ρ rs x y _ a b hst.1 hx hy h3
      unfold t_nx at h4
      rw [t_fn_eq] at h4
      have hlo := Nat.le_of_ble_eq_true h2
      have hss : zz_ss t' + 13 ≤ mi.2.2.2.2.2.2.1.2.2.2 := by
        have hS2 : t_rS ρ (st.drop 2) t' := by
          match st, hS with
          | v :: w :: s', hS => exact hS.2.2
        rw [t_css_of hS2]
        exact hlo
      refine t_na_go hf rfl rfl rfl (t' := .int (if b < a then b else a) :: t') ?_ KK hst hA (st' := .inl z :: s) ⟨⟨_, rfl, h5⟩, hS'⟩ (t_frm_rf Mw cs) h4
      simp only [zz_na]
      rw [if_pos ⟨h1, hss⟩]
    · obtain ⟨t', cs', s, F', tk', h2, h3, h4, h5, h6⟩ := t_cpy_ok (L := L) (pc := pc) (ix := ix) (w1 := w1) (w2 := w2) (w3 := w3) (w4 := w4) h1 h hst hS
      unfold t_nx at h3
      rw [t_fn_eq] at h3
      exact t_na_go hf rfl rfl rfl h2 KK h4 hA h5 h6 h3
    · cases h
  · rename_i hne
    refine hd h (fun q => ?_)
    match r, q with
    | [a, b, c, d, e], _ => exact hne a b c d e rfl
theorem t_cmp_rel (op : ClassFile.Cond) (a b : Int64) : zz_if op (lg_cmp a b) = t_rel op a.toInt b.toInt := by
  have h1 : a > b ↔ b.toInt < a.toInt := Int64.lt_iff_toInt_lt
  have h2 : a = b ↔ a.toInt = b.toInt := Int64.toInt_inj.symm
  rw [t_if_rel]
  have key : ∀ z : Int, (z < 0 ↔ a.toInt < b.toInt) → (z = 0 ↔ a.toInt = b.toInt) → t_rel op z 0 = t_rel op a.toInt b.toInt := by
    intro z q1 q2
    cases op <;> simp only [t_rel] <;> (have q3 : (decide (z < 0) = decide (a.toInt < b.toInt)) := decide_eq_decide.mpr q1) <;> (have q4 : (decide (z = 0) = decide (a.toInt = b.toInt)) := decide_eq_decide.mpr q2) <;> first
      | exact q4
      | exact q3
      | (rw [q4]; done)
      | (rw [q3]; done)
      | (apply decide_eq_decide.mpr; omega)
  unfold lg_cmp
  by_cases h3 : a > b
  · rw [if_pos h3]
    rw [h1] at h3
    exact key (1 : Int32).toInt ⟨fun q => absurd q (by decide), fun q => by omega⟩ ⟨fun q => absurd q (by decide), fun q => by omega⟩
  · rw [if_neg h3]
    rw [h1] at h3
    by_cases h4 : a = b
    · rw [if_pos h4]
      rw [h2] at h4
      exact key (0 : Int32).toInt ⟨fun q => absurd q (by decide), fun q => by omega⟩ ⟨fun _ => h4, fun _ => by decide⟩
    · rw [if_neg h4]
      rw [h2] at h4
      exact key (-1 : Int32).toInt ⟨fun _ => by omega, fun _ => by decide⟩ ⟨fun q => absurd q (by decide), fun q => absurd q h4⟩
theorem t_nx_eq (n : Nat) (kk : Nat → Bool) : t_nx pc n kk = kk (pc + n) := by
  unfold t_nx
  rw [t_fn_eq]
  rfl
theorem t_one_ok {f : tX} {nx : Option zz_I} {dflt : Bool} (hf : zz_fetch mi.2.2.2.2.2.2.2.2 pc = some (pc, ins, len, r, v0)) (h1 : t_one ins = some f) (hnx : nx = zz_fetch mi.2.2.2.2.2.2.2.2 (pc + 1)) (hpcs : ∀ q e, zz_fetch mi.2.2.2.2.2.2.2.2 q = some e → e.1 = q) (h : f r v0 mi.2.2.2.2.2.2.1.2.2.1 mi.2.2.2.2.2.2.1.2.2.2 Mw pc A st F tk rs k nx dflt = true) (hst : t_stt ρ rs F tk cs) (hA : t_loc ρ A L) (hS : t_rS ρ st t) (KK : t_KK mi ρ cs Mw k P) (hd : dflt = true → r.length ≠ 5 → tr_run mi (pc, L, t, cs, 0, 0) P) : tr_run mi (pc, L, t, cs, 0, 0) P := by
  cases ins with
  | iconst n =>
    obtain rfl := Option.some.inj h1
    dsimp only at h
    obtain ⟨hin, h2⟩ := t_bool h
    rw [t_in_iff] at hin
    obtain ⟨x, h3, h4⟩ := t_con1_ok (ρ := ρ) h2 (v := Int32.ofInt n) (Int32.toInt_ofInt_of_le (by omega) (by omega))
    rw [t_nx_eq] at h3
    exact t_da_g0 hf rfl hst KK hA (st' := x :: st) ⟨h4, hS⟩ h3
  | bipush n =>
    obtain rfl := Option.some.inj h1
    dsimp only at h
    obtain ⟨x, h3, h4⟩ := t_con1_ok (ρ := ρ) h rfl
    rw [t_nx_eq] at h3
    exact t_da_g0 hf rfl hst KK hA (st' := x :: st) ⟨h4, hS⟩ h3
  | sipush n =>
    obtain rfl := Option.some.inj h1
    dsimp only at h
    obtain ⟨x, h3, h4⟩ := t_con1_ok (ρ := ρ) h rfl
    rw [t_nx_eq] at h3
    exact t_da_g0 hf rfl hst KK hA (st' := x :: st) ⟨h4, hS⟩ h3
  | ldc_w ix =>
    obtain rfl := Option.some.inj h1
    dsimp only at h
    split at h
    · rename_i v
      obtain ⟨x, h3, h4⟩ := t_con1_ok (ρ := ρ) h rfl
      rw [t_nx_eq] at h3
      exact t_db_go hf rfl rfl KK (t_ext.rf ρ) hst hA (st' := x :: st) ⟨h4, hS⟩ (t_frm_rf Mw cs) h3
    · cases h
  | ldc2_w ix =>
    obtain rfl := Option.some.inj h1
    dsimp only at h
    split at h
    · rename_i v
      rw [t_fi_eq, t_nx_eq] at h
      exact t_db_go hf rfl rfl KK (t_ext.rf ρ) hst hA (st' := .inr (.inl (0, v.toInt, v.toInt)) :: st) ⟨⟨v, rfl, tg_c (Int.le_refl _) (Int.le_refl _)⟩, hS⟩ (t_frm_rf Mw cs) h
    · cases h
  | lconst n =>
    obtain rfl := Option.some.inj h1
    dsimp only at h
    rw [t_fi_eq, t_nx_eq] at h
    have hv : (Int64.ofNat (n : Nat)).toInt = Int.ofNat (n : Nat) := by
      match n with
      | 0 => decide
      | 1 => decide
    exact t_da_g0 hf rfl hst KK hA (st' := .inr (.inl (0, Int.ofNat (n : Nat), Int.ofNat (n : Nat))) :: st) ⟨⟨_, rfl, tg_c (by rw [hv]; exact Int.le_refl _) (by rw [hv]; exact Int.le_refl _)⟩, hS⟩ h
  | iload_n j =>
    obtain rfl := Option.some.inj h1
    dsimp only at h
    obtain ⟨v, z, h2, h3, h4⟩ := t_ldI_ok h hA
    rw [t_nx_eq] at h2
    exact t_da_g0 hf (t' := .int z :: t) (by simp only [zz_da]; rw [h3]; rfl) hst KK hA (st' := v :: st) ⟨h4, hS⟩ h2
  | iload j =>
    obtain rfl := Option.some.inj h1
    dsimp only at h
    obtain ⟨v, z, h2, h3, h4⟩ := t_ldI_ok h hA
    rw [t_nx_eq] at h2
    exact t_da_g0 hf (t' := .int z :: t) (by simp only [zz_da]; rw [h3]; rfl) hst KK hA (st' := v :: st) ⟨h4, hS⟩ h2
  | lload_n j =>
    obtain rfl := Option.some.inj h1
    dsimp only at h
    obtain ⟨v, z, h2, h3, h4⟩ := t_ldJ_ok h hA
    rw [t_nx_eq] at h2
    exact t_da_g0 hf (t' := .long z :: t) (by simp only [zz_da]; rw [h3]; rfl) hst KK hA (st' := v :: st) ⟨h4, hS⟩ h2
  | lload j =>
    obtain rfl := Option.some.inj h1
    dsimp only at h
    obtain ⟨v, z, h2, h3, h4⟩ := t_ldJ_ok h hA
    rw [t_nx_eq] at h2
    exact t_da_g0 hf (t' := .long z :: t) (by simp only [zz_da]; rw [h3]; rfl) hst KK hA (st' := v :: st) ⟨h4, hS⟩ h2
  | aload_n j =>
    obtain rfl := Option.some.inj h1
    dsimp only at h
    obtain ⟨v, z, h2, h3, h4⟩ := t_ldA_ok h hA
    rw [t_nx_eq] at h2
    exact t_da_g0 hf (t' := .ref z :: t) (by simp only [zz_da]; rw [h3]; rfl) hst KK hA (st' := v :: st) ⟨h4, hS⟩ h2
  | aload j =>
    obtain rfl := Option.some.inj h1
    dsimp only at h
    obtain ⟨v, z, h2, h3, h4⟩ := t_ldA_ok h hA
    rw [t_nx_eq] at h2
    exact t_da_g0 hf (t' := .ref z :: t) (by simp only [zz_da]; rw [h3]; rfl) hst KK hA (st' := v :: st) ⟨h4, hS⟩ h2
  | istore_n j =>
    obtain rfl := Option.some.inj h1
    dsimp only at h
    split at h
    · rename_i x s
      obtain ⟨u, t', rfl, ⟨z, rfl, hz⟩, hS'⟩ := t_rS_cons hS
      obtain ⟨x', rs', ρ', h2, h3, h4, h5⟩ := t_name_ok h hst.1 hz
      obtain ⟨h6, A', h7, h8⟩ := t_st1 h2 (hA.ext h3) (u := .int z) ⟨z, rfl, h5⟩ rfl
      rw [t_nx_eq] at h7
      exact t_da_go hf (by simp only [zz_da, zz_si]; rw [if_pos h6]) hst KK h3 h4 h8 (hS'.ext h3) h7
    · cases h
  | istore j =>
    obtain rfl := Option.some.inj h1
    dsimp only at h
    split at h
    · rename_i x s
      obtain ⟨u, t', rfl, ⟨z, rfl, hz⟩, hS'⟩ := t_rS_cons hS
      obtain ⟨x', rs', ρ', h2, h3, h4, h5⟩ := t_name_ok h hst.1 hz
      obtain ⟨h6, A', h7, h8⟩ := t_st1 h2 (hA.ext h3) (u := .int z) ⟨z, rfl, h5⟩ rfl
      rw [t_nx_eq] at h7
      exact t_da_go hf (by simp only [zz_da, zz_si]; rw [if_pos h6]) hst KK h3 h4 h8 (hS'.ext h3) h7
    · cases h
  | astore_n j =>
    obtain rfl := Option.some.inj h1
    dsimp only at h
    split at h
    · rename_i x s
      obtain ⟨u, t', rfl, ⟨z, rfl, hz⟩, hS'⟩ := t_rS_cons hS
      obtain ⟨h6, A', h7, h8⟩ := t_st1 h hA (u := .ref z) ⟨z, rfl, hz⟩ rfl
      rw [t_nx_eq] at h7
      exact t_da_go hf (by simp only [zz_da, zz_sr]; rw [if_pos h6]) hst KK (t_ext.rf ρ) hst.1 h8 hS' h7
    · cases h
  | astore j =>
    obtain rfl := Option.some.inj h1
    dsimp only at h
    split at h
    · rename_i x s
      obtain ⟨u, t', rfl, ⟨z, rfl, hz⟩, hS'⟩ := t_rS_cons hS
      obtain ⟨h6, A', h7, h8⟩ := t_st1 h hA (u := .ref z) ⟨z, rfl, hz⟩ rfl
      rw [t_nx_eq] at h7
      exact t_da_go hf (by simp only [zz_da, zz_sr]; rw [if_pos h6]) hst KK (t_ext.rf ρ) hst.1 h8 hS' h7
    · cases h
  | lstore_n j =>
    obtain rfl := Option.some.inj h1
    dsimp only at h
    split at h
    · rename_i x s
      obtain ⟨u, t', rfl, ⟨z, rfl, hz⟩, hS'⟩ := t_rS_cons hS
      obtain ⟨x', rs', ρ', h2, h3, h4, h5⟩ := t_name_ok h hst.1 hz
      obtain ⟨h6, A', h7, h8⟩ := t_st2 h2 (hA.ext h3) (z := z) ⟨z, rfl, h5⟩
      rw [t_nx_eq] at h7
      exact t_da_go hf (by simp only [zz_da, zz_sl]; rw [if_pos h6]) hst KK h3 h4 h8 (hS'.ext h3) h7
    · cases h
  | lstore j =>
    obtain rfl := Option.some.inj h1
    dsimp only at h
    split at h
    · rename_i x s
      obtain ⟨u, t', rfl, ⟨z, rfl, hz⟩, hS'⟩ := t_rS_cons hS
      obtain ⟨x', rs', ρ', h2, h3, h4, h5⟩ := t_name_ok h hst.1 hz
      obtain ⟨h6, A', h7, h8⟩ := t_st2 h2 (hA.ext h3) (z := z) ⟨z, rfl, h5⟩
      rw [t_nx_eq] at h7
      exact t_da_go hf (by simp only [zz_da, zz_sl]; rw [if_pos h6]) hst KK h3 h4 h8 (hS'.ext h3) h7
    · cases h
  | iinc j n =>
    obtain rfl := Option.some.inj h1
    dsimp only at h
    obtain ⟨hin, h2⟩ := t_bool h
    rw [t_in_iff] at hin
    rw [t_nth_eq] at h2
    split at h2
    · rename_i x hx
      rcases hA.2 _ _ hx with q | ⟨u, hu, z, rfl, hz⟩
      · cases q
      · have hn : (Int32.ofInt n).toInt = n := Int32.toInt_ofInt_of_le (by omega) (by omega)
        obtain ⟨y, h3, h4⟩ := t_add_ok ρ rs x (0, n, n) _ z (Int32.ofInt n) hst.1 hz (tg_c (by omega) (by omega)) h2
        obtain ⟨x', rs', ρ', h5, h6, h7, h8⟩ := t_name_ok h3 hst.1 h4
        obtain ⟨h9, A', h10, h11⟩ := t_st1 h5 (hA.ext h6) (u := .int (z + Int32.ofInt n)) ⟨_, rfl, h8⟩ rfl
        rw [t_nx_eq] at h10
        exact t_da_go hf (by simp only [zz_da]; rw [t_ld_of hu]) hst KK h6 h7 h11 (hS.ext h6) h10
    · cases h2
  | ineg =>
    obtain rfl := Option.some.inj h1
    dsimp only at h
    split at h
    · rename_i x s
      obtain ⟨u, t', rfl, ⟨z, rfl, hz⟩, hS'⟩ := t_rS_cons hS
      obtain ⟨y, h2, h3⟩ := t_neg_ok hst.1 hz h
      rw [t_nx_eq] at h2
      exact t_da_g0 hf rfl hst KK hA (st' := .inl y :: s) ⟨⟨_, rfl, h3⟩, hS'⟩ h2
    · cases h
  | i2l =>
    obtain rfl := Option.some.inj h1
    dsimp only at h
    split at h
    · rename_i x s
      obtain ⟨u, t', rfl, ⟨z, rfl, hz⟩, hS'⟩ := t_rS_cons hS
      rw [t_nx_eq] at h
      exact t_da_g0 hf rfl hst KK hA (st' := .inr (.inl x) :: s) ⟨⟨z.toInt64, rfl, by rw [Int32.toInt_toInt64]; exact hz⟩, hS'⟩ h
    · cases h
  | lcmp =>
    obtain rfl := Option.some.inj h1
    dsimp only at h
    split at h
    · rename_i y x s
      obtain ⟨u, t', rfl, ⟨b, rfl, hb⟩, hS'⟩ := t_rS_cons hS
      obtain ⟨u2, t2, rfl, ⟨a, rfl, ha⟩, hS2⟩ := t_rS_cons hS'
      split at h
      · rename_i q op off l2 r2 v2
        rw [t_nx_eq] at h
        have hq := hpcs _ _ hnx.symm
        dsimp only at hq
        subst hq
        obtain ⟨tt, rs', h3, h4, h5⟩ := t_br_ok h hst.1 ha hb
        refine tr_one hf (σ' := (pc + 1, L, .int (lg_cmp a b) :: t2, cs, 0, 0)) (by simp only [zz_one]; rfl) ?_
        refine tr_one hnx.symm (σ' := (tt, L, t2, cs, 0, 0)) ?_ (KK ρ tt A s F tk rs' L t2 cs (t_ext.rf ρ) (hst.okr h4) hA hS2 (t_frm_rf Mw cs) h5)
        simp only [zz_one, zz_da]
        rw [t_cmp_rel, h3]
        rfl
      · cases h
    · cases h
  | dup =>
    obtain rfl := Option.some.inj h1
    dsimp only at h
    split at h
    · rename_i v s
      split at h
      · cases h
      · rename_i hv
        obtain ⟨u, t', rfl, hg, hS'⟩ := t_rS_cons hS
        rw [t_nx_eq] at h
        exact t_da_g0 hf (t' := u :: u :: t') (by simp only [zz_da]; rw [if_pos (by rw [t_cat_of hg, hv]; rfl)]) hst KK hA (st' := v :: v :: s) ⟨hg, hg, hS'⟩ h
    · cases h
  | pop =>
    obtain rfl := Option.some.inj h1
    dsimp only at h
    split at h
    · rename_i v s
      split at h
      · cases h
      · rename_i hv
        obtain ⟨u, t', rfl, hg, hS'⟩ := t_rS_cons hS
        rw [t_nx_eq] at h
        exact t_da_g0 hf (by simp only [zz_da]; rw [if_pos (by rw [t_cat_of hg, hv]; rfl)]) hst KK hA (st' := s) hS' h
    · cases h
  | dup2 =>
    obtain rfl := Option.some.inj h1
    dsimp only at h
    split at h
    · rename_i v w s
      split at h
      · cases h
      · rename_i hv
        split at h
        · cases h
        · rename_i hw
          obtain ⟨u, t', rfl, hg, hS'⟩ := t_rS_cons hS
          obtain ⟨u2, t2, rfl, hg2, hS2⟩ := t_rS_cons hS'
          rw [t_nx_eq] at h
          exact t_da_g0 hf (t' := u :: u2 :: u :: u2 :: t2) (by simp only [zz_da]; rw [if_pos ⟨by rw [t_cat_of hg, hv]; rfl, by rw [t_cat_of hg2, hw]; rfl⟩]) hst KK hA (st' := v :: w :: v :: w :: s) ⟨hg, hg2, hg, hg2, hS2⟩ h
    · cases h
  | goto off =>
    obtain rfl := Option.some.inj h1
    dsimp only at h
    obtain ⟨tt, h2, h3⟩ := t_to_ok h
    exact t_da_g0 hf (by simp only [zz_da]; rw [h2]; rfl) hst KK hA hS h3
  | ifCond op off =>
    obtain rfl := Option.some.inj h1
    dsimp only at h
    split at h
    · rename_i x s
      obtain ⟨u, t', rfl, ⟨z, rfl, hz⟩, hS'⟩ := t_rS_cons hS
      obtain ⟨tt, rs', h3, h4, h5⟩ := t_br_ok h hst.1 hz (w := 0) (tg_c (Int.le_refl _) (Int.le_refl _))
      exact t_da_go hf (by simp only [zz_da]; rw [t_if_rel, h3]; rfl) hst KK (t_ext.rf ρ) h4 hA hS' h5
    · cases h
  | if_icmp op off =>
    obtain rfl := Option.some.inj h1
    dsimp only at h
    split at h
    · rename_i y x s
      obtain ⟨u, t', rfl, ⟨b, rfl, hb⟩, hS'⟩ := t_rS_cons hS
      obtain ⟨u2, t2, rfl, ⟨a, rfl, ha⟩, hS2⟩ := t_rS_cons hS'
      obtain ⟨tt, rs', h3, h4, h5⟩ := t_br_ok h hst.1 ha hb
      exact t_da_go hf (by simp only [zz_da]; rw [t_ic_rel, h3]; rfl) hst KK (t_ext.rf ρ) h4 hA hS2 h5
    · cases h
  | tableswitch d lo hi offs =>
    obtain rfl := Option.some.inj h1
    dsimp only at h
    split at h
    · rename_i x s
      obtain ⟨u, t', rfl, ⟨z, rfl, hz⟩, hS'⟩ := t_rS_cons hS
      obtain ⟨tt, rs', h3, h4, h5⟩ := t_tsw_ok (L := L) (t := t') h hst.1 hz
      exact t_da_go hf h3 hst KK (t_ext.rf ρ) h4 hA hS' h5
    · cases h
  | lookupswitch d ps =>
    obtain rfl := Option.some.inj h1
    dsimp only at h
    split at h
    · rename_i x s
      obtain ⟨h1, h2⟩ := t_bool h
      rw [t_and_iff, t_all_iff] at h2
      obtain ⟨u, t', rfl, ⟨z, rfl, hz⟩, hS'⟩ := t_rS_cons hS
      have h3 : ∃ tt, zz_tg pc (Op.lookupswitch.offset ps.toList d z.toInt) = some tt ∧ k tt A s F tk rs = true := by
        rcases t_off_mem d z.toInt ps.toList with q | ⟨q, q1, q2⟩
        · rw [q]
          exact t_to_ok h2.1
        · rw [q2]
          exact t_to_ok (h2.2 q q1)
      obtain ⟨tt, h4, h5⟩ := h3
      exact t_da_g0 hf (by simp only [zz_da]; rw [if_pos h1, h4]; rfl) hst KK hA hS' h5
    · cases h
  | getfield ix =>
    obtain rfl := Option.some.inj h1
    dsimp only at h
    obtain ⟨u, t', v, s, F', rs', ρ', h2, h3, h4, h5, h6, h7⟩ := t_getf_ok (ix := ix) (pc := pc) (v0 := v0) (L := L) h hst hS
    rw [t_nx_eq] at h3
    exact t_db_go hf rfl h2 KK h4 h5 (hA.ext h4) (st' := v :: s) ⟨h6, h7⟩ (t_frm_rf Mw cs) h3
  | putfield ix =>
    obtain rfl := Option.some.inj h1
    dsimp only at h
    obtain ⟨t', cs', s, F', h2, h3, h4, h5, h6⟩ := t_putf_ok (ix := ix) (pc := pc) (v0 := v0) (L := L) h hst hS
    rw [t_nx_eq] at h3
    exact t_db_go hf rfl h2 KK (t_ext.rf ρ) h4 hA h5 h6 h3
  | iaload =>
    obtain rfl := Option.some.inj h1
    dsimp only at h
    obtain ⟨u, t', v, s, F', rs', ρ', h2, h3, h4, h5, h6, h7⟩ := t_ild_ok (r := r) (pc := pc) (v0 := v0) (L := L) h hst hS
    rw [t_nx_eq] at h3
    exact t_db_go hf rfl h2 KK h4 h5 (hA.ext h4) (st' := v :: s) ⟨h6, h7⟩ (t_frm_rf Mw cs) h3
  | iastore =>
    obtain rfl := Option.some.inj h1
    dsimp only at h
    obtain ⟨t', cs', s, F', tk', h2, h3, h4, h5, h6⟩ := t_ist_ok (r := r) (pc := pc) (v0 := v0) (L := L) h hst hS
    rw [t_nx_eq] at h3
    exact t_db_go hf rfl h2 KK (t_ext.rf ρ) h4 hA h5 h6 h3
  | aaload =>
    obtain rfl := Option.some.inj h1
    dsimp only at h
    obtain ⟨u, t', v, s, h2, h3, h4, h5⟩ := t_ald_ok (r := r) (pc := pc) (v0 := v0) (L := L) h hst hS
    rw [t_nx_eq] at h3
    exact t_db_go hf rfl h2 KK (t_ext.rf ρ) hst hA (st' := v :: s) ⟨h4, h5⟩ (t_frm_rf Mw cs) h3
  | aastore =>
    obtain rfl := Option.some.inj h1
    dsimp only at h
    obtain ⟨t', cs', s, h2, h3, h4, h5, h6⟩ := t_ast_ok (pc := pc) (v0 := v0) (L := L) h hst hS
    rw [t_nx_eq] at h3
    exact t_db_go hf rfl h2 KK (t_ext.rf ρ) h4 hA h5 h6 h3
  | arraylength =>
    obtain rfl := Option.some.inj h1
    dsimp only at h
    obtain ⟨u, t', v, s, h2, h3, h4, h5⟩ := t_aln_ok (r := r) (pc := pc) (v0 := v0) (L := L) h hst hS
    rw [t_nx_eq] at h3
    exact t_db_go hf rfl h2 KK (t_ext.rf ρ) hst hA (st' := v :: s) ⟨h4, h5⟩ (t_frm_rf Mw cs) h3
  | invokestatic ix =>
    obtain rfl := Option.some.inj h1
    dsimp only at h
    exact t_nat_ok hf h hst hA hS KK hd
  | iadd =>
    obtain rfl := Option.some.inj h1
    dsimp only at h
    exact t_i2_go hf h hst hA hS KK t_add_ok (fun _ _ _ => rfl)
  | isub =>
    obtain rfl := Option.some.inj h1
    dsimp only at h
    exact t_i2_go hf h hst hA hS KK t_sub_ok (fun _ _ _ => rfl)
  | imul =>
    obtain rfl := Option.some.inj h1
    dsimp only at h
    exact t_i2_go hf h hst hA hS KK t_mul_ok (fun _ _ _ => rfl)
  | iand =>
    obtain rfl := Option.some.inj h1
    dsimp only at h
    exact t_i2_go hf h hst hA hS KK t_bnd_ok (fun _ _ _ => rfl)
  | ior =>
    obtain rfl := Option.some.inj h1
    dsimp only at h
    exact t_i2_go hf h hst hA hS KK t_ior_ok (fun _ _ _ => rfl)
  | ishl =>
    obtain rfl := Option.some.inj h1
    dsimp only at h
    exact t_i2_go hf h hst hA hS KK t_shl_ok (fun _ _ _ => rfl)
  | ishr =>
    obtain rfl := Option.some.inj h1
    dsimp only at h
    exact t_i2_go hf h hst hA hS KK t_shr_ok (fun _ _ _ => rfl)
  | ixor =>
    obtain rfl := Option.some.inj h1
    dsimp only at h
    exact t_i2_go hf h hst hA hS KK (t_anyI_ok (fun x y => x ^^^ y)) (fun _ _ _ => rfl)
  | iushr =>
    obtain rfl := Option.some.inj h1
    dsimp only at h
    exact t_i2_go hf h hst hA hS KK (t_anyI_ok (fun x y => (x.toUInt32 >>> (y.toUInt32 &&& Int32.toUInt32 31)).toInt32)) (fun _ _ _ => rfl)
  | idiv =>
    obtain rfl := Option.some.inj h1
    dsimp only at h
    exact t_i2n_go hf h hst hA hS KK t_div_ok (fun a b t' hb => by simp only [zz_da, zz_i2n]; rw [if_neg hb])
  | irem =>
    obtain rfl := Option.some.inj h1
    dsimp only at h
    exact t_i2n_go hf h hst hA hS KK t_rem_ok (fun a b t' hb => by simp only [zz_da, zz_i2n]; rw [if_neg hb])
  | ladd =>
    obtain rfl := Option.some.inj h1
    dsimp only at h
    exact t_j2_go (g := fun x y => x + y) hf h hst hA hS KK (fun x y kk a b _ _ hk => ⟨hk, fun _ => rfl⟩)
  | lsub =>
    obtain rfl := Option.some.inj h1
    dsimp only at h
    exact t_j2_go (g := fun x y => x - y) hf h hst hA hS KK (fun x y kk a b _ _ hk => ⟨hk, fun _ => rfl⟩)
  | lmul =>
    obtain rfl := Option.some.inj h1
    dsimp only at h
    exact t_j2_go (g := fun x y => x * y) hf h hst hA hS KK (fun x y kk a b _ _ hk => ⟨hk, fun _ => rfl⟩)
  | ldiv =>
    obtain rfl := Option.some.inj h1
    dsimp only at h
    exact t_j2_go (g := fun x y => x / y) hf h hst hA hS KK (fun x y kk a b _ hb hk => by
      unfold t_ldiv at hk
      split at hk
      · rename_i p q hiv
        obtain ⟨h2, h3⟩ := t_bool hk
        have hb2 := t_iv_ok hiv hst.1 hb
        have hb0 : b ≠ 0 := by
          rintro rfl
          exact t_nz_ok h2 hb2.1 hb2.2 rfl
        refine ⟨h3, fun t' => ?_⟩
        simp only [zz_da, zz_l2n]
        rw [if_neg hb0]
      · cases hk)
  | _ => cases h1
end TS6
