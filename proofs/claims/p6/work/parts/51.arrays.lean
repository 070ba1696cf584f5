/-! the typed machine is sound: arrays -/
section TW3
variable {ρ : List Int} {rs : tB} {F : tF} {tk : List Nat} {cs : zz_W}
theorem t_ix_of {j : Int32} {m : Nat} (h1 : 0 ≤ j.toInt) (h2 : j.toInt ≤ (m : Int) - 1) : zz_ix j m = true ∧ j.toNatClampNeg < m ∧ ((j.toNatClampNeg : Nat) : Int) = j.toInt := by
  have h3 : ((j.toNatClampNeg : Nat) : Int) = j.toInt := by
    show ((j.toInt.toNat : Nat) : Int) = _
    rw [Int.toNat_of_nonneg h1]
  have h4 : j.toNatClampNeg < m := by omega
  refine ⟨?_, h4, h3⟩
  unfold zz_ix
  have h5 : ¬ j < 0 := by
    rw [Int32.lt_iff_toInt_lt]
    show ¬ j.toInt < 0
    omega
  rw [decide_eq_false h5, decide_eq_true h4]
  rfl
theorem t_getD {xs : List Int32} {n : Nat} (h : n < xs.length) : xs.getD n 0 ∈ xs ∧ xs[n]? = some (xs.getD n 0) := by
  rw [List.getD_eq_getElem?_getD, List.getElem?_eq_getElem h]
  exact ⟨List.getElem_mem h, rfl⟩
theorem t_bd {n : Nat} {p q : Int} (h : t_and (t_le (.ofNat 0) p) (t_le q (Int.sub (.ofNat n) (.ofNat 1))) = true) : 0 ≤ p ∧ q ≤ (n : Int) - 1 := by
  rw [t_and_iff, t_le_iff, t_le_iff] at h
  exact h
theorem t_ild_ok {r : List Nat} {st : List ta} {t : List Value} {pc : Nat} {v0 : Value} {L : List (Option Value)} {k : ta → List ta → tF → tB → Bool} (h : t_ild st F rs k = true) (hst : t_stt ρ rs F tk cs) (hS : t_rS ρ st t) : ∃ u t' v s F' rs' ρ', zz_db .iaload r v0 pc L t cs = some (pc + 1, L, u :: t', cs) ∧ k v s F' rs' = true ∧ t_ext ρ ρ' ∧ t_stt ρ' rs' F' tk cs ∧ tgv ρ' v u ∧ t_rS ρ' s t' := by
  unfold t_ild at h
  split at h
  · rename_i x ro s
    rw [t_nth_eq] at h
    split at h
    · rename_i c one b n lo hi hro
      obtain ⟨u, t', rfl, ⟨j, rfl, hj⟩, hS'⟩ := t_rS_cons hS
      obtain ⟨u2, t2, rfl, ⟨i, rfl, hi'⟩, hS2⟩ := t_rS_cons hS'
      obtain ⟨d, hd, hc⟩ := t_ref_ok hst.2.2.2 hi' hro
      match d, hd, hc with
      | .inl xs, hd, ⟨e1, e2⟩ =>
        cases hiv : t_iv rs x with
        | none => rw [hiv] at h; cases h
        | some pq =>
          obtain ⟨p, q⟩ := pq
          rw [hiv] at h
          obtain ⟨h1, h8⟩ := t_bool h
          replace h := h8
          clear h8
          obtain ⟨b1, b2⟩ := t_bd h1
          have b3 := t_iv_ok hiv hst.1 hj
          obtain ⟨i1, i2, i3⟩ := t_ix_of (m := xs.length) (show 0 ≤ j.toInt by omega) (by rw [e1]; omega)
          obtain ⟨g1, g2⟩ := t_getD i2
          obtain ⟨e3, e4⟩ := e2 _ g1
          have hdb : zz_db .iaload r v0 pc L (.int j :: .ref i :: t2) cs = some (pc + 1, L, .int (xs.getD j.toNatClampNeg 0) :: t2, cs) := by
            simp only [zz_db]
            rw [hd]
            dsimp only
            rw [if_pos i1]
          cases hq : t_and one (t_eq p q) with
          | false =>
            rw [hq] at h
            exact ⟨_, t2, _, s, F, rs, ρ, hdb, h, t_ext.rf ρ, hst, ⟨_, rfl, tg_c e3 e4⟩, hS2⟩
          | true =>
            rw [hq] at h
            rw [t_and_iff, t_eq_iff] at hq
            obtain ⟨hone, hpq⟩ := hq
            subst hone
            have hic : i = c := t_sgl_ok hi' hro
            subst hic
            have hjp : p.toNat = j.toNatClampNeg := by omega
            obtain ⟨k1, k2⟩ := t_key_d (c := i) (s := p.toNat) (by have := t_sml_a hi' hro; omega)
            have hsv : t_sv cs i p.toNat = some (.int (xs.getD j.toNatClampNeg 0)) := by
              unfold t_sv
              rw [hd]
              dsimp only
              rw [hjp, g2]
              rfl
            dsimp only at h
            cases hv' : t_fget F (t_key i p.toNat) with
            | some v' =>
              rw [show Int.toNat p = p.toNat from rfl, hv'] at h
              obtain ⟨-, u', q2, q3⟩ := hst.2.1 _ (t_fget_ok hv')
              dsimp only at q2
              rw [k1, k2, hsv] at q2
              cases q2
              exact ⟨_, t2, v', s, F, rs, ρ, hdb, h, t_ext.rf ρ, hst, q3, hS2⟩
            | none =>
              rw [show Int.toNat p = p.toNat from rfl, hv'] at h
              dsimp only at h
              split at h
              · exact ⟨_, t2, _, s, F, rs, ρ, hdb, h, t_ext.rf ρ, hst, ⟨_, rfl, tg_c e3 e4⟩, hS2⟩
              · obtain ⟨x', rs', ρ', p1, p2, p3, p4⟩ := t_new_ok h hst.1 e3 e4
                rw [t_fn_eq] at p1
                refine ⟨_, t2, .inl x', s, _, rs', ρ', hdb, p1, p2, ⟨p3, t_fac_cons (hst.2.1.ext p2) ?_ (u := .int (xs.getD j.toNatClampNeg 0)) ?_ ⟨_, rfl, p4⟩, hst.2.2⟩, ⟨_, rfl, p4⟩, hS2.ext p2⟩
                · dsimp only
                  rw [k1]
                  exact ⟨ro, b, _, hi', hro⟩
                · dsimp only
                  rw [k1, k2]
                  exact hsv
    · cases h
  · cases h
theorem t_fac_upd {i r b : Nat} {T : tC} {d d' : zz_C} {key : Nat} {v : ta} {u : Value} (hF : t_fac ρ F cs) (hi : t_rl[i]? = some r) (hro : t_ro[r]? = some (i, true, b, T)) (hd : zz_cell cs i = some d) (hk : key / 1024 = i) (hsame : ∀ s, s ≠ key % 1024 → t_sv (cs.set i (some d')) i s = t_sv cs i s) (hnew : t_sv (cs.set i (some d')) i (key % 1024) = some u) (hg : tgv ρ v u) : t_fac ρ ((key, v) :: F.filter (fun e => match Nat.beq e.1 key with | true => false | false => true)) (cs.set i (some d')) := by
  refine t_fac_cons (u := u) ?_ ?_ ?_ hg
  · intro e he
    obtain ⟨q1, q2⟩ := t_flt he
    obtain ⟨z1, y, z2, z3⟩ := hF e q1
    refine ⟨z1, y, ?_, z3⟩
    by_cases hie : i = e.1 / 1024
    · rw [← hie] at z2 ⊢
      rw [hsame _ (fun q => q2 (by omega))]
      exact z2
    · rw [t_sv_set hd hie]
      exact z2
  · dsimp only
    rw [hk]
    exact ⟨r, b, T, hi, hro⟩
  · dsimp only
    rw [hk]
    exact hnew
theorem t_fdel_ok {c : Nat} {i : Nat} {d d' : zz_C} (hF : t_fac ρ F cs) (hd : zz_cell cs i = some d) (hic : i = c) : t_fac ρ (F.filter (fun e => match Nat.beq (Nat.div e.1 1024) c with | true => false | false => true)) (cs.set i (some d')) := by
  intro e he
  obtain ⟨q1, q2⟩ := t_fdl he
  obtain ⟨z1, y, z2, z3⟩ := hF e q1
  refine ⟨z1, y, ?_, z3⟩
  rw [t_sv_set hd (by rw [hic]; exact Ne.symm q2)]
  exact z2
theorem t_ist_ok {Mw : Nat} {r : List Nat} {st : List ta} {t : List Value} {pc : Nat} {v0 : Value} {L : List (Option Value)} {k : List ta → tF → List Nat → Bool} (h : t_ist Mw st F tk rs k = true) (hst : t_stt ρ rs F tk cs) (hS : t_rS ρ st t) : ∃ t' cs' s F' tk', zz_db .iastore r v0 pc L t cs = some (pc + 1, L, t', cs') ∧ k s F' tk' = true ∧ t_stt ρ rs F' tk' cs' ∧ t_rS ρ s t' ∧ t_frm Mw cs cs' := by
  unfold t_ist at h
  split at h
  · rename_i v x ro s
    rw [t_nth_eq] at h
    split at h
    · rename_i c one b n lo hi hro
      obtain ⟨u0, t0, rfl, ⟨y, rfl, hy⟩, hS0⟩ := t_rS_cons hS
      obtain ⟨u, t', rfl, ⟨j, rfl, hj⟩, hS'⟩ := t_rS_cons hS0
      obtain ⟨u2, t2, rfl, ⟨i, rfl, hi'⟩, hS2⟩ := t_rS_cons hS'
      obtain ⟨d, hd, hc⟩ := t_ref_ok hst.2.2.2 hi' hro
      match d, hd, hc with
      | .inl xs, hd, ⟨e1, e2⟩ =>
        cases hiv : t_iv rs x with
        | none => rw [hiv] at h; cases h
        | some pq =>
          obtain ⟨p, q⟩ := pq
          rw [hiv] at h
          obtain ⟨h1, h8⟩ := t_bool h
          replace h := h8
          clear h8
          obtain ⟨h2, h8⟩ := t_bool h
          replace h := h8
          clear h8
          obtain ⟨h3, h8⟩ := t_bool h
          replace h := h8
          clear h8
          obtain ⟨b1, b2⟩ := t_bd h1
          have b3 := t_iv_ok hiv hst.1 hj
          have b4 := t_wi_ok h2 hst.1 hy
          obtain ⟨i1, i2, i3⟩ := t_ix_of (m := xs.length) (show 0 ≤ j.toInt by omega) (by rw [e1]; omega)
          have hdb : zz_db .iastore r v0 pc L (.int y :: .int j :: .ref i :: t2) cs = some (pc + 1, L, t2, cs.set i (some (.inl (xs.set j.toNatClampNeg y)))) := by
            simp only [zz_db]
            rw [hd]
            dsimp only
            rw [if_pos i1]
          have hcel : t_cel (.inl (n, lo, hi)) (.inl (xs.set j.toNatClampNeg y)) := by
            refine ⟨by rw [List.length_set]; exact e1, fun z hz => ?_⟩
            rcases List.mem_or_eq_of_mem_set hz with q | q
            · exact e2 z q
            · rw [q]
              exact b4
          have hty := t_ty_set hst.2.2.2 hi' hro hd hcel
          have hfr : t_frm Mw cs (cs.set i (some (.inl (xs.set j.toNatClampNeg y)))) := t_frm_set hi' hro hd ⟨List.length_set, fun hq => by rw [h3] at hq; cases hq⟩
          cases one with
          | false =>
            exact ⟨t2, _, s, F, tk, hdb, h, ⟨hst.1, t_fac_set hst.2.1 hd (fun e he => t_sngl_ne hi' hro (hst.2.1 e he).1), t_tks_set hst.2.2.1 hd (fun c hc => t_sngl_ne hi' hro (hst.2.2.1 c hc).1), hty⟩, hS2, hfr⟩
          | true =>
            dsimp only at h
            have hic : i = c := t_sgl_ok hi' hro
            subst hic
            unfold t_tdel at h
            rw [t_fil_eq] at h
            have htk : t_tks (tk.filter (fun e => match Nat.beq e i with | true => false | false => true)) (cs.set i (some (.inl (xs.set j.toNatClampNeg y)))) := t_tks_set (fun c hc => hst.2.2.1 c (t_tdl hc).1) hd (fun c hc => Ne.symm (t_tdl hc).2)
            cases hq : t_eq p q with
            | false =>
              rw [hq] at h
              unfold t_fdel at h
              dsimp only at h
              rw [t_fil_eq] at h
              exact ⟨t2, _, s, _, _, hdb, h, ⟨hst.1, t_fdel_ok hst.2.1 hd rfl, htk, hty⟩, hS2, hfr⟩
            | true =>
              rw [hq] at h
              rw [t_eq_iff] at hq
              dsimp only at h
              have hjp : p.toNat = j.toNatClampNeg := by omega
              obtain ⟨k1, k2⟩ := t_key_d (c := i) (s := p.toNat) (by have := t_sml_a hi' hro; omega)
              have hup : t_fac ρ ((t_key i p.toNat, .inl v) :: F.filter (fun e => match Nat.beq e.1 (t_key i p.toNat) with | true => false | false => true)) (cs.set i (some (.inl (xs.set j.toNatClampNeg y)))) := by
                refine t_fac_upd (u := .int y) hst.2.1 hi' hro hd k1 (fun s hs => ?_) ?_ ⟨y, rfl, hy⟩
                · unfold t_sv
                  rw [t_cell_set hd, if_pos rfl, hd]
                  dsimp only
                  rw [List.getElem?_set_ne (by rw [k2] at hs; omega)]
                · rw [k2]
                  unfold t_sv
                  rw [t_cell_set hd, if_pos rfl]
                  dsimp only
                  rw [hjp, List.getElem?_set_self i2]
                  rfl
              split at h
              · rw [t_fn_eq, t_fil_eq] at h
                exact ⟨t2, _, s, _, _, hdb, h, ⟨hst.1, fun e he => hup e (List.mem_cons_of_mem _ he), htk, hty⟩, hS2, hfr⟩
              · rw [t_fset_eq] at h
                exact ⟨t2, _, s, _, _, hdb, h, ⟨hst.1, hup, htk, hty⟩, hS2, hfr⟩
    · cases h
  · cases h
theorem t_ald_ok {r : List Nat} {st : List ta} {t : List Value} {pc : Nat} {v0 : Value} {L : List (Option Value)} {k : ta → List ta → Bool} (h : t_ald st rs k = true) (hst : t_stt ρ rs F tk cs) (hS : t_rS ρ st t) : ∃ u t' v s, zz_db .aaload r v0 pc L t cs = some (pc + 1, L, u :: t', cs) ∧ k v s = true ∧ tgv ρ v u ∧ t_rS ρ s t' := by
  unfold t_ald at h
  split at h
  · rename_i x ro s
    rw [t_nth_eq] at h
    split at h
    · rename_i c one b tt n alts hro
      obtain ⟨u, t', rfl, ⟨j, rfl, hj⟩, hS'⟩ := t_rS_cons hS
      obtain ⟨u2, t2, rfl, ⟨i, rfl, hi'⟩, hS2⟩ := t_rS_cons hS'
      obtain ⟨d, hd, hc⟩ := t_ref_ok hst.2.2.2 hi' hro
      match d, hd, hc with
      | .inr (.inl (u, qs)), hd, ⟨e1, e2, e3⟩ =>
        subst e1
        cases hiv : t_iv rs x with
        | none => rw [hiv] at h; cases h
        | some pq =>
          obtain ⟨p, q⟩ := pq
          rw [hiv] at h
          obtain ⟨h1, h8⟩ := t_bool h
          replace h := h8
          clear h8
          rw [t_and_iff, t_and_iff, t_le_iff, t_le_iff] at h1
          obtain ⟨b1, b2, hrt⟩ := h1
          replace b2 : q ≤ (n : Int) - 1 := b2
          replace b1 : (0 : Int) ≤ p := b1
          have b3 := t_iv_ok hiv hst.1 hj
          obtain ⟨i1, i2, i3⟩ := t_ix_of (m := qs.length) (show 0 ≤ j.toInt by omega) (by rw [e2]; omega)
          have hm : qs.getD j.toNatClampNeg none ∈ qs := by
            rw [List.getD_eq_getElem?_getD, List.getElem?_eq_getElem i2]
            exact List.getElem_mem i2
          obtain ⟨i', r', f1, f2, f3⟩ := e3 _ hm
          obtain ⟨v', z1, z2⟩ := t_alts_ok (ρ := ρ) (k := fun a => k a s) h f2 f3
          refine ⟨_, t2, v', s, ?_, z1, z2, hS2⟩
          simp only [zz_db]
          rw [hd]
          dsimp only
          rw [if_pos ⟨i1, hrt⟩, f1]
          rfl
    · cases h
  · cases h
theorem t_ast_ok {Mw : Nat} {r : List Nat} {st : List ta} {t : List Value} {pc : Nat} {v0 : Value} {L : List (Option Value)} {k : List ta → Bool} (h : t_ast Mw r st rs k = true) (hst : t_stt ρ rs F tk cs) (hS : t_rS ρ st t) : ∃ t' cs' s, zz_db .aastore r v0 pc L t cs = some (pc + 1, L, t', cs') ∧ k s = true ∧ t_stt ρ rs F tk cs' ∧ t_rS ρ s t' ∧ t_frm Mw cs cs' := by
  unfold t_ast at h
  split at h
  · rename_i tt ci w
    split at h
    · rename_i rv x ro s
      rw [t_nth_eq] at h
      split at h
      · rename_i c one b t'' n alts hro
        rw [t_nth_eq] at h
        split at h
        · rename_i c2 o2 b2 cj fts hrv
          obtain ⟨u0, t0, rfl, ⟨y, rfl, hy⟩, hS0⟩ := t_rS_cons hS
          obtain ⟨u, t', rfl, ⟨j, rfl, hj⟩, hS'⟩ := t_rS_cons hS0
          obtain ⟨u2, t2, rfl, ⟨i, rfl, hi'⟩, hS2⟩ := t_rS_cons hS'
          obtain ⟨d, hd, hc⟩ := t_ref_ok hst.2.2.2 hi' hro
          obtain ⟨d2, hd2, hc2⟩ := t_ref_ok hst.2.2.2 hy hrv
          cases hiv : t_iv rs x with
          | none => rw [hiv] at h; cases h
          | some pq =>
            obtain ⟨p, q⟩ := pq
            rw [hiv] at h
            obtain ⟨h1, h8⟩ := t_bool h
            replace h := h8
            clear h8
            obtain ⟨h3, h8⟩ := t_bool h
            replace h := h8
            clear h8
            rw [t_and_iff, t_and_iff, t_and_iff, t_and_iff, t_le_iff, t_le_iff, t_mem_iff] at h1
            obtain ⟨b1, b2', c1, c2', c3⟩ := h1
            replace b2' : q ≤ (n : Int) - 1 := b2'
            replace b1 : (0 : Int) ≤ p := b1
            have c1 := Nat.eq_of_beq_eq_true c1
            have c2' := Nat.eq_of_beq_eq_true c2'
            subst c1
            subst c2'
            have b3 := t_iv_ok hiv hst.1 hj
            match d, hd, hc, d2, hd2, hc2 with
            | .inr (.inl (u, qs)), hd, ⟨e1, e2, e3⟩, .inr (.inr (cj', fs)), hd2, ⟨g1, _, _⟩ =>
              subst e1
              subst g1
              obtain ⟨i1, i2, i3⟩ := t_ix_of (m := qs.length) (show 0 ≤ j.toInt by omega) (by rw [e2]; omega)
              have hcel : t_cel (.inr (.inl (u, n, alts))) (.inr (.inl (u, qs.set j.toNatClampNeg (some y)))) := by
                refine ⟨rfl, by rw [List.length_set]; exact e2, fun z hz => ?_⟩
                rcases List.mem_or_eq_of_mem_set hz with q | q
                · exact e3 z q
                · rw [q]
                  exact ⟨y, rv, rfl, hy, c3⟩
              refine ⟨t2, cs.set i (some (.inr (.inl (u, qs.set j.toNatClampNeg (some y))))), s, ?_, h, ⟨hst.1, ?_, ?_, t_ty_set hst.2.2.2 hi' hro hd hcel⟩, hS2, t_frm_set hi' hro hd (fun hq => by rw [h3] at hq; cases hq)⟩
              · simp only [zz_db]
                rw [hd]
                dsimp only
                rw [hd2]
                dsimp only
                rw [if_pos ⟨rfl, rfl, i1⟩]
              · refine t_fac_set hst.2.1 hd (fun e he q => ?_)
                obtain ⟨-, y', z2, -⟩ := hst.2.1 e he
                unfold t_sv at z2
                rw [← q, hd] at z2
                cases z2
              · refine t_tks_set hst.2.2.1 hd (fun c hc q => ?_)
                obtain ⟨-, ⟨xs, z2⟩, -⟩ := hst.2.2.1 c hc
                rw [← q, hd] at z2
                cases z2
        · cases h
      · cases h
    · cases h
  · cases h
theorem t_aln_ok {r : List Nat} {st : List ta} {t : List Value} {pc : Nat} {v0 : Value} {L : List (Option Value)} {k : ta → List ta → Bool} (h : t_aln st k = true) (hst : t_stt ρ rs F tk cs) (hS : t_rS ρ st t) : ∃ u t' v s, zz_db .arraylength r v0 pc L t cs = some (pc + 1, L, u :: t', cs) ∧ k v s = true ∧ tgv ρ v u ∧ t_rS ρ s t' := by
  have hn : ∀ {n : Nat}, Nat.ble n 1000000 = true → (Int32.ofNat n).toInt = (n : Int) := fun {n} hb => by
    have := Nat.le_of_ble_eq_true hb
    rw [← Int32.ofInt_eq_ofNat, Int32.toInt_ofInt_of_le (by omega) (by omega)]
  unfold t_aln at h
  split at h
  · rename_i ro s
    rw [t_nth_eq] at h
    obtain ⟨u2, t2, rfl, ⟨i, rfl, hi'⟩, hS2⟩ := t_rS_cons hS
    split at h
    · rename_i c one b n lo hi hro
      obtain ⟨d, hd, hc⟩ := t_ref_ok hst.2.2.2 hi' hro
      obtain ⟨h1, h8⟩ := t_bool h
      replace h := h8
      clear h8
      match d, hd, hc with
      | .inl xs, hd, ⟨e1, _⟩ =>
        refine ⟨_, t2, _, s, ?_, h, ⟨Int32.ofNat xs.length, rfl, tg_c ?_ ?_⟩, hS2⟩
        · simp only [zz_db]
          rw [hd]
        · rw [e1, hn h1]
          exact Int.le_refl _
        · rw [e1, hn h1]
          exact Int.le_refl _
    · rename_i c one b tt n alts hro
      obtain ⟨d, hd, hc⟩ := t_ref_ok hst.2.2.2 hi' hro
      obtain ⟨h1, h8⟩ := t_bool h
      replace h := h8
      clear h8
      rw [t_and_iff] at h1
      match d, hd, hc with
      | .inr (.inl (u, qs)), hd, ⟨e1, e2, _⟩ =>
        subst e1
        refine ⟨_, t2, _, s, ?_, h, ⟨Int32.ofNat qs.length, rfl, tg_c ?_ ?_⟩, hS2⟩
        · simp only [zz_db]
          rw [hd]
          dsimp only
          rw [if_pos h1.2]
        · rw [e2, hn h1.1]
          exact Int.le_refl _
        · rw [e2, hn h1.1]
          exact Int.le_refl _
    · cases h
  · cases h
end TW3
