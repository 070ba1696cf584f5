/-! the typed machine is sound: loads and stores of cells -/
section TW2
variable {ρ : List Int} {rs : tB} {F : tF} {tk : List Nat} {cs : zz_W}
theorem t_ref_ok (hT : t_ty cs) {i r c b : Nat} {o : Bool} {T : tC} (h1 : t_rl[i]? = some r) (h2 : t_ro[r]? = some (c, o, b, T)) : ∃ d, zz_cell cs i = some d ∧ t_cel T d := hT.2.2 i r c o b T h1 h2
theorem t_alts_ok {alts : List Nat} {k : ta → Bool} (h : t_all (fun a => k (t_rf a)) alts = true) {i r : Nat} (h1 : t_rl[i]? = some r) (h2 : r ∈ alts) : ∃ v, k v = true ∧ tgv ρ v (.ref i) := ⟨_, t_all_iff.mp h r h2, i, rfl, h1⟩
theorem t_fac_cons {e : Nat × ta} (hF : t_fac ρ F cs) (h1 : t_sngl (e.1 / 1024)) {u : Value} (h2 : t_sv cs (e.1 / 1024) (e.1 % 1024) = some u) (h3 : tgv ρ e.2 u) : t_fac ρ (e :: F) cs := by
  intro q hq
  rcases List.mem_cons.mp hq with rfl | hq
  · exact ⟨h1, u, h2, h3⟩
  · exact hF q hq
theorem t_getf_ok {r : List Nat} {st : List ta} {t : List Value} {ix pc : Nat} {v0 : Value} {L : List (Option Value)} {k : ta → List ta → tF → tB → Bool} (h : t_getf r st F rs k = true) (hst : t_stt ρ rs F tk cs) (hS : t_rS ρ st t) : ∃ u t' v s F' rs' ρ', zz_db (.getfield ix) r v0 pc L t cs = some (pc + 3, L, u :: t', cs) ∧ k v s F' rs' = true ∧ t_ext ρ ρ' ∧ t_stt ρ' rs' F' tk cs ∧ tgv ρ' v u ∧ t_rS ρ' s t' := by
  unfold t_getf at h
  split at h
  · rename_i ci f w
    split at h
    · rename_i ro s
      rw [t_nth_eq] at h
      split at h
      · rename_i c one b cj fts hro
        split at h
        · rename_i hcj
          have hcj := Nat.eq_of_beq_eq_true hcj
          subst hcj
          rw [t_nth_eq] at h
          split at h
          · rename_i ft hft
            obtain ⟨u, t', rfl, ⟨i, rfl, hi⟩, hS'⟩ := t_rS_cons hS
            obtain ⟨d, hd, hc⟩ := t_ref_ok hst.2.2.2 hi hro
            match d, hd, hc with
            | .inr (.inr (cj, fs)), hd, ⟨e1, e2, e3⟩ =>
              subst e1
              obtain ⟨v, hv, hsl⟩ := e3 f ft hft
              have hdb : zz_db (.getfield ix) [cj, f, w] v0 pc L (.ref i :: t') cs = some (pc + 3, L, v :: t', cs) := by
                simp only [zz_db]
                rw [hd]
                dsimp only
                rw [if_pos rfl, hv]
              have hfl : f < fts.length := (List.getElem?_eq_some_iff.mp hft).1
              have hf4 : f < 1024 := Nat.lt_of_lt_of_le hfl (t_sml_o hi hro)
              cases one with
              | true =>
                dsimp only at h
                have hic : i = c := t_sgl_ok hi hro
                subst hic
                obtain ⟨k1, k2⟩ := t_key_d (c := i) hf4
                have hsv : t_sv cs i f = some v := by
                  unfold t_sv
                  rw [hd]
                  exact hv
                cases hv' : t_fget F (t_key i f) with
                | some v' =>
                  rw [hv'] at h
                  obtain ⟨-, u', q2, q3⟩ := hst.2.1 _ (t_fget_ok hv')
                  dsimp only at q2
                  rw [k1, k2, hsv] at q2
                  cases q2
                  exact ⟨v, t', v', s, F, rs, ρ, hdb, h, t_ext.rf ρ, hst, q3, hS'⟩
                | none =>
                  rw [hv'] at h
                  dsimp only at h
                  rcases ft with ⟨lo, hi'⟩ | ⟨alts, nul⟩
                  · dsimp only at h
                    obtain ⟨x, rfl, q1, q2⟩ := hsl
                    obtain ⟨x', rs', ρ', p1, p2, p3, p4⟩ := t_new_ok h hst.1 q1 q2
                    rw [t_fn_eq] at p1
                    refine ⟨.int x, t', .inl x', s, _, rs', ρ', hdb, p1, p2, ⟨p3, t_fac_cons (hst.2.1.ext p2) ?_ (u := .int x) ?_ ⟨x, rfl, p4⟩, hst.2.2⟩, ⟨x, rfl, p4⟩, hS'.ext p2⟩
                    · dsimp only
                      rw [k1]
                      exact ⟨ro, b, _, hi, hro⟩
                    · dsimp only
                      rw [k1, k2]
                      exact hsv
                  · cases nul with
                    | true => cases h
                    | false =>
                      rcases hsl with ⟨i', r', rfl, q1, q2⟩ | ⟨q, -⟩
                      · obtain ⟨v', z1, z2⟩ := t_alts_ok (ρ := ρ) (k := fun a => k a s F rs) h q1 q2
                        exact ⟨_, t', v', s, F, rs, ρ, hdb, z1, t_ext.rf ρ, hst, z2, hS'⟩
                      · cases q
              | false =>
                dsimp only at h
                rcases ft with ⟨lo, hi'⟩ | ⟨alts, nul⟩
                · obtain ⟨x, rfl, q1, q2⟩ := hsl
                  exact ⟨_, t', _, s, F, rs, ρ, hdb, h, t_ext.rf ρ, hst, ⟨x, rfl, tg_c q1 q2⟩, hS'⟩
                · cases nul with
                  | true => cases h
                  | false =>
                    rcases hsl with ⟨i', r', rfl, q1, q2⟩ | ⟨q, -⟩
                    · obtain ⟨v', z1, z2⟩ := t_alts_ok (ρ := ρ) (k := fun a => k a s F rs) h q1 q2
                      exact ⟨_, t', v', s, F, rs, ρ, hdb, z1, t_ext.rf ρ, hst, z2, hS'⟩
                    · cases q
          · cases h
        · cases h
      · cases h
    · cases h
  · cases h
theorem t_fits_ok {s : tS} {tc : Nat} {v : ta} {u : Value} (h : t_fits rs s tc v = true) (hr : t_okr ρ rs) (hg : tgv ρ v u) : t_slot s u ∧ zz_fit tc u = true := by
  unfold t_fits at h
  split at h
  · rename_i lo hi
    split at h
    · rename_i x
      rw [t_and_iff] at h
      obtain ⟨h1, h2⟩ := h
      obtain ⟨z, rfl, hz⟩ := hg
      obtain ⟨q1, q2⟩ := t_wi_ok h1 hr hz
      refine ⟨⟨z, rfl, q1, q2⟩, ?_⟩
      split at h2
      · rfl
      · rw [t_and_iff, t_le_iff, t_le_iff, Int.ofNat_eq_natCast, Int.ofNat_eq_natCast] at h2
        show (decide (z = 0) || decide (z = 1)) = true
        rw [Bool.or_eq_true, decide_eq_true_eq, decide_eq_true_eq]
        by_cases hz0 : z.toInt = 0
        · exact Or.inl (Int32.toInt_inj.mp hz0)
        · exact Or.inr (Int32.toInt_inj.mp (show z.toInt = 1 by omega))
      · cases h2
    · cases h
  · rename_i alts nul
    split at h
    · rename_i r
      rw [t_and_iff, t_mem_iff] at h
      obtain ⟨i, rfl, hi⟩ := hg
      have htc := Nat.eq_of_beq_eq_true h.1
      subst htc
      exact ⟨Or.inl ⟨i, r, rfl, hi, h.2⟩, rfl⟩
    · cases h
theorem t_fset_eq (key : Nat) (v : ta) (k : tF → Bool) : t_fset F key v k = k ((key, v) :: F.filter (fun e => match Nat.beq e.1 key with | true => false | false => true)) := by
  unfold t_fset
  rw [t_fn_eq, t_fil_eq]
  rfl
theorem t_flt {key : Nat} {e : Nat × ta} (h : e ∈ F.filter (fun e => match Nat.beq e.1 key with | true => false | false => true)) : e ∈ F ∧ e.1 ≠ key := by
  rw [List.mem_filter] at h
  refine ⟨h.1, fun q => ?_⟩
  have h2 := h.2
  rw [q, Nat.beq_refl] at h2
  cases h2
theorem t_fdl {c : Nat} {e : Nat × ta} (h : e ∈ F.filter (fun e => match Nat.beq (Nat.div e.1 1024) c with | true => false | false => true)) : e ∈ F ∧ e.1 / 1024 ≠ c := by
  rw [List.mem_filter] at h
  refine ⟨h.1, fun q => ?_⟩
  have h2 := h.2
  rw [show Nat.div e.1 1024 = e.1 / 1024 from rfl, q, Nat.beq_refl] at h2
  cases h2
theorem t_tdl {c e : Nat} (h : e ∈ tk.filter (fun e => match Nat.beq e c with | true => false | false => true)) : e ∈ tk ∧ e ≠ c := by
  rw [List.mem_filter] at h
  refine ⟨h.1, fun q => ?_⟩
  have h2 := h.2
  rw [q, Nat.beq_refl] at h2
  cases h2
theorem t_tks_set {i : Nat} {d d' : zz_C} (h : t_tks tk cs) (hd : zz_cell cs i = some d) (hn : ∀ c ∈ tk, i ≠ c) : t_tks tk (cs.set i (some d')) := fun c hc => by
  obtain ⟨q1, ⟨xs, q3⟩, q2⟩ := h c hc
  refine ⟨q1, ⟨xs, ?_⟩, fun k a b hk => ?_⟩
  · rw [t_cell_set hd, if_neg (hn c hc)]
    exact q3
  · rw [t_sv_set hd (hn c hc)]
    exact q2 k a b hk
theorem t_fac_set {i : Nat} {d d' : zz_C} (h : t_fac ρ F cs) (hd : zz_cell cs i = some d) (hn : ∀ e ∈ F, i ≠ e.1 / 1024) : t_fac ρ F (cs.set i (some d')) := fun e he => by
  obtain ⟨q1, u, q2, q3⟩ := h e he
  refine ⟨q1, u, ?_, q3⟩
  rw [t_sv_set hd (hn e he)]
  exact q2
theorem t_putf_ok {Mw : Nat} {r : List Nat} {st : List ta} {t : List Value} {ix pc : Nat} {v0 : Value} {L : List (Option Value)} {k : List ta → tF → Bool} (h : t_putf Mw r st F rs k = true) (hst : t_stt ρ rs F tk cs) (hS : t_rS ρ st t) : ∃ t' cs' s F', zz_db (.putfield ix) r v0 pc L t cs = some (pc + 3, L, t', cs') ∧ k s F' = true ∧ t_stt ρ rs F' tk cs' ∧ t_rS ρ s t' ∧ t_frm Mw cs cs' := by
  unfold t_putf at h
  split at h
  · rename_i ci f w tc
    split at h
    · rename_i v ro s
      rw [t_nth_eq] at h
      split at h
      · rename_i c one b cj fts hro
        split at h
        · rename_i hcj
          have hcj := Nat.eq_of_beq_eq_true hcj
          subst hcj
          rw [t_nth_eq] at h
          split at h
          · rename_i ft hft
            obtain ⟨h1, h⟩ := t_bool h
            obtain ⟨h2, h⟩ := t_bool h
            obtain ⟨u, t', rfl, hg, hS'⟩ := t_rS_cons hS
            obtain ⟨u2, t2, rfl, ⟨i, rfl, hi⟩, hS2⟩ := t_rS_cons hS'
            obtain ⟨d, hd, hc⟩ := t_ref_ok hst.2.2.2 hi hro
            obtain ⟨p1, p2⟩ := t_fits_ok h1 hst.1 hg
            match d, hd, hc with
            | .inr (.inr (cj, fs)), hd, ⟨e1, e2, e3⟩ =>
              subst e1
              have hfl : f < fts.length := (List.getElem?_eq_some_iff.mp hft).1
              have hfl2 : f < fs.length := by omega
              have hf4 : f < 1024 := Nat.lt_of_lt_of_le hfl (t_sml_o hi hro)
              have hcel : t_cel (.inr (.inr (cj, fts))) (.inr (.inr (cj, fs.set f u))) := by
                refine ⟨rfl, by rw [List.length_set]; exact e2, fun k s hk => ?_⟩
                by_cases hfk : f = k
                · subst hfk
                  rw [hft] at hk
                  cases hk
                  exact ⟨u, List.getElem?_set_self hfl2, p1⟩
                · rw [List.getElem?_set_ne hfk]
                  exact e3 k s hk
              have hfr : t_frm Mw cs (cs.set i (some (.inr (.inr (cj, fs.set f u))))) := by
                refine t_frm_set hi hro hd ⟨rfl, List.length_set, fun k hk => ?_⟩
                have hfk : f ≠ k := by
                  rintro rfl
                  rw [show Nat.add b f = b + f from rfl, hk] at h2
                  cases h2
                rw [List.getElem?_set_ne hfk]
              have hty := t_ty_set hst.2.2.2 hi hro hd hcel
              have htk : t_tks tk (cs.set i (some (.inr (.inr (cj, fs.set f u))))) := t_tks_set hst.2.2.1 hd (fun c hc q => by
                subst q
                obtain ⟨-, ⟨xs, q3⟩, -⟩ := hst.2.2.1 _ hc
                rw [hd] at q3
                cases q3)
              have hdb : zz_db (.putfield ix) [cj, f, w, tc] v0 pc L (u :: .ref i :: t2) cs = some (pc + 3, L, t2, cs.set i (some (.inr (.inr (cj, fs.set f u))))) := by
                simp only [zz_db]
                rw [hd]
                dsimp only
                rw [if_pos ⟨rfl, hfl2, p2⟩]
              cases one with
              | true =>
                dsimp only at h
                have hic : i = c := t_sgl_ok hi hro
                subst hic
                obtain ⟨k1, k2⟩ := t_key_d (c := i) hf4
                rw [t_fset_eq] at h
                refine ⟨t2, _, s, _, hdb, h, ⟨hst.1, ?_, htk, hty⟩, hS2, hfr⟩
                refine t_fac_cons (u := u) ?_ ?_ ?_ hg
                · intro e he
                  obtain ⟨q1, q2⟩ := t_flt he
                  obtain ⟨z1, y, z2, z3⟩ := hst.2.1 e q1
                  refine ⟨z1, y, ?_, z3⟩
                  by_cases hie : i = e.1 / 1024
                  · unfold t_sv at z2 ⊢
                    rw [← hie, hd] at z2
                    rw [← hie, t_cell_set hd, if_pos rfl]
                    dsimp only at z2 ⊢
                    have hfk : f ≠ e.1 % 1024 := by
                      intro q
                      apply q2
                      rw [show t_key i f = i * 1024 + f from rfl, q, hie]
                      omega
                    rw [List.getElem?_set_ne hfk]
                    exact z2
                  · rw [t_sv_set hd hie]
                    exact z2
                · dsimp only
                  rw [k1]
                  exact ⟨ro, b, _, hi, hro⟩
                · dsimp only
                  rw [k1, k2]
                  unfold t_sv
                  rw [t_cell_set hd, if_pos rfl]
                  dsimp only
                  exact List.getElem?_set_self hfl2
              | false =>
                exact ⟨t2, _, s, F, hdb, h, ⟨hst.1, t_fac_set hst.2.1 hd (fun e he => t_sngl_ne hi hro (hst.2.1 e he).1), htk, hty⟩, hS2, hfr⟩
          · cases h
        · cases h
      · cases h
    · cases h
  · cases h
end TW2
