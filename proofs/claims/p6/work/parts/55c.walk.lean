/-! the typed machine is sound: whole walks -/
section TS9
variable {ρ : List Int} {rs : tB} {F : tF} {tk : List Nat} {cs cs' : zz_W} {A : tL} {L : List (Option Value)} {st : List ta} {t : List Value} {mi mj : zz_Mi} {Mw pc : Nat} {P : Option Value → zz_W → Prop}
def t_SH (mi : zz_Mi) (ρ : List Int) (cs : zz_W) (Mw : Nat) (stp : tP) (P : Option Value → zz_W → Prop) : Prop := ∀ (ρ' : List Int) (pc' : Nat) (A' : tL) (st' : List ta) (F' : tF) (tk' : List Nat) (rs' : tB) (L' : List (Option Value)) (t' : List Value) (cs' : zz_W), t_ext ρ ρ' → t_stt ρ' rs' F' tk' cs' → t_loc ρ' A' L' → t_rS ρ' st' t' → t_frm Mw cs cs' → stp pc' A' st' F' tk' rs' = some true → tr_run mi (pc', L', t', cs', 0, 0) P
def t_KH (ρ : List Int) (cs : zz_W) (Mw : Nat) (K : tQ) (P : Option Value → zz_W → Prop) : Prop := ∀ (ρ' : List Int) (rs' : tB) (F' : tF) (tk' : List Nat) (a : Option ta) (v : Option Value) (cs' : zz_W), t_ext ρ ρ' → t_stt ρ' rs' F' tk' cs' → t_frm Mw cs cs' → t_vo ρ' a v → K rs' F' tk' a = true → P v cs'
def t_OK (Mw : Nat) (h : tH) : Prop := ∀ (stp : tP) (mi : zz_Mi) (pc : Nat) (A : tL) (st : List ta) (F : tF) (tk : List Nat) (rs : tB) (K : tQ), h stp mi pc A st F tk rs K = true → ∀ (ρ : List Int) (L : List (Option Value)) (t : List Value) (cs : zz_W) (P : Option Value → zz_W → Prop), t_stt ρ rs F tk cs → t_loc ρ A L → t_rS ρ st t → t_SH mi ρ cs Mw stp P → t_KH ρ cs Mw K P → tr_run mi (pc, L, t, cs, 0, 0) P
theorem t_SH.go {stp : tP} {ρ' : List Int} (h : t_SH mi ρ cs Mw stp P) (hx : t_ext ρ ρ') (hf : t_frm Mw cs cs') : t_SH mi ρ' cs' Mw stp P := fun ρ2 pc' A' st' F' tk' rs' L' t' cs2 h1 h2 h3 h4 h5 h6 => h ρ2 pc' A' st' F' tk' rs' L' t' cs2 (hx.tr h1) h2 h3 h4 (t_frm_tr hf h5) h6
theorem t_KH.go {K : tQ} {ρ' : List Int} (h : t_KH ρ cs Mw K P) (hx : t_ext ρ ρ') (hf : t_frm Mw cs cs') : t_KH ρ' cs' Mw K P := fun ρ2 rs' F' tk' a v cs2 h1 h2 h3 h4 h5 => h ρ2 rs' F' tk' a v cs2 (hx.tr h1) h2 (t_frm_tr hf h3) h4 h5
theorem t_OK.go {h : tH} (hO : t_OK Mw h) {stp : tP} {pc : Nat} {A : tL} {st : List ta} {F : tF} {tk : List Nat} {rs : tB} {K : tQ} (hh : h stp mi pc A st F tk rs K = true) {ρ ρ' : List Int} {L : List (Option Value)} {t : List Value} {cs cs' : zz_W} {P : Option Value → zz_W → Prop} (hst : t_stt ρ' rs F tk cs') (hA : t_loc ρ' A L) (hS : t_rS ρ' st t) (hSH : t_SH mi ρ cs Mw stp P) (hKH : t_KH ρ cs Mw K P) (hx : t_ext ρ ρ') (hf : t_frm Mw cs cs') : tr_run mi (pc, L, t, cs', 0, 0) P := hO stp mi pc A st F tk rs K hh ρ' L t cs' P hst hA hS (hSH.go hx hf) (hKH.go hx hf)
theorem t_nx_eq2 {pc n : Nat} (kk : Nat → Bool) : t_nx pc n kk = kk (pc + n) := t_nx_eq n kk
theorem t_inv_ok {C : List tCon} {ih : tH} (hC : ∀ c ∈ C, t_Con c) (hO : t_OK Mw ih) {stp : tP} {K : tQ} {ins : Instr} {r : List Nat} {len : Nat} {v0 : Value} (hf : zz_fetch mi.2.2.2.2.2.2.2.2 pc = some (pc, ins, len, r, v0)) (h : t_inv C Mw ih stp mi pc (t_ca ins r (t_rc st)) A st F tk rs K = true) (hst : t_stt ρ rs F tk cs) (hA : t_loc ρ A L) (hS : t_rS ρ st t) (hSH : t_SH mi ρ cs Mw stp P) (hKH : t_KH ρ cs Mw K P) : tr_run mi (pc, L, t, cs, 0, 0) P := by
  unfold t_inv at h
  split at h
  · cases h
  · rename_i j mj hca
    obtain ⟨k1, k2, k3, k4⟩ := t_ca_ok hca hS hst.2.2.2
    obtain ⟨s1, rest, rfl, hn, h⟩ := t_spl_ok h
    rw [List.append_nil] at h
    obtain ⟨t1, t2, rfl, hl, hS1, hS2⟩ := t_rS_split hS
    split at h
    · cases h
    · rename_i hcok
      obtain ⟨c1, c2, c3, c4, c5⟩ := t_cok_ok hcok hn hS1 hS2
      have hSa := t_rS_rev hS1
      split at h
      · rename_i con hfc
        obtain ⟨d1, d2⟩ := t_fc_ok hfc
        refine tr_call hf (k3 _ _ _ _ _ _) (k4 _) k1 (c1 _ _ _) c2 (by rw [c3]; exact t_apl_ok (hC con d1) d2 hst hSa hS2 k2 h) ?_
        rintro v cs' ⟨ρ', rs', F', tk', st', e1, e2, e3, e4, e5⟩
        rw [t_nx_eq2] at e5
        rw [c4]
        exact hO.go e5 e2 (hA.ext e1) e4 hSH hKH e1 e3
      · refine tr_call (P' := fun v cs' => ∃ ρ' rs' F' tk' a, t_ext ρ ρ' ∧ t_stt ρ' rs' F' tk' cs' ∧ t_frm Mw cs cs' ∧ t_vo ρ' a v ∧ ih stp mi (pc + 3) A (t_vt a rest) F' tk' rs' K = true) hf (k3 _ _ _ _ _ _) (k4 _) k1 (c1 _ _ _) c2 ?_ ?_
        · rw [c3]
          refine hO _ _ _ _ _ _ _ _ _ h ρ _ _ _ _ hst (t_ent_ok hSa c5) trivial (fun ρ' pc' A' st' F' tk' rs' L' t' cs' _ _ _ _ _ hq => by cases hq) ?_
          intro ρ' rs' F' tk' a v cs' e1 e2 e3 e4 e5
          dsimp only at e5
          rw [t_nx_eq2] at e5
          exact ⟨ρ', rs', F', tk', a, e1, e2, e3, e4, e5⟩
        · rintro v cs' ⟨ρ', rs', F', tk', a, e1, e2, e3, e4, e5⟩
          rw [c4]
          refine hO.go e5 e2 (hA.ext e1) ?_ hSH hKH e1 e3
          match a, e4 with
          | none, e4 =>
            have e4 : v = none := e4
            subst e4
            exact t_rS.ext e1 hS2
          | some w, ⟨u, e4, e6⟩ =>
            subst e4
            exact ⟨e6, t_rS.ext e1 hS2⟩
theorem t_body_ok {C : List tCon} {ih : tH} (hC : ∀ c ∈ C, t_Con c) (hO : t_OK Mw ih) {stp : tP} {K : tQ} (h : t_body C Mw ih stp mi pc A st F tk rs K = true) (hst : t_stt ρ rs F tk cs) (hA : t_loc ρ A L) (hS : t_rS ρ st t) (hSH : t_SH mi ρ cs Mw stp P) (hKH : t_KH ρ cs Mw K P) : tr_run mi (pc, L, t, cs, 0, 0) P := by
  unfold t_body at h
  rw [t_fetch_eq] at h
  split at h
  · cases h
  · rename_i p ins len r v0 hf
    have hp : p = pc := (zz_fetch_ok hf).2
    subst hp
    have hinv : t_inv C Mw ih stp mi p (t_ca ins r (t_rc st)) A st F tk rs K = true → tr_run mi (p, L, t, cs, 0, 0) P := fun hi => t_inv_ok hC hO hf hi hst hA hS hSH hKH
    split at h
    · rename_i f hf1
      refine t_one_ok (k := fun pc' A' st' F' tk' rs' => ih stp mi pc' A' st' F' tk' rs' K) hf hf1 (t_fetch_eq _ _) (fun q e hq => (zz_fetch_ok hq).2) h hst hA hS ?_ (fun hd _ => hinv hd)
      intro ρ' pc' A' st' F' tk' rs' L' t' cs' e1 e2 e3 e4 e5 e6
      exact hO.go e6 e2 e3 e4 hSH hKH e1 e5
    · unfold t_ret at h
      split at h
      · split at h
        · rename_i x
          obtain ⟨u, t', rfl, ⟨z, rfl, hz⟩, hS'⟩ := t_rS_cons hS
          rw [t_rS_nil hS']
          split at h
          · rename_i hret
            exact tr_ret hf rfl (v := some (.int z)) (by rw [hret]; rfl) (hKH ρ rs F tk (some (.inl x)) _ cs (t_ext.rf ρ) hst (t_frm_rf Mw cs) ⟨.int z, rfl, z, rfl, hz⟩ h)
          · rename_i hret
            obtain ⟨h1, h2⟩ := t_bool h
            obtain ⟨b1, b2⟩ := t_wi_ok h1 hst.1 hz
            have hz01 : z = 0 ∨ z = 1 := by
              rcases (show z.toInt = 0 ∨ z.toInt = 1 by simp only [Int.ofNat_eq_natCast] at b1 b2; omega) with q | q
              · exact Or.inl (Int32.toInt_inj.mp q)
              · exact Or.inr (Int32.toInt_inj.mp q)
            exact tr_ret hf rfl (v := some (.int z)) (by rw [hret]; simp only [zz_rt1]; rw [if_pos hz01]) (hKH ρ rs F tk (some (.inl x)) _ cs (t_ext.rf ρ) hst (t_frm_rf Mw cs) ⟨.int z, rfl, z, rfl, hz⟩ h2)
          · cases h
        · cases h
      · split at h
        · rename_i x
          obtain ⟨u, t', rfl, ⟨z, rfl, hz⟩, hS'⟩ := t_rS_cons hS
          rw [t_rS_nil hS']
          split at h
          · rename_i hret
            exact tr_ret hf rfl (v := some (.long z)) (by rw [hret]; rfl) (hKH ρ rs F tk (some (.inr (.inl x))) _ cs (t_ext.rf ρ) hst (t_frm_rf Mw cs) ⟨.long z, rfl, z, rfl, hz⟩ h)
          · cases h
        · cases h
      · split at h
        · rw [t_rS_nil hS]
          split at h
          · rename_i hret
            exact tr_ret hf rfl (v := none) (by rw [hret]; rfl) (hKH ρ rs F tk none _ cs (t_ext.rf ρ) hst (t_frm_rf Mw cs) rfl h)
          · cases h
        · cases h
      · exact hinv h
theorem t_ev_ok {C : List tCon} (hC : ∀ c ∈ C, t_Con c) : ∀ n : Nat, t_OK Mw (t_ev C Mw n)
  | 0 => fun stp mi pc A st F tk rs K h => by cases h
  | n + 1 => fun stp mi pc A st F tk rs K h ρ L t cs P hst hA hS hSH hKH => by
    replace h : (match stp pc A st F tk rs with
      | some b => b
      | none => t_body C Mw (t_ev C Mw n) stp mi pc A st F tk rs K) = true := h
    split at h
    · rename_i b hb
      subst h
      exact hSH ρ pc A st F tk rs L t cs (t_ext.rf ρ) hst hA hS (t_frm_rf Mw cs) hb
    · exact t_body_ok hC (t_ev_ok hC n) h hst hA hS hSH hKH
end TS9
