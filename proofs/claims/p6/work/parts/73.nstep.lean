/-! the check of trees is sound: operands, single instructions -/
def xl (ρ : List Int) (o : xO) (z : Int) : Prop := match o with
  | .inl i => ρ[i]? = some z
  | .inr y => y = z
def xr (ρ : List Int) (q : xV) (u : Value) : Prop := xl ρ q.2 (fv u) ∧ xtB q.1 u
def xRS (ρ : List Int) : xS → List Value → Prop
  | [], [] => True
  | q :: s, u :: t => xr ρ q u ∧ xRS ρ s t
  | _, _ => False
def xRL (ρ : List Int) (A : xL) (L : List (Option Value)) : Prop := A.length = L.length ∧ ∀ i u, zz_ld L i = some u → ∃ q, A[i]? = some q ∧ ∀ q', q = some q' → xr ρ q' u
section XS1
variable {ρ ρ2 : List Int} {I : Nat → List Int → fH → Prop} {Q : Int → fH → Prop} {T : xT} {h : fH} {A : xL} {L : List (Option Value)} {st : xS} {t : List Value} {cs : zz_W} {pc p len lvl cu su : Nat} {r : List Nat} {v0 : Value} {k : xK} {σ' : zz_S} {q : Nat × Nat × Nat × Nat}
theorem xg_of : ∀ {ρ : List Int} {i : Nat} {z : Int}, ρ[i]? = some z → xg ρ i = z
  | [], i, z, h => by cases h
  | a :: ρ, 0, z, h => by
    simp only [List.getElem?_cons_zero, Option.some.injEq] at h
    exact h
  | a :: ρ, i + 1, z, h => by
    show xg ρ i = z
    exact xg_of (ρ := ρ) (i := i) h
theorem xe_of {o : xO} {z : Int} (h : xl ρ o z) : xe ρ o = z := by
  match o, h with
  | .inl i, h => exact xg_of h
  | .inr y, h => exact h
theorem xl_ext {o : xO} {z : Int} (h : xl ρ o z) : xl (ρ ++ ρ2) o z := by
  match o, h with
  | .inl i, h =>
    show (ρ ++ ρ2)[i]? = some z
    rw [List.getElem?_append_left (List.getElem?_eq_some_iff.mp h).1]
    exact h
  | .inr y, h => exact h
theorem xr_ext {v : xV} {u : Value} (h : xr ρ v u) : xr (ρ ++ ρ2) v u := ⟨xl_ext h.1, h.2⟩
theorem xl_new (z : Int) : xl (ρ ++ [z]) (.inl ρ.length) z := by
  show (ρ ++ [z])[ρ.length]? = some z
  simp
theorem xRS_ext : ∀ {s : xS} {t : List Value}, xRS ρ s t → xRS (ρ ++ ρ2) s t
  | [], [], _ => trivial
  | _ :: _, _ :: _, h => ⟨xr_ext h.1, xRS_ext h.2⟩
theorem xRL_ext (h : xRL ρ A L) : xRL (ρ ++ ρ2) A L := ⟨h.1, fun i u hi => by
  obtain ⟨q, h1, h2⟩ := h.2 i u hi
  exact ⟨q, h1, fun q' hq => xr_ext (h2 q' hq)⟩⟩
theorem xRS_cons {v : xV} {s : xS} {t : List Value} (h : xRS ρ (v :: s) t) : ∃ u t', t = u :: t' ∧ xr ρ v u ∧ xRS ρ s t' := by
  match t, h with
  | u :: t', h => exact ⟨u, t', rfl, h.1, h.2⟩
theorem xd_skip : ∀ {m : Nat} {T : xT}, xd I Q T m ρ h → xd I Q (T.drop m) 0 ρ h
  | 0, T, hd => by
    rw [List.drop_zero]
    exact hd
  | m + 1, [], hd => trivial
  | m + 1, nd :: T, hd => by
    have hd : xd I Q T m ρ h := hd
    exact xd_skip (m := m) (T := T) hd
theorem xob_ok {a b : xO} (h : xob a b = true) : a = b := by
  match a, b, h with
  | .inl i, .inl j, h => exact congrArg _ (Nat.eq_of_beq_eq_true h)
  | .inr i, .inr j, h => exact congrArg _ (t_eq_iff.mp h)
theorem xobs_ok : ∀ {a b : List xO}, xobs a b = true → a = b
  | [], [], _ => rfl
  | [], _ :: _, h => by cases h
  | _ :: _, [], h => by cases h
  | x :: a, y :: b, h => by
    obtain ⟨h1, h2⟩ := t_bool (b := xob x y) (c := xobs a b) h
    rw [xob_ok h1, xobs_ok h2]
theorem xnb_ok {a b : xN} (h : xnb a b = true) : a = b := by
  unfold xnb at h
  obtain ⟨h1, h⟩ := t_bool h
  obtain ⟨h2, h⟩ := t_bool h
  obtain ⟨h3, h⟩ := t_bool h
  obtain ⟨a1, a2, a3, a4⟩ := a
  obtain ⟨b1, b2, b3, b4⟩ := b
  have e1 := Nat.eq_of_beq_eq_true h1
  have e2 := xobs_ok h2
  have e3 := Nat.eq_of_beq_eq_true h3
  have e4 := t_eq_iff.mp h
  dsimp only at e1 e2 e3 e4
  rw [e1, e2, e3, e4]
theorem x_em_ok {nd : xN} {kk : xT → Bool} (h : x_em nd T kk = true) : ∃ T', T = nd :: T' ∧ kk T' = true := by
  unfold x_em at h
  split at h
  · obtain ⟨h1, h2⟩ := t_bool h
    rw [xnb_ok h1]
    exact ⟨_, rfl, h2⟩
  · cases h
theorem x_ev_ok {nd : xN} {kk : xO → Nat → xT → Bool} (h : x_ev nd lvl T kk = true) : ∃ T', T = nd :: T' ∧ kk (.inl lvl) (lvl + 1) T' = true := by
  obtain ⟨T', h1, h2⟩ := x_em_ok h
  rw [t_fn_eq] at h2
  exact ⟨T', h1, h2⟩
-- what a step comes to
def xNx (k : xK) (I : Nat → List Int → fH → Prop) (Q : Int → fH → Prop) (ρ : List Int) (cu su : Nat) (σ' : zz_S) : Prop := ∃ ρ2 pc' A' st' T' L' t' cs', σ' = (pc', L', t', cs', cu, su) ∧ k pc' A' st' (ρ ++ ρ2).length T' = true ∧ xRL (ρ ++ ρ2) A' L' ∧ xRS (ρ ++ ρ2) st' t' ∧ fFX cs' ∧ xd I Q T' 0 (ρ ++ ρ2) (fh cs')
theorem xNx_0 {pc' : Nat} {A' : xL} {st' : xS} {T' : xT} {L' : List (Option Value)} {t' : List Value} {cs' : zz_W} (hk : k pc' A' st' lvl T' = true) (hl : ρ.length = lvl) (hA : xRL ρ A' L') (hS : xRS ρ st' t') (hF : fFX cs') (hd : xd I Q T' 0 ρ (fh cs')) : xNx k I Q ρ cu su (pc', L', t', cs', cu, su) := by
  refine ⟨[], pc', A', st', T', L', t', cs', rfl, ?_⟩
  rw [List.append_nil]
  exact ⟨by rw [hl]; exact hk, hA, hS, hF, hd⟩
theorem xNx_1 {pc' : Nat} {A' : xL} {st' : xS} {T' : xT} {L' : List (Option Value)} {t' : List Value} {cs' : zz_W} {z : Int} (hk : k pc' A' st' (lvl + 1) T' = true) (hl : ρ.length = lvl) (hA : xRL (ρ ++ [z]) A' L') (hS : xRS (ρ ++ [z]) st' t') (hF : fFX cs') (hd : xd I Q T' 0 (ρ ++ [z]) (fh cs')) : xNx k I Q ρ cu su (pc', L', t', cs', cu, su) :=
  ⟨[z], pc', A', st', T', L', t', cs', rfl, by rw [List.length_append, hl]; exact hk, hA, hS, hF, hd⟩
theorem x_pure {ins : Instr} (hone : zz_one q (p, ins, len, r, v0) (pc, L, t, cs, cu, su) = some σ') (hdb : zz_db ins r v0 pc L t cs = none) (hal : zz_al ins r q.1 q.2.1 pc L t cs cu su = none) (hna : zz_na ins r q.2.2.1 q.2.2.2 pc L t cs = none) : ∃ pc' L' t', zz_da ins pc L t = some (pc', L', t') ∧ σ' = (pc', L', t', cs, cu, su) := by
  simp only [zz_one] at hone
  split at hone
  · rename_i pc' L' t' h1
    cases hone
    exact ⟨pc', L', t', h1, rfl⟩
  · rw [hdb] at hone
    dsimp only at hone
    rw [hal] at hone
    dsimp only at hone
    rw [hna] at hone
    cases hone
theorem x_heap {ins : Instr} (hone : zz_one q (p, ins, len, r, v0) (pc, L, t, cs, cu, su) = some σ') (hda : zz_da ins pc L t = none) (hal : zz_al ins r q.1 q.2.1 pc L t cs cu su = none) (hna : zz_na ins r q.2.2.1 q.2.2.2 pc L t cs = none) : ∃ pc' L' t' cs', zz_db ins r v0 pc L t cs = some (pc', L', t', cs') ∧ σ' = (pc', L', t', cs', cu, su) := by
  simp only [zz_one] at hone
  rw [hda] at hone
  dsimp only at hone
  split at hone
  · rename_i pc' L' t' cs' h1
    cases hone
    exact ⟨pc', L', t', cs', h1, rfl⟩
  · rw [hal] at hone
    dsimp only at hone
    rw [hna] at hone
    cases hone
-- arithmetic
theorem x_2_ok {o τ n : Nat} (h : x_2 o τ n r v0 pc A st lvl T k = true) (hl : ρ.length = lvl) (hA : xRL ρ A L) (hS : xRS ρ st t) (hF : fFX cs) (hd : xd I Q T 0 ρ (fh cs)) (hz : ∀ a b t', t = b :: a :: t' → ∃ w, σ' = (pc + n, L, w :: t', cs, cu, su) ∧ xtB τ w ∧ fv w = xop2 o (fv a) (fv b)) : xNx k I Q ρ cu su σ' := by
  unfold x_2 at h
  split at h
  · rename_i τ1 y τ2 x s
    obtain ⟨b, t1, rfl, hb, hS1⟩ := xRS_cons hS
    obtain ⟨a, t2, rfl, ha, hS2⟩ := xRS_cons hS1
    obtain ⟨w, rfl, hw, hv⟩ := hz a b t2 rfl
    obtain ⟨T', rfl, h2⟩ := x_ev_ok h
    rw [t_fn_eq] at h2
    have hd : xd I Q T' 0 (ρ ++ [xop2 o (xe ρ x) (xe ρ y)]) (fh cs) := hd _ rfl
    rw [xe_of ha.1, xe_of hb.1, ← hv] at hd
    exact xNx_1 h2 hl (xRL_ext hA) ⟨⟨by rw [← hl]; exact xl_new _, hw⟩, xRS_ext hS2⟩ hF hd
  · cases h
theorem x_1_ok {o τ : Nat} (h : x_1 o τ r v0 pc A st lvl T k = true) (hl : ρ.length = lvl) (hA : xRL ρ A L) (hS : xRS ρ st t) (hF : fFX cs) (hd : xd I Q T 0 ρ (fh cs)) (hz : ∀ a t', t = a :: t' → ∃ w, σ' = (pc + 1, L, w :: t', cs, cu, su) ∧ xtB τ w ∧ fv w = xop1 o (fv a)) : xNx k I Q ρ cu su σ' := by
  unfold x_1 at h
  split at h
  · rename_i τ2 x s
    obtain ⟨a, t2, rfl, ha, hS2⟩ := xRS_cons hS
    obtain ⟨w, rfl, hw, hv⟩ := hz a t2 rfl
    obtain ⟨T', rfl, h2⟩ := x_ev_ok h
    rw [t_fn_eq] at h2
    have hd : xd I Q T' 0 (ρ ++ [xop1 o (xe ρ x)]) (fh cs) := hd _ rfl
    rw [xe_of ha.1, ← hv] at hd
    exact xNx_1 h2 hl (xRL_ext hA) ⟨⟨by rw [← hl]; exact xl_new _, hw⟩, xRS_ext hS2⟩ hF hd
  · cases h
theorem x_con_ok {τ n : Nat} {z : Int} {w : Value} (h : x_con τ n z r v0 pc A st lvl T k = true) (hl : ρ.length = lvl) (hA : xRL ρ A L) (hS : xRS ρ st t) (hF : fFX cs) (hd : xd I Q T 0 ρ (fh cs)) (hσ : σ' = (pc + n, L, w :: t, cs, cu, su)) (hw : fv w = z) (ht : xtB τ w) : xNx k I Q ρ cu su σ' := by
  unfold x_con at h
  rw [t_fi_eq, t_fn_eq] at h
  rw [hσ]
  exact xNx_0 h hl hA ⟨⟨hw.symm, ht⟩, hS⟩ hF hd
theorem x_lod_ok {j n : Nat} (h : x_lod j n r v0 pc A st lvl T k = true) (hl : ρ.length = lvl) (hA : xRL ρ A L) (hS : xRS ρ st t) (hF : fFX cs) (hd : xd I Q T 0 ρ (fh cs)) (hz : ∃ w, zz_ld L j = some w ∧ σ' = (pc + n, L, w :: t, cs, cu, su)) : xNx k I Q ρ cu su σ' := by
  unfold x_lod x_ldv at h
  rw [t_nth_eq] at h
  obtain ⟨w, h1, rfl⟩ := hz
  obtain ⟨y, h2, h3⟩ := hA.2 j w h1
  rw [h2] at h
  split at h
  · rename_i v hv
    cases hv
    dsimp only at h
    rw [t_fn_eq] at h
    exact xNx_0 h hl hA ⟨h3 v rfl, hS⟩ hF hd
  · cases h
theorem x_ld_set {L : List (Option Value)} {i j : Nat} {w : Option Value} {u : Value} (h : zz_ld (L.set j w) i = some u) : (i = j ∧ w = some u) ∨ (i ≠ j ∧ zz_ld L i = some u) := by
  unfold zz_ld at h ⊢
  rw [List.getElem?_set] at h
  by_cases hij : j = i
  · subst hij
    rw [if_pos rfl] at h
    by_cases hl : j < L.length
    · rw [if_pos hl] at h
      left
      refine ⟨rfl, ?_⟩
      split at h
      · rename_i y hy
        cases hy
        cases h
        rfl
      · cases h
    · rw [if_neg hl] at h
      cases h
  · rw [if_neg hij] at h
    exact Or.inr ⟨fun e => hij e.symm, h⟩
theorem x_cl_ld {L : List (Option Value)} {i j : Nat} {u : Value} (h : zz_ld (zz_cl L j) i = some u) : zz_ld L i = some u := by
  unfold zz_cl at h
  split at h
  · exact h
  · split at h
    · split at h
      · rcases x_ld_set h with q | q
        · cases q.2
        · exact q.2
      · exact h
    · exact h
theorem x_cl_len {L : List (Option Value)} {j : Nat} : (zz_cl L j).length = L.length := by
  unfold zz_cl
  split
  · rfl
  · split
    · split
      · rw [List.length_set]
      · rfl
    · rfl
theorem x_sv_ld {L : List (Option Value)} {i j : Nat} {w u : Value} (h : zz_ld (zz_sv L j w) i = some u) : (i = j ∧ w = u) ∨ (i ≠ j ∧ zz_ld L i = some u) := by
  unfold zz_sv at h
  split at h
  · rcases x_ld_set h with q | q
    · cases q.2
    · rcases x_ld_set q.2 with s | s
      · exact Or.inl ⟨s.1, Option.some.inj s.2⟩
      · exact Or.inr ⟨s.1, x_cl_ld s.2⟩
  · rcases x_ld_set h with s | s
    · exact Or.inl ⟨s.1, Option.some.inj s.2⟩
    · exact Or.inr ⟨s.1, x_cl_ld s.2⟩
theorem x_sv_len {L : List (Option Value)} {j : Nat} {w : Value} : (zz_sv L j w).length = L.length := by
  unfold zz_sv
  split
  · rw [List.length_set, List.length_set, x_cl_len]
  · rw [List.length_set, x_cl_len]
theorem xRL_sv {j : Nat} {w : Value} {v : xV} (hA : xRL ρ A L) (hw : xr ρ v w) (hj : j < L.length) : xRL ρ (A.set j (some v)) (zz_sv L j w) := by
  refine ⟨by rw [List.length_set, x_sv_len]; exact hA.1, fun i u hi => ?_⟩
  rcases x_sv_ld hi with s | s
  · obtain ⟨rfl, rfl⟩ := s
    refine ⟨some v, ?_, fun q' hq => by cases hq; exact hw⟩
    rw [List.getElem?_set, if_pos rfl, if_pos (by rw [hA.1]; exact hj)]
  · obtain ⟨y, h1, h2⟩ := hA.2 i u s.2
    refine ⟨y, ?_, h2⟩
    rw [List.getElem?_set, if_neg (fun e => s.1 e.symm)]
    exact h1
theorem x_sto_ok {j n : Nat} (h : x_sto j n r v0 pc A st lvl T k = true) (hl : ρ.length = lvl) (hA : xRL ρ A L) (hS : xRS ρ st t) (hF : fFX cs) (hd : xd I Q T 0 ρ (fh cs)) (hz : ∃ w t', t = w :: t' ∧ j < L.length ∧ σ' = (pc + n, zz_sv L j w, t', cs, cu, su)) : xNx k I Q ρ cu su σ' := by
  unfold x_sto at h
  split at h
  · rename_i v s
    obtain ⟨w, t', h1, h2, rfl⟩ := hz
    obtain ⟨u, t2, h3, h4, h5⟩ := xRS_cons hS
    rw [h1] at h3
    cases h3
    unfold x_st at h
    rw [t_upd_eq, t_fn_eq] at h
    exact xNx_0 h hl (xRL_sv hA h4 h2) h5 hF hd
  · cases h
theorem x_pi_inv {n : Nat} {v : Option Value} {pc' : Nat} {L' : List (Option Value)} {t' : List Value} (h : zz_pi n L v t = some (pc', L', t')) : ∃ w, v = some w ∧ pc' = n ∧ L' = L ∧ t' = w :: t := by
  unfold zz_pi at h
  split at h
  · cases h
    exact ⟨_, rfl, rfl, rfl, rfl⟩
  · cases h
theorem x_pl_inv {n : Nat} {v : Option Value} {pc' : Nat} {L' : List (Option Value)} {t' : List Value} (h : zz_pl n L v t = some (pc', L', t')) : ∃ w, v = some w ∧ pc' = n ∧ L' = L ∧ t' = w :: t := by
  unfold zz_pl at h
  split at h
  · cases h
    exact ⟨_, rfl, rfl, rfl, rfl⟩
  · cases h
theorem x_pr_inv {n : Nat} {v : Option Value} {pc' : Nat} {L' : List (Option Value)} {t' : List Value} (h : zz_pr n L v t = some (pc', L', t')) : ∃ w, v = some w ∧ pc' = n ∧ L' = L ∧ t' = w :: t := by
  unfold zz_pr at h
  split at h
  · cases h
    exact ⟨_, rfl, rfl, rfl, rfl⟩
  · cases h
theorem x_si_inv {n j : Nat} {pc' : Nat} {L' : List (Option Value)} {t' : List Value} (h : zz_si n L j t = some (pc', L', t')) : ∃ w, t = w :: t' ∧ j < L.length ∧ pc' = n ∧ L' = zz_sv L j w := by
  unfold zz_si at h
  split at h
  · split at h
    · cases h
      exact ⟨_, rfl, by assumption, rfl, rfl⟩
    · cases h
  · cases h
theorem x_sl_inv {n j : Nat} {pc' : Nat} {L' : List (Option Value)} {t' : List Value} (h : zz_sl n L j t = some (pc', L', t')) : ∃ w, t = w :: t' ∧ j < L.length ∧ pc' = n ∧ L' = zz_sv L j w := by
  unfold zz_sl at h
  split at h
  · split at h
    · cases h
      exact ⟨_, rfl, by omega, rfl, rfl⟩
    · cases h
  · cases h
theorem x_sr_inv {n j : Nat} {pc' : Nat} {L' : List (Option Value)} {t' : List Value} (h : zz_sr n L j t = some (pc', L', t')) : ∃ w, t = w :: t' ∧ j < L.length ∧ pc' = n ∧ L' = zz_sv L j w := by
  unfold zz_sr at h
  split at h
  · split at h
    · cases h
      exact ⟨_, rfl, by assumption, rfl, rfl⟩
    · cases h
  · cases h
theorem x_i2_inv {n : Nat} {g : Int32 → Int32 → Int32} {pc' : Nat} {L' : List (Option Value)} {t' : List Value} (h : zz_i2 n L t g = some (pc', L', t')) : ∃ x y s, t = .int y :: .int x :: s ∧ pc' = n ∧ L' = L ∧ t' = .int (g x y) :: s := by
  unfold zz_i2 at h
  split at h
  · cases h
    exact ⟨_, _, _, rfl, rfl, rfl, rfl⟩
  · cases h
theorem x_i2n_inv {n : Nat} {g : Int32 → Int32 → Int32} {pc' : Nat} {L' : List (Option Value)} {t' : List Value} (h : zz_i2n n L t g = some (pc', L', t')) : ∃ x y s, t = .int y :: .int x :: s ∧ pc' = n ∧ L' = L ∧ t' = .int (g x y) :: s := by
  unfold zz_i2n at h
  split at h
  · split at h
    · cases h
    · cases h
      exact ⟨_, _, _, rfl, rfl, rfl, rfl⟩
  · cases h
theorem x_l2_inv {n : Nat} {g : Int64 → Int64 → Int64} {pc' : Nat} {L' : List (Option Value)} {t' : List Value} (h : zz_l2 n L t g = some (pc', L', t')) : ∃ x y s, t = .long y :: .long x :: s ∧ pc' = n ∧ L' = L ∧ t' = .long (g x y) :: s := by
  unfold zz_l2 at h
  split at h
  · cases h
    exact ⟨_, _, _, rfl, rfl, rfl, rfl⟩
  · cases h
theorem x_l2n_inv {n : Nat} {g : Int64 → Int64 → Int64} {pc' : Nat} {L' : List (Option Value)} {t' : List Value} (h : zz_l2n n L t g = some (pc', L', t')) : ∃ x y s, t = .long y :: .long x :: s ∧ pc' = n ∧ L' = L ∧ t' = .long (g x y) :: s := by
  unfold zz_l2n at h
  split at h
  · split at h
    · cases h
    · cases h
      exact ⟨_, _, _, rfl, rfl, rfl, rfl⟩
  · cases h
theorem x_i2_go {ins : Instr} {o : Nat} {g : Int32 → Int32 → Int32} (hone : zz_one q (p, ins, len, r, v0) (pc, L, t, cs, cu, su) = some σ') (hdb : zz_db ins r v0 pc L t cs = none) (hal : zz_al ins r q.1 q.2.1 pc L t cs cu su = none) (hna : zz_na ins r q.2.2.1 q.2.2.2 pc L t cs = none) (hi : ∀ pc' L' t', zz_da ins pc L t = some (pc', L', t') → ∃ x y s, t = .int y :: .int x :: s ∧ pc' = pc + 1 ∧ L' = L ∧ t' = .int (g x y) :: s) (hg : ∀ x y : Int32, (g x y).toInt = xop2 o x.toInt y.toInt) (h : x_2 o 0 1 r v0 pc A st lvl T k = true) (hl : ρ.length = lvl) (hA : xRL ρ A L) (hS : xRS ρ st t) (hF : fFX cs) (hd : xd I Q T 0 ρ (fh cs)) : xNx k I Q ρ cu su σ' := by
  obtain ⟨pc', L', t', h1, rfl⟩ := x_pure hone hdb hal hna
  obtain ⟨x, y, s, rfl, rfl, rfl, rfl⟩ := hi pc' L' t' h1
  exact x_2_ok h hl hA hS hF hd (fun a b t2 e => by
    cases e
    exact ⟨_, rfl, rfl, hg x y⟩)
theorem x_l2_go {ins : Instr} {o : Nat} {g : Int64 → Int64 → Int64} (hone : zz_one q (p, ins, len, r, v0) (pc, L, t, cs, cu, su) = some σ') (hdb : zz_db ins r v0 pc L t cs = none) (hal : zz_al ins r q.1 q.2.1 pc L t cs cu su = none) (hna : zz_na ins r q.2.2.1 q.2.2.2 pc L t cs = none) (hi : ∀ pc' L' t', zz_da ins pc L t = some (pc', L', t') → ∃ x y s, t = .long y :: .long x :: s ∧ pc' = pc + 1 ∧ L' = L ∧ t' = .long (g x y) :: s) (hg : ∀ x y : Int64, (g x y).toInt = xop2 o x.toInt y.toInt) (h : x_2 o 1 1 r v0 pc A st lvl T k = true) (hl : ρ.length = lvl) (hA : xRL ρ A L) (hS : xRS ρ st t) (hF : fFX cs) (hd : xd I Q T 0 ρ (fh cs)) : xNx k I Q ρ cu su σ' := by
  obtain ⟨pc', L', t', h1, rfl⟩ := x_pure hone hdb hal hna
  obtain ⟨x, y, s, rfl, rfl, rfl, rfl⟩ := hi pc' L' t' h1
  exact x_2_ok h hl hA hS hF hd (fun a b t2 e => by
    cases e
    exact ⟨_, rfl, rfl, hg x y⟩)
theorem g_add (x y : Int32) : (x + y).toInt = xop2 0 x.toInt y.toInt := Int32.toInt_add x y
theorem g_sub (x y : Int32) : (x - y).toInt = xop2 1 x.toInt y.toInt := Int32.toInt_sub x y
theorem g_mul (x y : Int32) : (x * y).toInt = xop2 2 x.toInt y.toInt := Int32.toInt_mul x y
theorem g_and (x y : Int32) : (x &&& y).toInt = xop2 3 x.toInt y.toInt := by simp only [xop2, xand, Int32.ofInt_toInt]
theorem g_or (x y : Int32) : (x ||| y).toInt = xop2 4 x.toInt y.toInt := by simp only [xop2, xor', Int32.ofInt_toInt]
theorem g_xor (x y : Int32) : (x ^^^ y).toInt = xop2 5 x.toInt y.toInt := by simp only [xop2, xxor, Int32.ofInt_toInt]
theorem g_shl (x y : Int32) : (x <<< (y &&& 31)).toInt = xop2 6 x.toInt y.toInt := by simp only [xop2, xshl, Int32.ofInt_toInt]
theorem g_shr (x y : Int32) : (x >>> (y &&& 31)).toInt = xop2 7 x.toInt y.toInt := by simp only [xop2, xshr, Int32.ofInt_toInt]
theorem g_ushr (x y : Int32) : ((x.toUInt32 >>> (y.toUInt32 &&& Int32.toUInt32 31)).toInt32).toInt = xop2 8 x.toInt y.toInt := by simp only [xop2, xushr, Int32.ofInt_toInt]
theorem g_div (x y : Int32) : (x / y).toInt = xop2 9 x.toInt y.toInt := Int32.toInt_div x y
theorem g_rem (x y : Int32) : (x - x / y * y).toInt = xop2 10 x.toInt y.toInt := by
  rw [Int32.toInt_sub, Int32.toInt_mul, Int32.toInt_div]
  rfl
theorem g_ladd (x y : Int64) : (x + y).toInt = xop2 13 x.toInt y.toInt := Int64.toInt_add x y
theorem g_lsub (x y : Int64) : (x - y).toInt = xop2 14 x.toInt y.toInt := Int64.toInt_sub x y
theorem g_lmul (x y : Int64) : (x * y).toInt = xop2 15 x.toInt y.toInt := Int64.toInt_mul x y
theorem g_ldiv (x y : Int64) : (x / y).toInt = xop2 16 x.toInt y.toInt := Int64.toInt_div x y
theorem g_lrem (x y : Int64) : (x - x / y * y).toInt = xop2 17 x.toInt y.toInt := by
  rw [Int64.toInt_sub, Int64.toInt_mul, Int64.toInt_div]
  rfl
theorem g_max (x y : Int32) : (if x < y then y else x).toInt = xop2 11 x.toInt y.toInt := by
  simp only [xop2, xmax, Int32.lt_iff_toInt_lt]
  split <;> rfl
theorem g_min (x y : Int32) : (if y < x then y else x).toInt = xop2 12 x.toInt y.toInt := by
  simp only [xop2, xmin, Int32.lt_iff_toInt_lt]
  split <;> rfl
theorem g_lcmp (x y : Int64) : (lg_cmp x y).toInt = xop2 18 x.toInt y.toInt := by
  have h1 : x > y ↔ y.toInt < x.toInt := Int64.lt_iff_toInt_lt
  have h2 : x = y ↔ x.toInt = y.toInt := Int64.toInt_inj.symm
  simp only [xop2, xlcmp, lg_cmp, h1, h2]
  split
  · rfl
  · split <;> rfl
-- branches
theorem x_cc_t (op : ClassFile.Cond) (a b : Int) : xcmp (x_cc op) a b ↔ t_rel op a b = true := by cases op <;> simp [xcmp, x_cc, t_rel]
theorem x_cc_f (op : ClassFile.Cond) (a b : Int) : xcmp (xng (x_cc op)) a b ↔ t_rel op a b = false := by cases op <;> simp [xcmp, xng, x_cc, t_rel]
theorem x_cb_eq (op : ClassFile.Cond) (a b : Int) : x_cb op a b = t_rel op a b := by
  have e1 : t_eq a b = decide (a = b) := by
    rw [Bool.eq_iff_iff, t_eq_iff, decide_eq_true_eq]
  have e2 : ∀ x y, t_le x y = decide (x ≤ y) := fun x y => by
    rw [Bool.eq_iff_iff, t_le_iff, decide_eq_true_eq]
  cases op
  · simp only [x_cb, t_rel, e1]
  · simp only [x_cb, t_rel, e1]
    by_cases h : a = b <;> simp [h]
  · simp only [x_cb, t_rel, e2]
    exact decide_eq_decide.mpr (by show a + 1 ≤ b ↔ a < b; omega)
  · simp only [x_cb, t_rel, e2]
  · simp only [x_cb, t_rel, e2]
    exact decide_eq_decide.mpr (by show b + 1 ≤ a ↔ b < a; omega)
  · simp only [x_cb, t_rel, e2]
theorem x_if_ok {op : ClassFile.Cond} {x y : xO} {a b : Int} {kt kf : xT → Bool} (hh : x_if op x y T kt kf = true) (hx : xl ρ x a) (hy : xl ρ y b) (hd : xd I Q T 0 ρ h) : (t_rel op a b = true → ∃ T', kt T' = true ∧ xd I Q T' 0 ρ h) ∧ (t_rel op a b = false → ∃ T', kf T' = true ∧ xd I Q T' 0 ρ h) := by
  have hbr : x_br op x y T kt kf = true → (t_rel op a b = true → ∃ T', kt T' = true ∧ xd I Q T' 0 ρ h) ∧ (t_rel op a b = false → ∃ T', kf T' = true ∧ xd I Q T' 0 ρ h) := by
    intro hb
    unfold x_br at hb
    split at hb
    · cases hb
    · rename_i nd T'
      split at hb
      · rename_i a' b' o m
        obtain ⟨h1, hb1⟩ := t_bool hb
        obtain ⟨h2, hb2⟩ := t_bool hb1
        obtain ⟨h3, hb3⟩ := t_bool hb2
        obtain ⟨h4, hb4⟩ := t_bool hb3
        have e1 := xob_ok h1
        have e2 := xob_ok h2
        have e3 := Nat.eq_of_beq_eq_true h3
        subst e1
        subst e2
        subst e3
        have hd : (xcmp (x_cc op) (xe ρ a') (xe ρ b') → xd I Q T' 0 ρ h) ∧ (xcmp (xng (x_cc op)) (xe ρ a') (xe ρ b') → xd I Q T' (Int.toNat m) ρ h) := hd
        rw [xe_of hx, xe_of hy, x_cc_t, x_cc_f] at hd
        exact ⟨fun q => ⟨T', h4, hd.1 q⟩, fun q => ⟨_, hb4, xd_skip (hd.2 q)⟩⟩
      · cases hb
  unfold x_if at hh
  split at hh
  · split at hh
    · rename_i a' _ b'
      have hx : a' = a := hx
      have hy : b' = b := hy
      subst hx
      subst hy
      rw [x_cb_eq] at hh
      split at hh
      · rename_i hq
        exact ⟨fun _ => ⟨T, hh, hd⟩, fun q => (by rw [hq] at q; cases q)⟩
      · rename_i hq
        exact ⟨fun q => (by rw [hq] at q; cases q), fun _ => ⟨T, hh, hd⟩⟩
    · exact hbr hh
  · exact hbr hh
theorem x_go_ok {off : Int} {kk : Nat → Bool} (h : x_go pc off kk = true) : ∃ tt, zz_tg pc off = some tt ∧ kk tt = true := by
  unfold x_go at h
  split at h
  · rename_i tt ht
    rw [t_fn_eq] at h
    exact ⟨tt, ht, h⟩
  · cases h
theorem x_bo_ok {op : ClassFile.Cond} {off : Int} {x y : xO} {a b : Int} {kk : Nat → xT → Bool} (hh : x_bo op off pc x y T kk = true) (hx : xl ρ x a) (hy : xl ρ y b) (hd : xd I Q T 0 ρ h) {s' t' : List Value} {pc' : Nat} {L' : List (Option Value)} (hg : zz_go L s' (zz_br (t_rel op a b) pc off) = some (pc', L', t')) : L' = L ∧ t' = s' ∧ ∃ T', kk pc' T' = true ∧ xd I Q T' 0 ρ h := by
  obtain ⟨h1, h2⟩ := x_if_ok hh hx hy hd
  unfold zz_br at hg
  split at hg
  · rename_i tt ht
    unfold zz_go at hg
    cases hg
    refine ⟨rfl, rfl, ?_⟩
    split
    · rename_i hq
      obtain ⟨T', h3, h4⟩ := h1 hq
      obtain ⟨t2, h5, h6⟩ := x_go_ok h3
      rw [ht] at h5
      cases h5
      exact ⟨T', h6, h4⟩
    · rename_i hq
      obtain ⟨T', h3, h4⟩ := h2 hq
      rw [t_fn_eq] at h3
      exact ⟨T', h3, h4⟩
  · cases hg
def x_fst (d a : Int) : List (Int × Int) → Int
  | [] => d
  | p :: r => if a = p.1 then p.2 else x_fst d a r
theorem x_cs_ok {d : Int} {x : xO} {a : Int} {kk : Nat → xT → Bool} (hx : xl ρ x a) : ∀ {ps : List (Int × Int)} {T : xT}, x_cs pc x d ps kk T = true → xd I Q T 0 ρ h → ∃ T' tt, zz_tg pc (x_fst d a ps) = some tt ∧ kk tt T' = true ∧ xd I Q T' 0 ρ h
  | [], T, hh, hd => by
    obtain ⟨tt, h1, h2⟩ := x_go_ok hh
    exact ⟨T, tt, h1, h2, hd⟩
  | p :: ps, T, hh, hd => by
    have hh : x_if .eq x (.inr p.1) T (fun T1 => x_go pc p.2 (fun t => kk t T1)) (x_cs pc x d ps kk) = true := hh
    obtain ⟨h1, h2⟩ := x_if_ok hh hx (show xl ρ (.inr p.1) p.1 from rfl) hd
    unfold x_fst
    by_cases hq : a = p.1
    · rw [if_pos hq]
      obtain ⟨T', h3, h4⟩ := h1 (by simp [t_rel, hq])
      obtain ⟨tt, h5, h6⟩ := x_go_ok h3
      exact ⟨T', tt, h5, h6, h4⟩
    · rw [if_neg hq]
      obtain ⟨T', h3, h4⟩ := h2 (by simp [t_rel, hq])
      exact x_cs_ok hx h3 h4
theorem x_fst_ls (d a : Int) : ∀ l : List (Int × Int), x_fst d a l = Op.lookupswitch.offset l d a
  | [] => rfl
  | (b, o) :: r => by
    rw [Op.lookupswitch.offset_cons, ← x_fst_ls d a r]
    show (if a = b then o else x_fst d a r) = _
    by_cases hq : a = b
    · subst hq
      simp
    · rw [if_neg hq]
      split
      · rename_i hs
        exact absurd (by first | exact hs | exact hs.symm | (simpa using hs) | exact (by simpa using hs : b = a).symm) hq
      · rfl
theorem x_fst_ts (d a : Int) : ∀ (l : List Int) (lo : Int), x_fst d a (x_off lo l) = if a < lo ∨ lo + l.length - 1 < a then d else (l[(a - lo).toNat]?).getD d
  | [], lo => by
    show d = _
    simp
  | o :: l, lo => by
    show (if a = lo then o else x_fst d a (x_off (Int.add lo 1) l)) = _
    have e : Int.add lo 1 = lo + 1 := rfl
    rw [e, x_fst_ts d a l (lo + 1)]
    simp only [List.length_cons]
    by_cases h1 : a = lo
    · subst h1
      rw [if_pos rfl, if_neg (by omega)]
      simp
    · rw [if_neg h1]
      by_cases h2 : a < lo ∨ lo + ((l.length + 1 : Nat) : Int) - 1 < a
      · rw [if_pos h2, if_pos (by omega)]
      · rw [if_neg h2, if_neg (by omega)]
        have e2 : (a - lo).toNat = (a - (lo + 1)).toNat + 1 := by omega
        rw [e2, List.getElem?_cons_succ]
end XS1
