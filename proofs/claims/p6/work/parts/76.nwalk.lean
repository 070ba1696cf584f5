/-! the check of trees is sound: calls, whole walks, methods -/
def xRv (ρ : List Int) (a : Option xV) (v : Option Value) : Prop := match a with
  | none => v = none
  | some q => ∃ u, v = some u ∧ xr ρ q u
def xLV : List (Nat × Nat) → List Int → List (Option Value) → Prop
  | [], [], _ => True
  | q :: r, z :: zs, L => (∀ u, zz_ld L q.1 = some u → fv u = z ∧ xtB q.2 u) ∧ xLV r zs L
  | _, _, _ => False
def xKH (I : Nat → List Int → fH → Prop) (Q : Int → fH → Prop) (ρ : List Int) (cs' : zz_W) (v : Option Value) (K : xQ) (C : Prop) : Prop := ∀ (a : Option xV) (ρ2 : List Int) (T' : xT), K a (ρ ++ ρ2).length T' = true → xRv (ρ ++ ρ2) a v → fFX cs' → xd I Q T' 0 (ρ ++ ρ2) (fh cs') → C
def xHH (I : Nat → List Int → fH → Prop) (hd : xHd) (mi : zz_Mi) (m : Nat) (v : Option Value) (cs' : zz_W) (C : Prop) : Prop := ∀ (i : Nat) (e : Nat × List (Nat × Nat)) (m' : Nat) (L' : List (Option Value)) (cs1 : zz_W) (cu' su' : Nat) (vals : List Int), hd[i]? = some e → m' ≤ m → zz_ev m' mi (e.1, L', [], cs1, cu', su') = some (v, cs') → fFX cs1 → L'.length = mi.2.2.1 → xLV e.2 vals L' → I i vals (fh cs1) → C
def xOK (h : xH) : Prop := ∀ (hd : xHd) (mi : zz_Mi) (pc : Nat) (A : xL) (st : xS) (lvl : Nat) (T : xT) (K : xQ), h hd mi pc A st lvl T K = true → f_okM mi = true → ∀ (ρ : List Int) (L : List (Option Value)) (t : List Value) (cs : zz_W) (cu su m : Nat) (v : Option Value) (cs' : zz_W) (I : Nat → List Int → fH → Prop) (Q : Int → fH → Prop) (C : Prop), ρ.length = lvl → xRL ρ A L → xRS ρ st t → fFX cs → zz_ev m mi (pc, L, t, cs, cu, su) = some (v, cs') → xd I Q T 0 ρ (fh cs) → xKH I Q ρ cs' v K C → xHH I hd mi m v cs' C → C
section XS4
variable {ρ ρ2 : List Int} {I : Nat → List Int → fH → Prop} {Q : Int → fH → Prop} {T : xT} {A : xL} {L : List (Option Value)} {st : xS} {t : List Value} {cs cs' : zz_W} {mi mj : zz_Mi} {hd : xHd} {pc lvl cu su m k : Nat} {K : xQ} {C : Prop} {v : Option Value}
theorem xKH.ext (h : xKH I Q ρ cs' v K C) : xKH I Q (ρ ++ ρ2) cs' v K C := fun a ρ3 T' h1 h2 h3 h4 => by
  rw [List.append_assoc] at h1 h2 h4
  exact h a (ρ2 ++ ρ3) T' h1 h2 h3 h4
theorem xHH.mono {m' : Nat} (h : xHH I hd mi m v cs' C) (hm : m' ≤ m) : xHH I hd mi m' v cs' C := fun i e n L' cs1 cu' su' vals h1 h2 => h i e n L' cs1 cu' su' vals h1 (Nat.le_trans h2 hm)
theorem xRS_nil {t : List Value} (h : xRS ρ [] t) : t = [] := by
  match t, h with
  | [], _ => rfl
theorem xRS_len : ∀ {s : xS} {t : List Value}, xRS ρ s t → s.length = t.length
  | [], [], _ => rfl
  | _ :: _, _ :: _, h => congrArg (· + 1) (xRS_len h.2)
theorem xRS_app : ∀ {s : xS} {t : List Value} {s2 : xS} {t2 : List Value}, xRS ρ s t → xRS ρ s2 t2 → xRS ρ (s ++ s2) (t ++ t2)
  | [], [], _, _, _, h2 => h2
  | _ :: _, _ :: _, _, _, h, h2 => ⟨h.1, xRS_app h.2 h2⟩
theorem xRS_spl : ∀ {s1 s2 : xS} {t : List Value}, xRS ρ (s1 ++ s2) t → xRS ρ s1 (t.take s1.length) ∧ xRS ρ s2 (t.drop s1.length)
  | [], _, _, h => ⟨by simp only [List.length_nil, List.take_zero]; trivial, h⟩
  | _ :: _, _, _ :: _, h => ⟨⟨h.1, (xRS_spl h.2).1⟩, (xRS_spl h.2).2⟩
theorem xRS_rev : ∀ {s : xS} {t : List Value}, xRS ρ s t → xRS ρ s.reverse t.reverse
  | [], [], _ => trivial
  | _ :: _, _ :: _, h => by
    rw [List.reverse_cons, List.reverse_cons]
    exact xRS_app (xRS_rev h.2) ⟨h.1, trivial⟩
theorem xRS_nth : ∀ {s : xS} {t : List Value} {i : Nat} {q : xV}, xRS ρ s t → s[i]? = some q → ∃ u, t[i]? = some u ∧ xr ρ q u
  | [], _, _, _, _, h => by cases h
  | _ :: _, u :: _, 0, _, h, h2 => by
    cases h2
    exact ⟨u, rfl, h.1⟩
  | _ :: _, _ :: _, i + 1, _, h, h2 => by
    simp only [List.getElem?_cons_succ] at h2 ⊢
    exact xRS_nth h.2 h2
theorem x_spl_ok {kk : xS → xS → Bool} : ∀ {n : Nat} {st acc : xS}, x_spl n st acc kk = true → ∃ s1 rest, st = s1 ++ rest ∧ s1.length = n ∧ kk (s1.reverse ++ acc) rest = true
  | 0, st, acc, h => ⟨[], st, rfl, rfl, h⟩
  | n + 1, [], acc, h => by cases h
  | n + 1, w :: st, acc, h => by
    have h : x_spl n st (w :: acc) kk = true := h
    obtain ⟨s1, rest, h1, h2, h3⟩ := x_spl_ok h
    refine ⟨w :: s1, rest, by rw [h1]; rfl, by rw [List.length_cons, h2], ?_⟩
    rw [List.reverse_cons, List.append_assoc]
    exact h3
theorem x_tgs_ok : ∀ {ts : List Nat} {args : xS} {us : List Value}, x_tgs ts args = true → xRS ρ args us → xTs ts us
  | [], [], [], _, _ => trivial
  | [], _ :: _, _, h, _ => by cases h
  | _ :: _, [], _, h, _ => by cases h
  | τ :: ts, w :: args, u :: us, h, hS => by
    have h : (match Nat.beq τ w.1 with
      | true => x_tgs ts args
      | false => match Nat.beq τ 0 with
        | true => match Nat.ble 2 w.1 with
          | true => x_tgs ts args
          | false => false
        | false => false) = true := h
    split at h
    · rename_i h1
      have e := Nat.eq_of_beq_eq_true h1
      refine ⟨?_, x_tgs_ok h hS.2⟩
      rw [e]
      exact hS.1.2
    · obtain ⟨h2, h⟩ := t_bool h
      obtain ⟨h3, h⟩ := t_bool h
      have e := Nat.eq_of_beq_eq_true h2
      have h3 := Nat.le_of_ble_eq_true h3
      refine ⟨?_, x_tgs_ok h hS.2⟩
      rw [e]
      exact xtB_0 hS.1.2 (by omega)
theorem x_ops_ok : ∀ {args : xS} {us : List Value}, xRS ρ args us → us.map fv = xes ρ (x_ops args)
  | [], [], _ => rfl
  | w :: args, u :: us, h => by
    show fv u :: us.map fv = xe ρ w.2 :: xes ρ (x_ops args)
    rw [xe_of h.1.1, x_ops_ok h.2]
theorem xRL_c {w : xV} {u : Value} (h1 : xr ρ w u) (h : xRL ρ A L) : xRL ρ (some w :: A) (some u :: L) := ⟨by rw [List.length_cons, List.length_cons, h.1], fun i x hi => by
  match i with
  | 0 =>
    have e : some u = some x := hi
    cases e
    exact ⟨some w, rfl, fun q' hq => by cases hq; exact h1⟩
  | i + 1 => exact h.2 i x hi⟩
theorem xRL_n (h : xRL ρ A L) : xRL ρ (none :: A) (none :: L) := ⟨by rw [List.length_cons, List.length_cons, h.1], fun i x hi => by
  match i with
  | 0 => cases hi
  | i + 1 => exact h.2 i x hi⟩
theorem xRL_rep : ∀ n : Nat, xRL ρ (List.replicate n none) (List.replicate n none)
  | 0 => ⟨rfl, fun i u h => by cases h⟩
  | n + 1 => by
    rw [List.replicate_succ, List.replicate_succ]
    exact xRL_n (xRL_rep n)
theorem zz_ent_c (n : Nat) (u : Value) (us : List Value) : zz_ent n (u :: us) = if u.category = 2 then some u :: none :: zz_ent (n - 1 - 1) us else some u :: zz_ent (n - 1) us := by
  unfold zz_ent
  show (if u.category = 2 then some u :: none :: zz_en us else some u :: zz_en us) ++ _ = _
  have e : zz_en (u :: us) = if u.category = 2 then some u :: none :: zz_en us else some u :: zz_en us := rfl
  rw [e]
  split
  · rw [List.cons_append, List.cons_append, List.length_cons, List.length_cons, show n - ((zz_en us).length + 1 + 1) = n - 1 - 1 - (zz_en us).length by omega]
  · rw [List.cons_append, List.length_cons, show n - ((zz_en us).length + 1) = n - 1 - (zz_en us).length by omega]
theorem x_ent_c (n : Nat) (w : xV) (args : xS) : x_ent (w :: args) n = match w.1 with
  | 1 => some w :: none :: x_ent args (n - 1 - 1)
  | _ => some w :: x_ent args (n - 1) := rfl
theorem x_rep : ∀ n : Nat, x_ent [] n = List.replicate n none
  | 0 => rfl
  | n + 1 => by
    rw [List.replicate_succ, ← x_rep n]
    rfl
theorem x_ent_ok : ∀ {args : xS} {us : List Value} (n : Nat), xRS ρ args us → xRL ρ (x_ent args n) (zz_ent n us)
  | [], [], n, _ => by
    rw [x_rep]
    exact xRL_rep n
  | w :: args, u :: us, n, h => by
    rw [x_ent_c, zz_ent_c]
    split
    · rename_i hw
      have hc := h.1.2
      rw [hw] at hc
      rw [if_pos (show u.category = 2 from hc)]
      exact xRL_c h.1 (xRL_n (x_ent_ok _ h.2))
    · rename_i hw
      have hc := xtB_0 h.1.2 hw
      rw [if_neg (by rw [show u.category = 1 from hc]; decide)]
      exact xRL_c h.1 (x_ent_ok _ h.2)
theorem x_live_ok : ∀ {lv : List (Nat × Nat)} {as : List xO}, x_live A lv as = true → xRL ρ A L → xLV lv (xes ρ as) L
  | [], [], _, _ => trivial
  | [], _ :: _, h, _ => by cases h
  | _ :: _, [], h, _ => by cases h
  | e :: lv, o :: as, h, hA => by
    have h : (match t_nth A e.1 with
      | some (some (τ, o')) => match t_and (xob o' o) (match Nat.beq τ e.2 with
        | true => true
        | false => t_and (Nat.beq e.2 0) (Nat.ble 2 τ)) with
        | true => x_live A lv as
        | false => false
      | _ => false) = true := h
    rw [t_nth_eq] at h
    split at h
    · rename_i τ o' hq
      obtain ⟨h1, h2⟩ := t_bool h
      rw [t_and_iff] at h1
      refine ⟨fun u hu => ?_, x_live_ok h2 hA⟩
      obtain ⟨y, h3, h4⟩ := hA.2 e.1 u hu
      rw [hq] at h3
      cases h3
      have h5 := h4 (τ, o') rfl
      refine ⟨?_, ?_⟩
      · rw [← xob_ok h1.1]
        exact (xe_of h5.1).symm
      · have h6 := h1.2
        split at h6
        · rename_i hb
          rw [← Nat.eq_of_beq_eq_true hb]
          exact h5.2
        · rw [t_and_iff] at h6
          rw [Nat.eq_of_beq_eq_true h6.1]
          have := Nat.le_of_ble_eq_true h6.2
          exact xtB_0 h5.2 (by omega)
    · cases h
theorem x_jmp_ok (h : x_jmp hd mi pc A st T = true) (hA : xRL ρ A L) (hS : xRS ρ st t) (hF : fFX cs) (hev : zz_ev m mi (pc, L, t, cs, cu, su) = some (v, cs')) (hD : xd I Q T 0 ρ (fh cs)) (hH : xHH I hd mi m v cs' C) : C := by
  unfold x_jmp at h
  split at h
  · have ht := xRS_nil hS
    subst ht
    split at h
    · rename_i as i z T'
      rw [t_nth_eq] at h
      split at h
      · rename_i p lv hi
        simp only [t_and_iff] at h
        obtain ⟨h1, h2, h3⟩ := h
        have e1 := Nat.eq_of_beq_eq_true h1
        have e2 := Nat.eq_of_beq_eq_true h2
        rw [t_len_eq] at e2
        subst e1
        have hD : I i (xes ρ as) (fh cs) := hD
        exact hH i (p, lv) m L cs cu su (xes ρ as) hi (Nat.le_refl _) hev hF (by rw [← hA.1]; exact e2) (x_live_ok h3 hA) hD
      · cases h
    · cases h
  · cases h
theorem x_cal_ok {ih : xH} (hO : xOK ih) (h : x_cal ih hd mi k pc A st lvl T K = true) (ho : f_okM mi = true) (hl : ρ.length = lvl) (hA : xRL ρ A L) (hS : xRS ρ st t) (hF : fFX cs) (hk : zz_mts[k]? = some mj) {w : Option Value} {cs1 : zz_W} {cu' su' m0 : Nat} (h1 : zz_ev m0 mj (0, zz_ent mj.2.2.1 (t.take (zz_cn mj)).reverse, [], cs, 0, 0) = some (w, cs1)) (h2 : zz_ev m0 mi (pc + 3, L, w.toList ++ t.drop (zz_cn mj), cs1, cu', su') = some (v, cs')) (hD : xd I Q T 0 ρ (fh cs)) (hK : xKH I Q ρ cs' v K C) (hH : xHH I hd mi m0 v cs' C) : C := by
  unfold x_cal at h
  rw [t_nth_eq, hk] at h
  dsimp only at h
  split at h
  · cases h
  · rename_i hok
    have hom := f_okm hk hok
    obtain ⟨s1, rest, rfl, hn, h⟩ := x_spl_ok h
    rw [List.append_nil] at h
    obtain ⟨hS1, hS2⟩ := xRS_spl hS
    rw [hn] at hS1 hS2
    have hSa := xRS_rev hS1
    match T, h, hD with
    | [], h, _ => cases h
    | (n1, as, n3, n4) :: T', h, hD =>
      dsimp only at h
      split at h
      · rename_i hnd
        rw [t_and_iff] at hnd
        have e1 : n1 = 13 := Nat.eq_of_beq_eq_true hnd.1
        have e2 : n3 = k := Nat.eq_of_beq_eq_true hnd.2
        subst e1
        subst e2
        rw [t_nth_eq] at h
        split at h
        · cases h
        · rename_i ts hts
          obtain ⟨h3, h9⟩ := t_bool h
          rw [t_and_iff] at h3
          have e3 : as = x_ops s1.reverse := xobs_ok h3.2
          subst e3
          rw [t_fn_eq, t_fn_eq] at h9
          have hD : ∀ (v : Int) (h' : fH), fS n3 (xes ρ (x_ops s1.reverse)) (fh cs) v h' → xd I Q T' 0 (ρ ++ [v]) h' := hD
          have hD2 := hD (fvo w) (fh cs1) ⟨mj, m0, (t.take (zz_cn mj)).reverse, cs, w, cs1, hk, hok, hF, h1, by rw [hts]; exact x_tgs_ok h3.1 hSa, x_ops_ok hSa, rfl, rfl, rfl⟩
          have hF1 := fx_ev m0 mj _ _ _ cs _ _ w cs1 hom hF h1
          have hr := f_ret_ev m0 mj _ w cs1 h1
          have hl2 : (ρ ++ [fvo w]).length = lvl + 1 := by rw [List.length_append, hl]; rfl
          split at h9
          · rename_i hrt
            rw [hrt] at hr
            have hr : w = none := hr
            subst hr
            exact hO hd mi _ A rest _ T' K h9 ho _ L _ cs1 cu' su' m0 v cs' I Q C hl2 (xRL_ext hA) (xRS_ext hS2) hF1 h2 hD2 hK.ext hH
          · rename_i τ hrt
            have hw : ∃ u, w = some u ∧ xtB τ u := by
              rw [hrt] at hr
              unfold f_rtg at hrt
              split at hrt
              · cases hrt
              · cases hrt
                exact hr
              · cases hrt
                exact hr
            obtain ⟨u, rfl, hu⟩ := hw
            exact hO hd mi _ A _ _ T' K h9 ho _ L (u :: t.drop (zz_cn mj)) cs1 cu' su' m0 v cs' I Q C hl2 (xRL_ext hA) ⟨⟨by rw [← hl]; exact xl_new _, hu⟩, xRS_ext hS2⟩ hF1 h2 hD2 hK.ext hH
      · refine hO [] mj 0 _ [] lvl _ _ h hom ρ _ [] cs 0 0 m0 w cs1 I Q C hl (x_ent_ok _ hSa) trivial hF h1 hD ?_ (fun i e m' L' cs1 cu' su' vals q => by cases q)
        intro a ρ3 T2 h3 h4 h5 h6
        dsimp only at h3
        rw [t_fn_eq] at h3
        refine hO hd mi _ A _ _ T2 K h3 ho _ L _ cs1 cu' su' m0 v cs' I Q C rfl (xRL_ext hA) ?_ h5 h2 h6 hK.ext hH
        match a, h4 with
        | none, h4 =>
          have h4 : w = none := h4
          subst h4
          exact xRS_ext hS2
        | some q, ⟨u, h4, h7⟩ =>
          subst h4
          exact ⟨h7, xRS_ext hS2⟩
def f_kB : Bool := (List.range 6).all (fun c => (match f_ct[5 + c]? with
  | some (a, ci, _) => Nat.beq a 2 && Nat.beq ci (1 + c)
  | none => false) && (List.range 298).all (fun i => match f_ct[i]? with
  | some (a, ci, _) => !(Nat.beq a 2 && Nat.beq ci (1 + c)) || Nat.beq i (5 + c)
  | none => true))
set_option maxRecDepth 1000000 in
theorem f_c4 : f_kB = true := by decide +kernel
theorem f_kin {i ci n c : Nat} (hi : f_ct[i]? = some (2, ci, n)) (h1 : 1 ≤ c) (h6 : c ≤ 6) : ci = c ↔ i = 4 + c := by
  have h := List.all_eq_true.mp f_c4 (c - 1) (List.mem_range.mpr (by omega))
  rw [Bool.and_eq_true] at h
  have e : 5 + (c - 1) = 4 + c := by omega
  have e2 : 1 + (c - 1) = c := by omega
  rw [e, e2] at h
  constructor
  · rintro rfl
    have h3 := List.all_eq_true.mp h.2 i (f_lt hi)
    rw [hi] at h3
    simp only [Nat.beq_refl, Bool.and_self, Bool.not_true, Bool.false_or] at h3
    exact Nat.eq_of_beq_eq_true h3
  · rintro rfl
    have h3 := h.1
    rw [hi] at h3
    simp only [Bool.and_eq_true] at h3
    exact Nat.eq_of_beq_eq_true h3.2
theorem x_pol_ok {ih : Nat → xT → Bool} {o : xO} {i ci n' k' w : Nat} (hi : f_ct[i]? = some (2, ci, n')) (ho : xl ρ o (i : Int)) {h : fH} : ∀ {n : Nat} {alts : List Nat} {T : xT}, x_pol ih o alts n T = true → zz_alt ci alts = some (k', w) → xd I Q T 0 ρ h → ∃ T', ih k' T' = true ∧ xd I Q T' 0 ρ h
  | 0, _, _, hh, _, _ => by cases hh
  | n + 1, [], T, hh, ha, _ => by cases ha
  | n + 1, [_], T, hh, ha, _ => by cases ha
  | n + 1, [_, _], T, hh, ha, _ => by cases ha
  | n + 1, c :: k :: w' :: r, T, hh, ha, hD => by
    have hh : (match t_and (Nat.ble 1 c) (Nat.ble c 6) with
      | true => x_if .eq o (.inr (Int.ofNat (Nat.add 4 c))) T (ih k) (x_pol ih o r n)
      | false => false) = true := hh
    obtain ⟨h1, h2⟩ := t_bool hh
    rw [t_and_iff] at h1
    have hk := f_kin hi (Nat.le_of_ble_eq_true h1.1) (Nat.le_of_ble_eq_true h1.2)
    obtain ⟨h3, h4⟩ := x_if_ok h2 ho (show xl ρ (.inr (Int.ofNat (Nat.add 4 c))) (Int.ofNat (Nat.add 4 c)) from rfl) hD
    unfold zz_alt at ha
    split at ha
    · rename_i hq
      cases ha
      have e := hk.mp (Nat.eq_of_beq_eq_true hq).symm
      exact h3 (by simp only [t_rel, decide_eq_true_eq]; rw [e]; rfl)
    · rename_i hq
      have hne : ¬ ci = c := fun e => by
        subst e
        rw [Nat.beq_refl] at hq
        cases hq
      obtain ⟨T', h5, h6⟩ := h4 (by
        simp only [t_rel, decide_eq_false_iff_not]
        intro e
        exact hne (hk.mpr (Int.ofNat.inj e)))
      exact x_pol_ok hi ho h5 ha h6
theorem x_inv_ok {ih : xH} (hO : xOK ih) {ins : Instr} {r : List Nat} (h : x_inv ih hd mi ins r pc A st lvl T K = true) (ho : f_okM mi = true) (hl : ρ.length = lvl) (hA : xRL ρ A L) (hS : xRS ρ st t) (hF : fFX cs) (hca : zz_ca ins r t cs = some mj) {w : Option Value} {cs1 : zz_W} {cu' su' m0 : Nat} (h1 : zz_ev m0 mj (0, zz_ent mj.2.2.1 (t.take (zz_cn mj)).reverse, [], cs, 0, 0) = some (w, cs1)) (h2 : zz_ev m0 mi (pc + 3, L, w.toList ++ t.drop (zz_cn mj), cs1, cu', su') = some (v, cs')) (hD : xd I Q T 0 ρ (fh cs)) (hK : xKH I Q ρ cs' v K C) (hH : xHH I hd mi m0 v cs' C) : C := by
  unfold x_inv at h
  split at h
  · split at h
    · exact x_cal_ok hO h ho hl hA hS hF hca h1 h2 hD hK hH
    · exact x_cal_ok hO h ho hl hA hS hF hca h1 h2 hD hK hH
    · cases h
  · split at h
    · simp only [zz_ca] at hca
      split at hca
      · rename_i hm
        split at hca
        · cases hca
          exact x_cal_ok hO h ho hl hA hS hF hm h1 h2 hD hK hH
        · cases hca
      · cases hca
    · simp only [zz_ca] at hca
      split at hca
      · rename_i hm
        split at hca
        · cases hca
          exact x_cal_ok hO h ho hl hA hS hF hm h1 h2 hD hK hH
        · cases hca
      · cases hca
    · cases h
  · split at h
    · simp only [zz_ca] at hca
      split at hca
      · rename_i hm
        split at hca
        · split at hca
          · cases hca
            exact x_cal_ok hO h ho hl hA hS hF hm h1 h2 hD hK hH
          · cases hca
        · cases hca
      · cases hca
    · simp only [zz_ca] at hca
      split at hca
      · rename_i hm
        split at hca
        · split at hca
          · cases hca
            exact x_cal_ok hO h ho hl hA hS hF hm h1 h2 hD hK hH
          · cases hca
        · cases hca
      · cases hca
    · rename_i k0 w1 w2 alts
      simp only [zz_ca] at hca
      rw [t_nth_eq] at h
      split at hca
      · rename_i mx hm
        rw [hm] at h
        dsimp only at h
        rw [t_nth_eq] at h
        split at hca
        · rename_i cj hrc
          split at hca
          · rename_i k' w' halt
            split at hca
            · rename_i mi' hm'
              split at hca
              · cases hca
                split at h
                · rename_i τ o hst
                  obtain ⟨u, hu1, hu2⟩ := xRS_nth hS hst
                  unfold zz_rc at hrc
                  rw [hu1] at hrc
                  split at hrc
                  · rename_i i heq
                    cases heq
                    split at hrc
                    · rename_i ci fs hc
                      cases hrc
                      obtain ⟨T', h5, h6⟩ := x_pol_ok (f_obj hF hc).1 hu2.1 h halt hD
                      exact x_cal_ok hO h5 ho hl hA hS hF hm' h1 h2 h6 hK hH
                    · cases hrc
                  · cases hrc
                · cases h
              · cases hca
            · cases hca
          · cases hca
        · cases hca
      · cases hca
    · cases h
  · cases h
theorem x_inv_no {ih : xH} {ins : Instr} {r : List Nat} {q : Nat × Nat × Nat × Nat} {p len : Nat} {v0 : Value} (h : x_inv ih hd mi ins r pc A st lvl T K = true) : zz_one q (p, ins, len, r, v0) (pc, L, t, cs, cu, su) = none ∧ ∀ ret : Option FieldType, zz_rt1 ins ret t = none := by
  unfold x_inv at h
  split at h
  · split at h
    · exact ⟨rfl, fun _ => rfl⟩
    · exact ⟨rfl, fun _ => rfl⟩
    · cases h
  · split at h
    · exact ⟨rfl, fun _ => rfl⟩
    · exact ⟨rfl, fun _ => rfl⟩
    · cases h
  · split at h
    · exact ⟨rfl, fun _ => rfl⟩
    · exact ⟨rfl, fun _ => rfl⟩
    · exact ⟨rfl, fun _ => rfl⟩
    · cases h
  · cases h
theorem x_body_ok {ih : xH} (hO : xOK ih) (h : x_body ih hd mi pc A st lvl T K = true) (ho : f_okM mi = true) (hl : ρ.length = lvl) (hA : xRL ρ A L) (hS : xRS ρ st t) (hF : fFX cs) (hev : zz_ev (m + 1) mi (pc, L, t, cs, cu, su) = some (v, cs')) (hD : xd I Q T 0 ρ (fh cs)) (hK : xKH I Q ρ cs' v K C) (hH : xHH I hd mi m v cs' C) : C := by
  obtain ⟨m0, e, hm, he, hcut⟩ := f_cut hev
  have e0 : m0 = m := by omega
  subst e0
  unfold x_body at h
  rw [t_fetch_eq, he] at h
  obtain ⟨p, ins, len, r, v0⟩ := e
  dsimp only at h hcut
  have hgo : ∀ σ', zz_ev m0 mi σ' = some (v, cs') → xNx (fun pc' A' st' l T' => ih hd mi pc' A' st' l T' K) I Q ρ cu su σ' → C := by
    rintro σ' h1 ⟨ρ2, pc', A', st', T', L', t', cs1, rfl, h2, h3, h4, h5, h6⟩
    exact hO hd mi pc' A' st' _ T' K h2 ho (ρ ++ ρ2) L' t' cs1 cu su m0 v cs' I Q C rfl h3 h4 h5 h1 h6 hK.ext hH
  have hinv : x_inv ih hd mi ins r pc A st lvl T K = true → C := by
    intro hi
    obtain ⟨g1, g2⟩ := x_inv_no (q := mi.2.2.2.2.2.2.1) (p := p) (len := len) (v0 := v0) (L := L) (t := t) (cs := cs) (cu := cu) (su := su) hi
    rcases hcut with ⟨σ', h1, -⟩ | ⟨-, h1, -⟩ | ⟨-, -, mj, w, cs1, h1, h2, h3⟩
    · rw [g1] at h1
      cases h1
    · rw [g2] at h1
      cases h1
    · exact x_inv_ok hO hi ho hl hA hS hF h1 h2 h3 hD hK hH
  split at h
  · split at h
    · rcases hcut with ⟨σ', h1, h2⟩ | ⟨-, h1, -⟩ | ⟨-, -, mj, w, cs1, h1, -⟩
      · exact hgo σ' h2 (x_na_ok h1 h hl hA hS hF hD)
      · cases h1
      · simp [zz_ca] at h1
    · exact hinv h
  · split at h
    · rename_i f hf
      rcases hcut with ⟨σ', h1, h2⟩ | ⟨-, h1, -⟩ | ⟨-, -, mj, w, cs1, h1, -⟩
      · exact hgo σ' h2 (x_op_ok hf h1 h hl hA hS hF hD)
      · rw [(x_op_nr (t := t) (cs := cs) (r := r) hf).1] at h1
        cases h1
      · rw [(x_op_nr (ret := none) hf).2] at h1
        cases h1
    · unfold x_ret at h
      split at h
      · split at h
        · rename_i q
          rcases hcut with ⟨σ', h1, h2⟩ | ⟨-, h1, h2⟩ | ⟨-, -, mj, w, cs1, h1, -⟩
          · cases h1
          · subst h2
            obtain ⟨u, t', rfl, hu, hS'⟩ := xRS_cons hS
            have e1 := xRS_nil hS'
            subst e1
            have hv : v = some u := by
              unfold zz_rt1 at h1
              dsimp only at h1
              split at h1
              · rename_i x heq
                cases heq
                split at h1
                · cases h1
                  rfl
                · split at h1
                  · cases h1
                    rfl
                  · cases h1
                · cases h1
              · cases h1
            exact hK (some q) [] T (by rw [List.append_nil, hl]; exact h) ⟨u, hv, by rw [List.append_nil]; exact hu⟩ hF (by rw [List.append_nil]; exact hD)
          · cases h1
        · cases h
      · split at h
        · rename_i q
          rcases hcut with ⟨σ', h1, h2⟩ | ⟨-, h1, h2⟩ | ⟨-, -, mj, w, cs1, h1, -⟩
          · cases h1
          · subst h2
            obtain ⟨u, t', rfl, hu, hS'⟩ := xRS_cons hS
            have e1 := xRS_nil hS'
            subst e1
            have hv : v = some u := by
              unfold zz_rt1 at h1
              dsimp only at h1
              split at h1
              · rename_i x heq
                cases heq
                split at h1
                · cases h1
                  rfl
                · cases h1
              · cases h1
            exact hK (some q) [] T (by rw [List.append_nil, hl]; exact h) ⟨u, hv, by rw [List.append_nil]; exact hu⟩ hF (by rw [List.append_nil]; exact hD)
          · cases h1
        · cases h
      · split at h
        · rcases hcut with ⟨σ', h1, h2⟩ | ⟨-, h1, h2⟩ | ⟨-, -, mj, w, cs1, h1, -⟩
          · cases h1
          · subst h2
            have e1 := xRS_nil hS
            subst e1
            have hv : v = none := by
              unfold zz_rt1 at h1
              dsimp only at h1
              split at h1
              · cases h1
                rfl
              · cases h1
            exact hK none [] T (by rw [List.append_nil, hl]; exact h) hv hF (by rw [List.append_nil]; exact hD)
          · cases h1
        · cases h
      · exact hinv h
theorem xc_ok : ∀ n : Nat, xOK (xc n)
  | 0 => fun hd mi pc A st lvl T K h => by cases h
  | n + 1 => fun hd mi pc A st lvl T K h ho ρ L t cs cu su m v cs' I Q C hl hA hS hF hev hD hK hH => by
    have h : (match x_hd hd pc with
      | true => x_jmp hd mi pc A st T
      | false => x_body (xc n) hd mi pc A st lvl T K) = true := h
    split at h
    · exact x_jmp_ok h hA hS hF hev hD hH
    · match m, hev, hH with
      | 0, hev, _ => cases hev
      | m + 1, hev, hH => exact x_body_ok (xc_ok n) h ho hl hA hS hF hev hD hK (hH.mono (Nat.le_succ m))
-- a method whole
theorem x_a0_ok : ∀ {ts : List Nat} {us : List Value} (pre : List Int), xTs ts us → xRS (pre ++ us.map fv) (List.rec (motive := fun _ => Nat → xS) (fun _ => []) (fun t _ ih i => t_fn i (fun i => (t, .inl i) :: ih (Nat.succ i))) ts pre.length) us
  | [], [], _, _ => trivial
  | τ :: ts, u :: us, pre, h => by
    show xRS (pre ++ (fv u :: us.map fv)) (t_fn pre.length (fun i => (τ, .inl i) :: _)) (u :: us)
    rw [t_fn_eq]
    refine ⟨⟨?_, h.1⟩, ?_⟩
    · show (pre ++ (fv u :: us.map fv))[pre.length]? = some (fv u)
      simp
    · have := x_a0_ok (ts := ts) (us := us) (pre ++ [fv u]) h.2
      rw [List.append_assoc, List.length_append] at this
      exact this
  | [], _ :: _, _, h => by cases h
  | _ :: _, [], _, h => by cases h
theorem xTs_len : ∀ {ts : List Nat} {us : List Value}, xTs ts us → ts.length = us.length
  | [], [], _ => rfl
  | _ :: _, _ :: _, h => congrArg (· + 1) (xTs_len h.2)
  | [], _ :: _, h => by cases h
  | _ :: _, [], h => by cases h
theorem x_A0_ok : ∀ {lv : List (Nat × Nat)} {vals : List Int} (pre : List Int) {A : xL}, xLV lv vals L → xRL (pre ++ vals) A L → xRL (pre ++ vals) (List.rec (motive := fun _ => Nat → xL → xL) (fun _ A => A) (fun q _ ih i A => t_fn i (fun i => ih (Nat.succ i) (A.set q.1 (some (q.2, .inl i))))) lv pre.length A) L
  | [], [], _, A, _, hA => hA
  | e :: lv, z :: vals, pre, A, h, hA => by
    show xRL _ (t_fn pre.length (fun i => List.rec (motive := fun _ => Nat → xL → xL) (fun _ A => A) (fun q _ ih i A => t_fn i (fun i => ih (Nat.succ i) (A.set q.1 (some (q.2, .inl i))))) lv (Nat.succ i) (A.set e.1 (some (e.2, .inl i))))) L
    rw [t_fn_eq]
    have h2 : xRL ((pre ++ [z]) ++ vals) (A.set e.1 (some (e.2, .inl pre.length))) L := by
      rw [List.append_assoc]
      refine ⟨by rw [List.length_set]; exact hA.1, fun i u hi => ?_⟩
      by_cases hq : i = e.1
      · subst hq
        obtain ⟨y, h3, h4⟩ := hA.2 e.1 u hi
        refine ⟨some (e.2, .inl pre.length), ?_, fun q' hq => ?_⟩
        · rw [List.getElem?_set, if_pos rfl, if_pos (List.getElem?_eq_some_iff.mp h3).1]
        · cases hq
          obtain ⟨g1, g2⟩ := h.1 u hi
          refine ⟨?_, g2⟩
          show (pre ++ ([z] ++ vals))[pre.length]? = some (fv u)
          rw [g1]
          simp
      · obtain ⟨y, h3, h4⟩ := hA.2 i u hi
        refine ⟨y, ?_, h4⟩
        rw [List.getElem?_set, if_neg (fun e2 => hq e2.symm)]
        exact h3
    have h5 := x_A0_ok (lv := lv) (vals := vals) (pre ++ [z]) h.2 h2
    rw [List.length_append, List.append_assoc] at h5
    exact h5
  | [], _ :: _, _, _, h, _ => by cases h
  | _ :: _, [], _, _, h, _ => by cases h
theorem xLV_len : ∀ {lv : List (Nat × Nat)} {vals : List Int} {L : List (Option Value)}, xLV lv vals L → lv.length = vals.length
  | [], [], _, _ => rfl
  | _ :: _, _ :: _, _, h => congrArg (· + 1) (xLV_len h.2)
  | [], _ :: _, _, h => by cases h
  | _ :: _, [], _, h => by cases h
theorem xRL_dead (ρ : List Int) (L : List (Option Value)) : xRL ρ (List.replicate L.length none) L := ⟨List.length_replicate, fun i u h => by
  refine ⟨none, ?_, fun q' hq => by cases hq⟩
  unfold zz_ld at h
  split at h
  · rename_i hq
    rw [List.getElem?_replicate, if_pos (List.getElem?_eq_some_iff.mp hq).1]
  · cases h⟩
theorem zz_ent_len (n : Nat) (us : List Value) : True := trivial
/-- a method's runs, by its trees and what holds at the heads of its loops -/
theorem x_met {j : Nat} {hd : xHd} {T : xT} {Ts : List xT} {n : Nat} (hc : x_chk j hd T Ts n = true) {as : List Int} {h h' : fH} {z : Int} (hs : fS j as h z h') (I : Nat → List Int → fH → Prop) (Q : Int → fH → Prop) (h0 : xd I Q T 0 as h) (hI : ∀ i Ti, Ts[i]? = some Ti → ∀ vals h, I i vals h → xd I Q Ti 0 vals h) : Q z h' := by
  obtain ⟨mi, n0, us, cs, w, cs', hm, hok, hF, hev, hts, rfl, rfl, rfl, rfl⟩ := hs
  unfold x_chk at hc
  rw [t_nth_eq, hm] at hc
  dsimp only at hc
  rw [t_nth_eq] at hc
  split at hc
  · cases hc
  · rename_i ts hft
    rw [hft] at hts
    have hts : xTs ts us := hts
    simp only [t_and_iff, t_all_iff] at hc
    obtain ⟨⟨-, c1⟩, c2, c3⟩ := hc
    have c1 := Nat.eq_of_beq_eq_true c1
    rw [t_len_eq, t_len_eq] at c1
    have hom := f_okm hm hok
    have hKH : ∀ ρ : List Int, xKH I Q ρ cs' w x_K0 (Q (fvo w) (fh cs')) := by
      intro ρ a ρ2 T' k1 k2 k3 k4
      unfold x_K0 at k1
      split at k1
      · rename_i b z1 z2 T2
        have k4 : Q (xe (ρ ++ ρ2) b) (fh cs') := k4
        split at k1
        · rename_i τ o
          obtain ⟨u, rfl, hu⟩ := k2
          rw [← xob_ok k1, xe_of hu.1] at k4
          exact k4
        · have k2 : w = none := k2
          subst k2
          rw [← xob_ok k1] at k4
          exact k4
      · cases k1
    have hHH : ∀ m : Nat, xHH I hd mi m w cs' (Q (fvo w) (fh cs')) := by
      intro m
      induction m using Nat.strongRecOn with
      | _ m ihm =>
        intro i e m' L' cs1 cu' su' vals g1 g2 g3 g4 g5 g6 g7
        match m', g2, g3 with
        | 0, _, g3 => cases g3
        | m' + 1, g2, g3 =>
          have hi : i < Ts.length := by rw [← c1]; exact (List.getElem?_eq_some_iff.mp g1).1
          have hz : (hd.zip Ts)[i]? = some (e, Ts[i]) := by
            rw [List.getElem?_zip_eq_some]
            exact ⟨g1, List.getElem?_eq_getElem hi⟩
          have c4 := c3 _ (List.mem_of_getElem? hz)
          dsimp only at c4
          refine x_body_ok (xc_ok n) c4 hom (ρ := vals) ?_ ?_ (show xRS vals [] [] from trivial) g4 g3 (hI i _ (List.getElem?_eq_getElem hi) vals _ g7) (hKH vals) (ihm m' (by omega))
          · rw [t_len_eq, xLV_len g6]
          · unfold x_A0
            have := x_A0_ok (L := L') [] g6 (xRL_dead _ L')
            rw [g5] at this
            exact this
    refine xc_ok n hd mi 0 _ [] _ T x_K0 c2 hom (us.map fv) _ [] cs 0 0 n0 w cs' I Q _ ?_ ?_ trivial hF hev h0 (hKH _) (hHH n0)
    · rw [t_len_eq, xTs_len hts, List.length_map]
    · exact x_ent_ok _ (x_a0_ok [] hts)
end XS4
