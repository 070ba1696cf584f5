/-! the typed machine is sound: what a contract says, what is known behind a call by contract -/
def t_a1 (tm : ta) (u : Value) : Prop := match tm with
  | .inl (_, a, b) => ∃ v : Int32, u = .int v ∧ a ≤ v.toInt ∧ v.toInt ≤ b
  | .inr (.inl (_, a, b)) => ∃ v : Int64, u = .long v ∧ a ≤ v.toInt ∧ v.toInt ≤ b
  | .inr (.inr (.inl r)) => ∃ i, u = .ref i ∧ t_rl[i]? = some r
  | .inr (.inr (.inr _)) => False
def t_inA : List ta → List Value → Prop
  | [], [] => True
  | tm :: ts, u :: us => t_a1 tm u ∧ t_inA ts us
  | [], _ :: _ => False
  | _ :: _, [] => False
def t_num (u : Value) : List Int := match u with
  | .int v => [v.toInt]
  | .long v => [v.toInt]
  | _ => []
def t_nums : List Value → List Int
  | [] => []
  | u :: us => t_num u ++ t_nums us
def t_pv (cs : zz_W) (key : Nat) : Int := match t_sv cs (key / 1024) (key % 1024) with
  | some (.int x) => x.toInt
  | _ => 0
def t_pvs (cs : zz_W) (pre : List (Nat × Int × Int)) : List Int := pre.map (fun p => t_pv cs p.1)
def t_inP (cs : zz_W) (pre : List (Nat × Int × Int)) : Prop := ∀ p ∈ pre, t_sngl (p.1 / 1024) ∧ ∃ x : Int32, t_sv cs (p.1 / 1024) (p.1 % 1024) = some (.int x) ∧ p.2.1 ≤ x.toInt ∧ x.toInt ≤ p.2.2
def t_r0 (c : tCon) (us : List Value) (cs : zz_W) : List Int := t_nums us ++ t_pvs cs c.2.2.1
def t_vo (ρ : List Int) (a : Option ta) (v : Option Value) : Prop := match a with
  | none => v = none
  | some a => ∃ u, v = some u ∧ tgv ρ a u
def t_Pst (c : tCon) (ρ : List Int) (cs : zz_W) (v : Option Value) (cs' : zz_W) : Prop := t_ty cs' ∧ t_frm c.2.2.2.2.1 cs cs' ∧ (∃ a ∈ c.2.2.2.2.2.1, t_vo ρ a.1 v ∧ t_fac ρ a.2 cs') ∧ t_tks c.2.2.2.2.2.2 cs'
def t_Con (c : tCon) : Prop := t_wf c = true ∧ ∀ mi, zz_mts[c.1]? = some mi → ∀ (us : List Value) (cs : zz_W), t_ty cs → t_inA c.2.1 us → t_inP cs c.2.2.1 → t_tks c.2.2.2.1 cs → tr_run mi (0, zz_ent mi.2.2.1 us, [], cs, 0, 0) (t_Pst c (t_r0 c us cs) cs)
def t_GG (ρ : List Int) (G : List tT) (ρ1 : List Int) : Prop := G.length = ρ1.length ∧ ∀ (i : Nat) (y : tT), G[i]? = some y → ∃ z, ρ1[i]? = some z ∧ tg ρ y z
section TS8
variable {ρ : List Int} {rs : tB} {F : tF} {tk : List Nat} {cs cs' : zz_W} {A : tL} {L : List (Option Value)} {st : List ta} {t : List Value} {mi mj : zz_Mi} {Mw pc : Nat} {P : Option Value → zz_W → Prop}
theorem t_sg_ok {key : Nat} (h : t_sg key = true) : t_sngl (key / 1024) := by
  unfold t_sg at h
  rw [t_nth_eq] at h
  split at h
  · rename_i r hr
    rw [t_nth_eq] at h
    split at h
    · rename_i c o b T hro
      subst h
      have hc : key / 1024 = c := t_sgl_ok hr hro
      exact ⟨r, b, T, hr, by rw [hc]; exact hro⟩
    · cases h
  · cases h
theorem t_ars_ok {i : Nat} (h : t_ars i = true) (hT : t_ty cs) : t_sngl i ∧ ∃ xs, zz_cell cs i = some (.inl xs) := by
  unfold t_ars at h
  rw [t_nth_eq] at h
  split at h
  · rename_i r hr
    rw [t_nth_eq] at h
    split at h
    · rename_i c o b q hro
      subst h
      have hc : i = c := t_sgl_ok hr hro
      obtain ⟨d, hd, hce⟩ := t_ref_ok hT hr hro
      obtain ⟨n, lo, hi⟩ := q
      match d, hd, hce with
      | .inl xs, hd, _ => exact ⟨⟨r, b, _, hr, by rw [hc]; exact hro⟩, xs, hd⟩
    · cases h
  · cases h
theorem t_pv_of {key : Nat} {x : Int32} (h : t_sv cs (key / 1024) (key % 1024) = some (.int x)) : t_pv cs key = x.toInt := by
  unfold t_pv
  rw [h]
theorem t_lf_ok {tm v : ta} {u : Value} (h : t_lf rs tm v = true) (hr : t_okr ρ rs) (hg : tgv ρ v u) : tgv ρ tm u := by
  unfold t_lf at h
  split at h
  · rename_i j a b
    split at h
    · rename_i x
      obtain ⟨z, rfl, hz⟩ := hg
      refine ⟨z, rfl, ?_⟩
      cases j with
      | zero =>
        obtain ⟨h1, h2⟩ := t_wi_ok h hr hz
        exact tg_c h1 h2
      | succ j =>
        dsimp only at h
        simp only [t_and_iff, t_le_iff] at h
        obtain ⟨h1, h2, h3⟩ := h
        have h1 := Nat.eq_of_beq_eq_true h1
        obtain ⟨y, q1, q2, q3⟩ := hz
        rw [h1] at q1
        exact ⟨y, q1, by dsimp only; omega, by dsimp only; omega⟩
    · cases h
  · rename_i j a b
    split at h
    · rename_i x
      obtain ⟨z, rfl, hz⟩ := hg
      refine ⟨z, rfl, ?_⟩
      cases j with
      | zero =>
        obtain ⟨h1, h2⟩ := t_wi_ok h hr hz
        exact tg_c h1 h2
      | succ j =>
        dsimp only at h
        simp only [t_and_iff, t_le_iff] at h
        obtain ⟨h1, h2, h3⟩ := h
        have h1 := Nat.eq_of_beq_eq_true h1
        obtain ⟨y, q1, q2, q3⟩ := hz
        rw [h1] at q1
        exact ⟨y, q1, by dsimp only; omega, by dsimp only; omega⟩
    · cases h
  · rename_i r
    split at h
    · rename_i r'
      rw [← Nat.eq_of_beq_eq_true h]
      exact hg
    · cases h
  · have hc := t_cat_of hg
    cases hv : t_isL v with
    | true => rw [hv] at h; cases h
    | false =>
      rw [hv] at hc
      exact hc
theorem t_sbn {ρ0 : List Int} {tm : ta} {u : Value} (hx : t_ext ρ0 ρ) (hn : t_nmk ρ0.length tm = true) (hg : tgv ρ tm u) : tgv ρ0 tm u := by
  have one : ∀ {x : tT} {z : Int}, Nat.ble x.1 ρ0.length = true → tg ρ x z → tg ρ0 x z := by
    intro x z hb hz
    have hb := Nat.le_of_ble_eq_true hb
    obtain ⟨y, q1, q2⟩ := hz
    obtain ⟨e, rfl⟩ := hx
    obtain ⟨j, a, b⟩ := x
    refine ⟨y, ?_, q2⟩
    cases j with
    | zero => exact q1
    | succ j =>
      dsimp only at hb
      have q1 : (ρ0 ++ e)[j]? = some y := q1
      rw [List.getElem?_append_left (by omega)] at q1
      exact q1
  match tm, hn, hg with
  | .inl (j, a, b), hn, ⟨v, h1, h2⟩ => exact ⟨v, h1, one (x := (j, a, b)) hn h2⟩
  | .inr (.inl (j, a, b)), hn, ⟨v, h1, h2⟩ => exact ⟨v, h1, one (x := (j, a, b)) hn h2⟩
  | .inr (.inr (.inl r)), _, hg => exact hg
  | .inr (.inr (.inr _)), _, hg => exact hg
theorem t_kty_ok {key : Nat} {lo hi : Int} (h : t_kty tk key = some (lo, hi)) (hT : t_ty cs) (hk : t_tks tk cs) : ∃ x : Int32, t_sv cs (key / 1024) (key % 1024) = some (.int x) ∧ lo ≤ x.toInt ∧ x.toInt ≤ hi := by
  unfold t_kty at h
  split at h
  · rename_i hm
    rw [t_mem_iff] at hm
    rw [t_nth_eq] at h
    obtain ⟨-, -, hv⟩ := hk _ hm
    exact hv _ _ _ h
  · rw [t_nth_eq] at h
    split at h
    · rename_i ro hr
      rw [t_nth_eq] at h
      split at h
      · rename_i c o b n lo' hi' hro
        split at h
        · rename_i hb
          rw [t_and_iff] at hb
          cases h
          have hlt : key % 1024 < n := by
            have := hb.2
            exact Nat.le_of_ble_eq_true this
          obtain ⟨d, hd, hce⟩ := t_ref_ok hT hr hro
          match d, hd, hce with
          | .inl xs, hd, ⟨e1, e2⟩ =>
            have hl : key % 1024 < xs.length := by rw [e1]; exact hlt
            refine ⟨xs[key % 1024], ?_, e2 _ (List.getElem_mem hl)⟩
            unfold t_sv
            rw [show key / 1024 = Nat.div key 1024 from rfl, hd]
            dsimp only
            rw [List.getElem?_eq_getElem hl]
            rfl
        · cases h
      · rename_i c o b ci fts hro
        split at h
        · rename_i hb
          rw [t_nth_eq] at h
          split at h
          · rename_i lo' hi' hft
            cases h
            obtain ⟨d, hd, hce⟩ := t_ref_ok hT hr hro
            match d, hd, hce with
            | .inr (.inr (cj, fs)), hd, ⟨e1, e2, e3⟩ =>
              obtain ⟨v, hv, hs⟩ := e3 _ _ hft
              obtain ⟨x, rfl, hx⟩ := hs
              refine ⟨x, ?_, hx⟩
              unfold t_sv
              rw [show key / 1024 = Nat.div key 1024 from rfl, hd]
              exact hv
          · cases h
        · cases h
      · cases h
    · cases h
theorem t_fv_ok {key : Nat} {x : tT} (h : t_fv F tk key = .inl x) (hst : t_stt ρ rs F tk cs) : ∃ v : Int32, t_sv cs (key / 1024) (key % 1024) = some (.int v) ∧ tg ρ x v.toInt := by
  unfold t_fv at h
  split at h
  · rename_i v hv
    obtain ⟨-, u, h2, h3⟩ := hst.2.1 _ (t_fget_ok hv)
    dsimp only at h2 h3
    rw [h] at h3
    obtain ⟨z, rfl, hz⟩ := h3
    exact ⟨z, h2, hz⟩
  · split at h
    · rename_i lo hi hty
      cases h
      obtain ⟨z, h1, h2, h3⟩ := t_kty_ok hty hst.2.2.2 hst.2.2.1
      exact ⟨z, h1, tg_c h2 h3⟩
    · cases h
theorem t_lfv_ok {e : Nat × ta} (hi : t_isI e.2 = true) (hs : t_sngl (e.1 / 1024)) (h : t_lf rs e.2 (t_fv F tk e.1) = true) (hst : t_stt ρ rs F tk cs) : t_sngl (e.1 / 1024) ∧ ∃ u, t_sv cs (e.1 / 1024) (e.1 % 1024) = some u ∧ tgv ρ e.2 u := by
  obtain ⟨key, v⟩ := e
  match v, hi, h with
  | .inl x, _, h =>
    dsimp only at h
    cases hv : t_fv F tk key with
    | inl y =>
      obtain ⟨z, h1, h2⟩ := t_fv_ok hv hst
      rw [hv] at h
      exact ⟨hs, _, h1, t_lf_ok h hst.1 (u := .int z) ⟨z, rfl, h2⟩⟩
    | inr y =>
      rw [hv] at h
      cases h
theorem t_GG.ext {ρ' ρ1 : List Int} {G : List tT} (h : t_GG ρ G ρ1) (hx : t_ext ρ ρ') : t_GG ρ' G ρ1 := ⟨h.1, fun i y hy => by
  obtain ⟨z, h1, h2⟩ := h.2 i y hy
  exact ⟨z, h1, h2.ext hx⟩⟩
theorem t_GG.app {ρ1 : List Int} {G : List tT} {x : tT} {z : Int} (h : t_GG ρ G ρ1) (hx : tg ρ x z) : t_GG ρ (G ++ [x]) (ρ1 ++ [z]) := by
  refine ⟨by simp [h.1], fun i y hy => ?_⟩
  by_cases hl : i < G.length
  · rw [List.getElem?_append_left hl] at hy
    obtain ⟨w, h1, h2⟩ := h.2 i y hy
    exact ⟨w, by rw [List.getElem?_append_left (by rw [← h.1]; exact hl)]; exact h1, h2⟩
  · rw [List.getElem?_append_right (by omega)] at hy
    have hi : i - G.length = 0 := by
      cases hq : i - G.length with
      | zero => rfl
      | succ n => rw [hq] at hy; simp at hy
    rw [hi] at hy
    cases hy
    refine ⟨z, ?_, hx⟩
    rw [List.getElem?_append_right (by rw [← h.1]; omega), ← h.1, hi]
    rfl
theorem t_GG.cons {ρ1 : List Int} {G : List tT} {x : tT} {z : Int} (h : t_GG ρ G ρ1) (hx : tg ρ x z) : t_GG ρ (x :: G) (z :: ρ1) := by
  refine ⟨by simp [h.1], fun i y hy => ?_⟩
  cases i with
  | zero =>
    cases hy
    exact ⟨z, rfl, hx⟩
  | succ i => exact h.2 i y hy
theorem t_lfs_ok (hr : t_okr ρ rs) : ∀ {tms args : List ta} {us : List Value}, t_lfs rs tms args = true → (∀ tm ∈ tms, t_arg tm = true) → t_rS ρ args us → t_inA tms us ∧ t_GG ρ (t_gh args) (t_nums us)
  | [], [], us, _, _, hS => by
    rw [t_rS_nil hS]
    exact ⟨trivial, rfl, fun i y hy => by cases hy⟩
  | [], _ :: _, _, h, _, _ => by cases h
  | _ :: _, [], _, h, _, _ => by cases h
  | tm :: tms, v :: args, us, h, ha, hS => by
    obtain ⟨u, us', rfl, hg, hS'⟩ := t_rS_cons hS
    replace h : (match t_lf rs tm v with | true => t_lfs rs tms args | false => false) = true := h
    obtain ⟨h1, h2⟩ := t_bool h
    rw [List.forall_mem_cons] at ha
    obtain ⟨i1, i2⟩ := t_lfs_ok hr h2 ha.2 hS'
    have hg2 := t_lf_ok h1 hr hg
    have ha1 := ha.1
    match tm, ha1, hg2 with
    | .inl (j, a, b), ha1, ⟨z, hz, hg3⟩ =>
      have hj : j = 0 := Nat.eq_of_beq_eq_true ha1
      subst hj
      subst hz
      obtain ⟨y, q1, q2, q3⟩ := hg3
      cases q1
      refine ⟨⟨⟨z, rfl, by dsimp only at q2; omega, by dsimp only at q3; omega⟩, i1⟩, ?_⟩
      match v, hg with
      | .inl x, ⟨z', e1, e2⟩ =>
        cases e1
        exact i2.cons e2
      | .inr (.inl x), ⟨z', e1, e2⟩ => cases e1
      | .inr (.inr (.inl r)), ⟨z', e1, e2⟩ => cases e1
      | .inr (.inr (.inr _)), _ => cases h1
    | .inr (.inl (j, a, b)), ha1, ⟨z, hz, hg3⟩ =>
      have hj : j = 0 := Nat.eq_of_beq_eq_true ha1
      subst hj
      subst hz
      obtain ⟨y, q1, q2, q3⟩ := hg3
      cases q1
      refine ⟨⟨⟨z, rfl, by dsimp only at q2; omega, by dsimp only at q3; omega⟩, i1⟩, ?_⟩
      match v, hg with
      | .inl x, ⟨z', e1, e2⟩ => cases e1
      | .inr (.inl x), ⟨z', e1, e2⟩ =>
        cases e1
        exact i2.cons e2
      | .inr (.inr (.inl r)), ⟨z', e1, e2⟩ => cases e1
      | .inr (.inr (.inr _)), _ => cases h1
    | .inr (.inr (.inl r)), _, ⟨i, hi, hg3⟩ =>
      subst hi
      refine ⟨⟨⟨i, rfl, hg3⟩, i1⟩, ?_⟩
      match v, hg with
      | .inl x, ⟨z', e1, e2⟩ => cases e1
      | .inr (.inl x), ⟨z', e1, e2⟩ => cases e1
      | .inr (.inr (.inl r)), _ => exact i2
      | .inr (.inr (.inr _)), _ => cases h1
theorem t_pf_ok : ∀ {pre : List (Nat × Int × Int)} {ρ : List Int} {rs : tB} {F : tF} {G : List tT} {ρ1 : List Int} {k : tF → tB → List tT → Bool}, t_pf tk pre F rs G k = true → t_stt ρ rs F tk cs → t_inP cs pre → t_GG ρ G ρ1 → ∃ F' rs' G' ρ', t_ext ρ ρ' ∧ t_stt ρ' rs' F' tk cs ∧ t_GG ρ' G' (ρ1 ++ t_pvs cs pre) ∧ k F' rs' G' = true
  | [], ρ, rs, F, G, ρ1, k, h, hst, _, hG => ⟨F, rs, G, ρ, t_ext.rf ρ, hst, by rw [show t_pvs cs [] = [] from rfl, List.append_nil]; exact hG, h⟩
  | p :: pre, ρ, rs, F, G, ρ1, k, h, hst, hP, hG => by
    unfold t_inP at hP
    rw [List.forall_mem_cons] at hP
    obtain ⟨⟨hs, x, hx, -, -⟩, hP'⟩ := hP
    replace h : (match t_fget F p.1 with
      | some (.inl x) => t_app G x (fun G' => t_pf tk pre F rs G' k)
      | some _ => false
      | none => match t_kty tk p.1 with
        | some (lo, hi) => t_new rs lo hi (fun x rs' => t_app G x (fun G' => t_pf tk pre ((p.1, .inl x) :: F) rs' G' k))
        | none => false) = true := h
    have hpv := t_pv_of hx
    have fin : ∀ {ρ' : List Int} {rs' : tB} {F' : tF} {y : tT}, t_ext ρ ρ' → t_stt ρ' rs' F' tk cs → tg ρ' y x.toInt → t_pf tk pre F' rs' (G ++ [y]) k = true → ∃ F' rs' G' ρ', t_ext ρ ρ' ∧ t_stt ρ' rs' F' tk cs ∧ t_GG ρ' G' (ρ1 ++ t_pvs cs (p :: pre)) ∧ k F' rs' G' = true := by
      intro ρ' rs' F' y hx' hst' hy hk
      obtain ⟨F2, rs2, G2, ρ2, q1, q2, q3, q4⟩ := t_pf_ok hk hst' hP' ((hG.ext hx').app hy)
      refine ⟨F2, rs2, G2, ρ2, hx'.tr q1, q2, ?_, q4⟩
      rw [show t_pvs cs (p :: pre) = t_pv cs p.1 :: t_pvs cs pre from rfl, hpv]
      rw [List.append_assoc] at q3
      exact q3
    split at h
    · rename_i y hy
      rw [t_app_eq] at h
      obtain ⟨-, u, h2, h3⟩ := hst.2.1 _ (t_fget_ok hy)
      dsimp only at h2 h3
      rw [hx] at h2
      cases h2
      obtain ⟨z, hz, hg⟩ := h3
      cases hz
      exact fin (t_ext.rf ρ) hst hg h
    · cases h
    · split at h
      · rename_i lo hi hty
        obtain ⟨x', h1, h2, h3⟩ := t_kty_ok hty hst.2.2.2 hst.2.2.1
        rw [hx] at h1
        cases h1
        obtain ⟨y, rs', ρ', q1, q2, q3, q4⟩ := t_new_ok h hst.1 h2 h3
        rw [t_app_eq] at q1
        have hst2 := hst.ext q2 q3
        exact fin q2 ⟨q3, t_fac_cons (e := (p.1, .inl y)) hst2.2.1 hs hx ⟨x, rfl, q4⟩, hst2.2.2⟩ q4 q1
      · cases h
theorem t_bit_a {key r c b n : Nat} {o : Bool} {lo hi : Int} (h1 : t_rl[key / 1024]? = some r) (h2 : t_ro[r]? = some (c, o, b, .inl (n, lo, hi))) : t_bit key = some b := by
  unfold t_bit
  rw [t_nth_eq, show Nat.div key 1024 = key / 1024 from rfl, h1]
  dsimp only
  rw [t_nth_eq, h2]
theorem t_keep_ok {M key : Nat} (h : t_keep M key = true) (hT : t_ty cs) (hf : t_frm M cs cs') : t_sngl (key / 1024) → t_sv cs' (key / 1024) (key % 1024) = t_sv cs (key / 1024) (key % 1024) := by
  rintro ⟨r, b, T, h1, h2⟩
  obtain ⟨d, hd, hce⟩ := t_ref_ok hT h1 h2
  obtain ⟨d', hd', hs⟩ := hf.2 _ _ _ _ _ _ _ h1 h2 hd
  unfold t_keep t_bit at h
  rw [t_nth_eq, show Nat.div key 1024 = key / 1024 from rfl, h1] at h
  dsimp only at h
  rw [t_nth_eq, h2] at h
  unfold t_sv
  rw [hd, hd']
  match T, d, hce, d', hs, h with
  | .inl (n, lo, hi), .inl xs, _, .inl ys, hs, h =>
    dsimp only at h
    have hb : Nat.testBit M b = false := by
      cases hq : Nat.testBit M b with
      | true => rw [hq] at h; cases h
      | false => rfl
    rw [hs.2 hb]
  | .inr (.inl p), .inr (.inl q), _, .inr (.inl q'), hs, h => rfl
  | .inr (.inr (ci, fts)), .inr (.inr (cj, fs)), _, .inr (.inr (ck, gs)), hs, h =>
    dsimp only at h
    have hb : Nat.testBit M (b + key % 1024) = false := by
      cases hq : Nat.testBit M (b + key % 1024) with
      | true =>
        rw [show Nat.add b (Nat.mod key 1024) = b + key % 1024 from rfl, hq] at h
        cases h
      | false => rfl
    exact hs.2.2 _ hb
theorem t_keepc_ok {M i : Nat} (h : t_keep M (t_key i 0) = true) (hT : t_ty cs) (hf : t_frm M cs cs') (hs : t_sngl i) {xs : List Int32} (hc : zz_cell cs i = some (.inl xs)) : zz_cell cs' i = some (.inl xs) := by
  obtain ⟨r, b, T, h1, h2⟩ := hs
  obtain ⟨d, hd, hce⟩ := t_ref_ok hT h1 h2
  obtain ⟨d', hd', hs⟩ := hf.2 _ _ _ _ _ _ _ h1 h2 hd
  rw [hc] at hd
  cases hd
  have hk : Nat.div (t_key i 0) 1024 = i := (t_key_d (c := i) (s := 0) (by decide)).1
  unfold t_keep t_bit at h
  rw [t_nth_eq, hk, h1] at h
  dsimp only at h
  rw [t_nth_eq, h2] at h
  match T, hce, d', hd', hs, h with
  | .inl (n, lo, hi), _, .inl ys, hd', hs, h =>
    dsimp only at h
    have hb : Nat.testBit M b = false := by
      cases hq : Nat.testBit M b with
      | true => rw [hq] at h; cases h
      | false => rfl
    rw [hd', hs.2 hb]
theorem t_sb_ok {G : List tT} {ρ1 : List Int} {v : ta} {u : Value} {k : ta → Bool} (h : t_sb G v k = true) (hG : t_GG ρ G ρ1) (hg : tgv ρ1 v u) : ∃ v', k v' = true ∧ tgv ρ v' u := by
  have one : ∀ {x : tT} {z : Int} {k : tT → Bool}, t_sb1 G x k = true → tg ρ1 x z → ∃ y, k y = true ∧ tg ρ y z := by
    intro x z k hk hz
    obtain ⟨j, a, b⟩ := x
    obtain ⟨y, q1, q2, q3⟩ := hz
    cases j with
    | zero =>
      cases q1
      exact ⟨_, hk, 0, rfl, q2, q3⟩
    | succ j =>
      replace hk : (match t_nth G j with
        | some y => t_mk y.1 (Int.add y.2.1 a) (Int.add y.2.2 b) k
        | none => false) = true := hk
      rw [t_nth_eq] at hk
      split at hk
      · rename_i y' hy'
        obtain ⟨w, h1, h2⟩ := hG.2 _ _ hy'
        have q1 : ρ1[j]? = some y := q1
        rw [h1] at q1
        cases q1
        rw [t_mk_eq] at hk
        obtain ⟨y0, e1, e2, e3⟩ := h2
        refine ⟨_, hk, y0, e1, ?_, ?_⟩
        · show y0 + (y'.2.1 + a) ≤ z
          dsimp only at q2
          omega
        · show z ≤ y0 + (y'.2.2 + b)
          dsimp only at q3
          omega
      · cases hk
  unfold t_sb at h
  match v, hg, h with
  | .inl x, ⟨z, e1, e2⟩, h =>
    obtain ⟨y, h1, h2⟩ := one h e2
    exact ⟨_, h1, z, e1, h2⟩
  | .inr (.inl x), ⟨z, e1, e2⟩, h =>
    obtain ⟨y, h1, h2⟩ := one h e2
    exact ⟨_, h1, z, e1, h2⟩
  | .inr (.inr (.inl r)), hg, h => exact ⟨_, h, hg⟩
  | .inr (.inr (.inr _)), hg, h => exact ⟨_, h, hg⟩
theorem t_pst_ok {G : List tT} {ρ1 : List Int} (hG : t_GG ρ G ρ1) : ∀ {post F : tF} {k : tF → Bool}, t_pst G post F k = true → t_fac ρ F cs → t_fac ρ1 post cs → ∃ F', k F' = true ∧ t_fac ρ F' cs
  | [], F, k, h, hF, _ => ⟨F, h, hF⟩
  | e :: post, F, k, h, hF, hp => by
    unfold t_fac at hp
    rw [List.forall_mem_cons] at hp
    obtain ⟨⟨hs, u, hu, hg⟩, hp'⟩ := hp
    replace h : t_sb G e.2 (fun v => t_fset F e.1 v (fun F' => t_pst G post F' k)) = true := h
    obtain ⟨v, h1, h2⟩ := t_sb_ok h hG hg
    rw [t_fset_eq] at h1
    refine t_pst_ok hG h1 (t_fac_cons (e := (e.1, v)) (fun e' he' => hF e' (t_flt he').1) hs hu h2) hp'
theorem t_apl_ok {con : tCon} {j : Nat} {args rest : List ta} {us t2 : List Value} {k : List ta → tF → List Nat → tB → Bool} (hc : t_Con con) (hcap : t_cap j args F tk rs con = true) (hst : t_stt ρ rs F tk cs) (hSa : t_rS ρ args us) (hSr : t_rS ρ rest t2) (hm : zz_mts[j]? = some mj) (h : t_apl Mw con args rest F tk rs k = true) : tr_run mj (0, zz_ent mj.2.2.1 us, [], cs, 0, 0) (fun v cs' => ∃ ρ' rs' F' tk' st', t_ext ρ ρ' ∧ t_stt ρ' rs' F' tk' cs' ∧ t_frm Mw cs cs' ∧ t_rS ρ' st' (v.toList ++ t2) ∧ k st' F' tk' rs' = true) := by
  obtain ⟨hwf, hcon⟩ := hc
  unfold t_wf at hwf
  simp only [t_and_iff, t_all_iff] at hwf
  obtain ⟨w1, w2, w3, w4⟩ := hwf
  unfold t_cap at hcap
  obtain ⟨hj, hcap⟩ := t_bool hcap
  have hj := Nat.eq_of_beq_eq_true hj
  obtain ⟨hl, hcap⟩ := t_bool hcap
  rw [t_and_iff, t_all_iff, t_all_iff] at hcap
  obtain ⟨i1, i2⟩ := t_lfs_ok hst.1 hl w1 hSa
  have hP : t_inP cs con.2.2.1 := by
    intro p hp
    have h1 := hcap.1 p hp
    unfold t_pok at h1
    split at h1
    · rename_i x hx
      obtain ⟨v, q1, q2⟩ := t_fv_ok hx hst
      obtain ⟨q3, q4⟩ := t_wi_ok h1 hst.1 q2
      exact ⟨t_sg_ok (w2 p hp), v, q1, q3, q4⟩
    · cases h1
  have hK : t_tks con.2.2.2.1 cs := fun i hi => hst.2.2.1 i (t_mem_iff.mp (hcap.2 i hi))
  subst hj
  refine tr_mono (hcon mj hm us cs hst.2.2.2 i1 hP hK) ?_
  rintro v cs' ⟨hT', hfr, ⟨a, ha, hv, hfa⟩, htk⟩
  unfold t_apl at h
  obtain ⟨hM, h⟩ := t_bool h
  have hM := Nat.eq_of_beq_eq_true hM
  obtain ⟨F1, rs1, G, ρ1, q1, q2, q3, q4⟩ := t_pf_ok h hst hP i2
  rw [t_fil_eq, t_fil_eq, t_all_iff] at q4
  have q4 := q4 a ha
  have hF2 : t_fac ρ1 (F1.filter (fun e => t_keep con.2.2.2.2.1 e.1)) cs' := fun e he => by
    rw [List.mem_filter] at he
    obtain ⟨s1, u, s2, s3⟩ := q2.2.1 e he.1
    refine ⟨s1, u, ?_, s3⟩
    rw [t_keep_ok he.2 hst.2.2.2 hfr s1]
    exact s2
  have hK2 : t_tks (con.2.2.2.2.2.2 ++ tk.filter (fun i => t_keep con.2.2.2.2.1 (t_key i 0))) cs' := fun i hi => by
    rcases List.mem_append.mp hi with hi | hi
    · exact htk i hi
    · rw [List.mem_filter] at hi
      obtain ⟨s1, ⟨xs, s2⟩, s3⟩ := q2.2.2.1 i hi.1
      have s4 := t_keepc_ok hi.2 hst.2.2.2 hfr s1 s2
      refine ⟨s1, ⟨xs, s4⟩, fun k a b hk => ?_⟩
      obtain ⟨x, e1, e2⟩ := s3 k a b hk
      refine ⟨x, ?_, e2⟩
      unfold t_sv at e1 ⊢
      rw [s2] at e1
      rw [s4]
      exact e1
  have hfrm : t_frm Mw cs cs' := t_frm_mono (fun j hj => by
    have this : Nat.testBit (Nat.land con.2.2.2.2.1 Mw) j = Nat.testBit con.2.2.2.2.1 j := by rw [hM]
    rw [show Nat.land con.2.2.2.2.1 Mw = con.2.2.2.2.1 &&& Mw from rfl, Nat.testBit_and, hj] at this
    simpa using this) hfr
  obtain ⟨F3, q5, q6⟩ := t_pst_ok q3 q4 hF2 hfa
  obtain ⟨av, ap⟩ := a
  dsimp only at hv q5
  match av, hv, q5 with
  | none, hv, q5 =>
    have hv : v = none := hv
    subst hv
    exact ⟨ρ1, rs1, F3, _, rest, q1, ⟨q2.1, q6, hK2, hT'⟩, hfrm, t_rS.ext q1 hSr, q5⟩
  | some w, ⟨u, hu, hg⟩, q5 =>
    subst hu
    obtain ⟨w', q7, q8⟩ := t_sb_ok q5 q3 hg
    exact ⟨ρ1, rs1, F3, _, w' :: rest, q1, ⟨q2.1, q6, hK2, hT'⟩, hfrm, ⟨q8, t_rS.ext q1 hSr⟩, q7⟩
theorem t_fc_ok {args : List ta} {j : Nat} {con : tCon} : ∀ {C : List tCon}, t_fc C j args F tk rs = some con → con ∈ C ∧ t_cap j args F tk rs con = true
  | [], h => by cases h
  | c :: C, h => by
    replace h : (match t_cap j args F tk rs c with | true => some c | false => t_fc C j args F tk rs) = some con := h
    cases hc : t_cap j args F tk rs c with
    | true =>
      rw [hc] at h
      cases h
      exact ⟨List.mem_cons_self, hc⟩
    | false =>
      rw [hc] at h
      obtain ⟨h1, h2⟩ := t_fc_ok h
      exact ⟨List.mem_cons_of_mem _ h1, h2⟩
end TS8
