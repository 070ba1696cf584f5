/-! the abstract machine is sound: walks, calls and all -/
theorem zz_Gs_one {mi : zz_Mi} {e : zz_I} {pc pc' cu su cu' su' : Nat} {L L' : List (Option Value)} {st st' : List Value} {cs cs' : zz_W} {Q : Option Value → zz_W → Prop} (hf : zz_fetch mi.2.2.2.2.2.2.2.2 pc = some e) (h1 : zz_one mi.2.2.2.2.2.2.1 e (pc, L, st, cs, cu, su) = some (pc', L', st', cs', cu', su')) (h : zz_Gs mi (pc', L', st', cs', cu', su') Q) : zz_Gs mi (pc, L, st, cs, cu, su) Q := by
  intro c0 g p l e R s m args below meth c X hr hlk hB
  dsimp only at hB ⊢
  have hRr : R = zz_rm mi.2.2.2.2.2.2.1 := X.2.2.2.2.2.2.2.1
  exact zz_step X (by rw [hRr]; exact hB) hf h1 (fun hB' => h c0 g p l e R s m args below meth c X hr hlk (by rw [hRr] at hB'; exact hB'))
theorem zz_Gs_ret {mi : zz_Mi} {e : zz_I} {pc cu su : Nat} {L : List (Option Value)} {st : List Value} {cs : zz_W} {v : Option Value} {Q : Option Value → zz_W → Prop} (hf : zz_fetch mi.2.2.2.2.2.2.2.2 pc = some e) (h1 : zz_rt1 e.2.1 mi.2.2.2.1 st = some v) (h : Q v cs) : zz_Gs mi (pc, L, st, cs, cu, su) Q := by
  intro c0 g p l e R s m args below meth c X hr hlk hB
  exact zz_end X hr hlk h hB hf h1
theorem zz_Gs_call {mi : zz_Mi} {e : zz_I} {mj : zz_Mi} {pc cu su : Nat} {L : List (Option Value)} {st : List Value} {cs : zz_W} {Q K : Option Value → zz_W → Prop} (hf : zz_fetch mi.2.2.2.2.2.2.2.2 pc = some e) (hcl : zz_ca e.2.1 e.2.2.2.1 st cs = some mj) (hc : zz_cok2 mi.2.2.2.2.2.2.1 mj (pc, L, st, cs, cu, su) = true) (h : zz_Gm mj (st.take (zz_cn mj)).reverse cs K) (hk : ∀ v cs', K v cs' → zz_Gs mi (pc + 3, L, v.toList ++ st.drop (zz_cn mj), cs', cu + mj.2.2.2.2.2.2.1.1, su + mj.2.2.2.2.2.2.1.2.1) Q) : zz_Gs mi (pc, L, st, cs, cu, su) Q := by
  intro c0 g p l e R s m args below meth c X hr hlk hB
  dsimp only at hB ⊢
  have hRr : R = zz_rm mi.2.2.2.2.2.2.1 := X.2.2.2.2.2.2.2.1
  simp only [zz_cok2, Bool.and_eq_true, decide_eq_true_eq] at hc
  obtain ⟨q1, q2, q3, q4, q5, q6, q7⟩ := hc
  refine zz_call X hf hcl q1 q2 (by rw [hRr]; exact ⟨q3, q4⟩) (by rw [hRr]; exact ⟨q6, q7⟩) (h l g) ?_
  intro v2 cs2 h2
  exact hk _ _ h2 c0 g p l e R s m args below meth c X hr hlk ⟨q3, q4⟩
theorem zz_Gm_Gs {mi : zz_Mi} {as : List Value} {cs : zz_W} {K : Option Value → zz_W → Prop} (hmem : mi ∈ zz_mts) (hlen : (zz_en as).length ≤ mi.2.2.1) (h : zz_Gs mi (0, zz_ent mi.2.2.1 as, [], cs, 0, 0) K) : zz_Gm mi as cs K := fun l g =>
  zz_Met_of (zz_mok_mem mi hmem) (zz_cdk_mem mi hmem) hlen (fun p e R s m args below meth c X hr hlk => h cs g p l e R s m args below meth c X hr hlk ⟨Nat.zero_le _, Nat.zero_le _⟩)
theorem zs_fnd_eq (pc : Nat) : ∀ ch : List zz_I, zs_fnd pc ch = zz_fnd pc ch
  | [] => rfl
  | e :: r => by
    show (match Nat.beq e.1 pc with | true => some e | false => zs_fnd pc r) = _
    unfold zz_fnd
    rw [zs_fnd_eq pc r]
    cases Nat.beq e.1 pc <;> rfl
theorem zs_fetch_eq (code : List (List zz_I)) (pc : Nat) : zs_fetch code pc = zz_fetch code pc := by
  unfold zs_fetch zz_fetch
  rw [zs_nth_eq]
  show (match code[pc / 16]? with | some ch => zs_fnd pc ch | none => none) = _
  cases code[pc / 16]? with
  | none => rfl
  | some ch => exact zs_fnd_eq pc ch
section ZS4
variable {ρ : Nat → Int} {N : Nat} {w : zs_W} {cs : zz_W} {st : List zv} {t : List Value} {rc : Nat → Option Nat}
theorem zs_rc_ok {n c : Nat} (h : zs_rc n st w = some c) (hS : zs_rS ρ st t) (hW : zs_rW ρ N w cs) : zz_rc n t cs = some c := by
  unfold zs_rc at h
  rw [zs_nth_eq] at h
  split at h
  · rename_i i hi
    obtain ⟨u, hu, hg⟩ := zs_rS_nth hS hi
    split at h
    · rename_i ci fs hget
      cases h
      obtain ⟨d, hd, hc⟩ := hW.2 _ _ hget
      match d, hd, hc with
      | .inr (.inr (m, us)), hd, ⟨hc1, hc2⟩ =>
        unfold zz_rc
        rw [hu, show u = _ from hg]
        dsimp only
        rw [zs_cell_of hd]
        subst hc1
        rfl
    · cases h
  · cases h
theorem zs_c0_ok {k j : Nat} {mj : zz_Mi} (h : zs_c0 k = some (j, mj)) : zz_mts[k]? = some mj ∧ zz_mts[j]? = some mj := by
  unfold zs_c0 at h
  rw [zs_nth_eq] at h
  split at h
  · rename_i hm
    cases h
    exact ⟨hm, hm⟩
  · cases h
theorem zs_c1_ok {k j : Nat} {mj : zz_Mi} (h : zs_c1 rc k = some (j, mj)) : zz_mts[k]? = some mj ∧ zz_mts[j]? = some mj ∧ ∃ c, rc mj.2.2.2.2.1 = some c := by
  unfold zs_c1 at h
  rw [zs_nth_eq] at h
  split at h
  · rename_i hm
    split at h
    · rename_i hc
      cases h
      exact ⟨hm, hm, _, hc⟩
    · cases h
  · cases h
theorem zs_c2_ok {k ci j : Nat} {mj : zz_Mi} (h : zs_c2 rc k ci = some (j, mj)) : zz_mts[k]? = some mj ∧ zz_mts[j]? = some mj ∧ rc mj.2.2.2.2.1 = some ci := by
  unfold zs_c2 at h
  rw [zs_nth_eq] at h
  split at h
  · rename_i hm
    split at h
    · rename_i hc
      split at h
      · rename_i hb
        cases h
        exact ⟨hm, hm, by rw [hc, Nat.eq_of_beq_eq_true hb]⟩
      · cases h
    · cases h
  · cases h
theorem zs_ca_ok {ins : Instr} {r : List Nat} {j : Nat} {mj : zz_Mi} (h : zs_ca ins r rc = some (j, mj)) (hrc : ∀ n c, rc n = some c → zz_rc n t cs = some c) : zz_ca ins r t cs = some mj ∧ zz_mts[j]? = some mj := by
  unfold zs_ca at h
  split at h
  · split at h
    · obtain ⟨h1, h2⟩ := zs_c0_ok h
      refine ⟨?_, h2⟩
      simp only [zz_ca]
      exact h1
    · obtain ⟨h1, h2⟩ := zs_c0_ok h
      refine ⟨?_, h2⟩
      simp only [zz_ca]
      exact h1
    · cases h
  · split at h
    · obtain ⟨h1, h2, c, h3⟩ := zs_c1_ok h
      refine ⟨?_, h2⟩
      simp only [zz_ca]
      rw [h1]
      dsimp only
      rw [hrc _ _ h3]
    · obtain ⟨h1, h2, c, h3⟩ := zs_c1_ok h
      refine ⟨?_, h2⟩
      simp only [zz_ca]
      rw [h1]
      dsimp only
      rw [hrc _ _ h3]
    · cases h
  · split at h
    · obtain ⟨h1, h2, h3⟩ := zs_c2_ok h
      refine ⟨?_, h2⟩
      simp only [zz_ca]
      rw [h1]
      dsimp only
      rw [hrc _ _ h3]
      dsimp only
      rw [if_pos rfl]
    · obtain ⟨h1, h2, h3⟩ := zs_c2_ok h
      refine ⟨?_, h2⟩
      simp only [zz_ca]
      rw [h1]
      dsimp only
      rw [hrc _ _ h3]
      dsimp only
      rw [if_pos rfl]
    · rw [zs_nth_eq] at h
      split at h
      · rename_i mx hmx
        split at h
        · rename_i cj hcj
          split at h
          · rename_i k' w' hal
            rw [zs_nth_eq] at h
            split at h
            · rename_i mi hmi
              split at h
              · rename_i hb
                cases h
                refine ⟨?_, hmi⟩
                simp only [zz_ca]
                rw [hmx]
                dsimp only
                rw [hrc _ _ hcj]
                dsimp only
                rw [hal]
                dsimp only
                rw [hmi]
                dsimp only
                rw [if_pos (Nat.eq_of_beq_eq_true hb)]
              · cases h
            · cases h
          · cases h
        · cases h
      · cases h
    · cases h
  · cases h
theorem zs_spl_ok : ∀ {n : Nat} {st acc : List zv} {k : List zv → List zv → Bool}, zs_spl n st acc k = true → n ≤ st.length ∧ k ((st.take n).reverse ++ acc) (st.drop n) = true
  | 0, st, acc, k, h => ⟨Nat.zero_le _, by
    rw [List.take_zero, List.reverse_nil, List.nil_append, List.drop_zero]
    exact h⟩
  | n + 1, v :: s, acc, k, h => by
    replace h : zs_spl n s (v :: acc) k = true := h
    obtain ⟨h1, h2⟩ := zs_spl_ok h
    refine ⟨Nat.succ_le_succ h1, ?_⟩
    rw [List.take_succ_cons, List.reverse_cons, List.append_assoc, List.drop_succ_cons]
    exact h2
  | n + 1, [], acc, k, h => by
    replace h : false = true := h
    cases h
theorem zs_enl : ∀ {a : List zv} {b : List Value}, zs_rS ρ a b → (zz_en b).length = zs_css a
  | [], [], _ => rfl
  | v :: s, u :: t, h => by
    have ih := zs_enl h.2
    have hc := zs_cat2_of h.1
    unfold zz_en
    rw [hc]
    show _ = (match zs_cat2 v with | true => Nat.succ (Nat.succ (zs_css s)) | false => Nat.succ (zs_css s))
    cases zs_cat2 v
    · simp only [Bool.false_eq_true, if_false]
      rw [if_neg (by omega), List.length_cons, ih]
    · simp only [if_true]
      rw [List.length_cons, List.length_cons, ih]
  | [], _ :: _, h => h.elim
  | _ :: _, [], h => h.elim
theorem zz_ent_cons {n : Nat} {u : Value} {us : List Value} : zz_ent n (u :: us) = if u.category = 2 then some u :: none :: zz_ent (n - 2) us else some u :: zz_ent (n - 1) us := by
  unfold zz_ent
  rw [show zz_en (u :: us) = if u.category = 2 then some u :: none :: zz_en us else some u :: zz_en us from rfl]
  split
  · simp only [List.length_cons, List.cons_append]
    rw [show n - ((zz_en us).length + 1 + 1) = n - 2 - (zz_en us).length by omega]
  · simp only [List.length_cons, List.cons_append]
    rw [show n - ((zz_en us).length + 1) = n - 1 - (zz_en us).length by omega]
theorem zs_rL_cons {v : Option zv} {u : Option Value} {A : zs_L} {L : List (Option Value)} (h : zs_rL ρ A L) (hv : ∀ x, v = some x → ∃ y, u = some y ∧ zs_g ρ x y) : zs_rL ρ (v :: A) (u :: L) := by
  refine ⟨by rw [List.length_cons, List.length_cons, h.1], fun i x hi => ?_⟩
  cases i with
  | zero =>
    rw [List.getElem?_cons_zero] at hi
    cases hi
    obtain ⟨y, rfl, hy⟩ := hv x rfl
    exact ⟨y, rfl, hy⟩
  | succ i =>
    rw [List.getElem?_cons_succ] at hi ⊢
    exact h.2 i x hi
theorem zs_ent_ok : ∀ {a : List zv} {b : List Value} {n : Nat}, zs_rS ρ a b → zs_rL ρ (zs_ent a n) (zz_ent n b)
  | [], [], n, _ => by
    show zs_rL ρ (zs_rep n none) ([] ++ List.replicate (n - 0) none)
    rw [zs_rep_eq, List.nil_append, Nat.sub_zero]
    refine ⟨by rw [List.length_replicate, List.length_replicate], fun i v hi => ?_⟩
    rw [List.getElem?_replicate] at hi
    split at hi <;> cases hi
  | v :: s, u :: t, n, h => by
    have hc := zs_cat2_of h.1
    rw [zz_ent_cons, hc]
    show zs_rL ρ (match zs_cat2 v with | true => some v :: none :: zs_ent s (Nat.pred (Nat.pred n)) | false => some v :: zs_ent s (Nat.pred n)) _
    cases zs_cat2 v
    · simp only [Bool.false_eq_true, if_false]
      rw [if_neg (by omega)]
      exact zs_rL_cons (zs_ent_ok h.2) (fun x hx => by cases hx; exact ⟨u, rfl, h.1⟩)
    · simp only [if_true]
      exact zs_rL_cons (zs_rL_cons (zs_ent_ok (n := n - 2) h.2) (fun x hx => by cases hx)) (fun x hx => by cases hx; exact ⟨u, rfl, h.1⟩)
  | [], _ :: _, _, h => h.elim
  | _ :: _, [], _, h => h.elim
def zs_go (ρ : Nat → Int) (v : Option zv) (u : Option Value) : Prop := match v, u with
  | none, none => True
  | some v, some u => zs_g ρ v u
  | _, _ => False
theorem zs_vt_ok {v : Option zv} {u : Option Value} (h : zs_go ρ v u) (hS : zs_rS ρ st t) : zs_rS ρ (zs_vt v st) (u.toList ++ t) := by
  match v, u, h with
  | none, none, _ => exact hS
  | some v, some u, h => exact ⟨h, hS⟩
theorem zs_cok_ok {q : Nat × Nat × Nat × Nat} {mj : zz_Mi} {args rest : List zv} {cargs crest : List Value} (h : zs_cok q mj args rest = true) (hr : zs_rS ρ rest crest) (ha : zs_rS ρ args cargs) : zz_ss crest ≤ 8 ∧ mj.2.2.2.2.2.2.1.1 = 0 ∧ mj.2.2.2.2.2.2.1.2.1 = 0 ∧ (zz_en cargs).length ≤ mj.2.2.1 ∧ mj.2.2.2.2.2.2.1.2.2.1 + 1 ≤ q.2.2.1 ∧ 8 + (mj.2.2.1 + 11) + mj.2.2.2.2.2.2.1.2.2.2 ≤ q.2.2.2 := by
  unfold zs_cok at h
  obtain ⟨c1, h⟩ := zs_bool h
  obtain ⟨c2, h⟩ := zs_bool h
  obtain ⟨c3, h⟩ := zs_bool h
  obtain ⟨c4, h⟩ := zs_bool h
  obtain ⟨c5, h⟩ := zs_bool h
  exact ⟨by rw [zs_css_of hr]; exact Nat.le_of_ble_eq_true c1, Nat.eq_of_beq_eq_true c2, Nat.eq_of_beq_eq_true c3, by rw [zs_enl ha]; exact Nat.le_of_ble_eq_true c4, Nat.le_of_ble_eq_true c5, Nat.le_of_ble_eq_true h⟩
end ZS4
/-- what an oracle must keep -/
def zs_HO (O : zs_O) (N : Nat) : Prop := ∀ (j : Nat) (mj : zz_Mi) (args : List zv) (w : zs_W) (rs : zs_R) (v : Option zv) (w' : zs_W), O j args w rs = some (v, w') → zz_mts[j]? = some mj → ∀ (ρ : Nat → Int), zs_ok ρ rs → ∀ (cargs : List Value) (cs : zz_W), zs_rS ρ args cargs → zs_rW ρ N w cs → zz_Gm mj cargs cs (fun u cs' => zs_go ρ v u ∧ zs_rW ρ N w' cs')
theorem zs_ret_ok {ρ : Nat → Int} {ret : Option FieldType} {st : List zv} {t : List Value} {w : zs_W} {rs : zs_R} {K : zs_K} {re : zs_R → Bool} (h : zs_ret ret st w rs K re = true) (hr : zs_ok ρ rs) (hS : zs_rS ρ st t) : (∃ rs', re rs' = true ∧ zs_ok ρ rs') ∨ ∃ v u, K rs (some v) w = true ∧ zs_g ρ v u ∧ zz_rt1 .ireturn ret t = some (some u) := by
  unfold zs_ret at h
  split at h
  · split at h
    · obtain ⟨u, r', rfl, hg, hS'⟩ := zs_rS_cons hS
      obtain rfl := zs_rS_nil hS'
      obtain ⟨h1, h2⟩ := zs_bool h
      obtain ⟨x, rfl⟩ := zs_isI_of h1 hg
      exact Or.inr ⟨_, _, h2, hg, rfl⟩
    · cases h
  · split at h
    · obtain ⟨u, r', rfl, hg, hS'⟩ := zs_rS_cons hS
      obtain rfl := zs_rS_nil hS'
      rcases zs_lv_ok h hr hg with z | ⟨x, h2, rfl⟩
      · exact Or.inl z
      · split at h2
        · rename_i hq
          rw [zs_eq_iff] at hq
          subst hq
          exact Or.inr ⟨_, _, h2, rfl, rfl⟩
        · obtain ⟨hq, h2⟩ := zs_bool h2
          rw [zs_eq_iff] at hq
          subst hq
          exact Or.inr ⟨_, _, h2, rfl, rfl⟩
    · cases h
  · cases h
theorem zs_ev_ok {O : zs_O} {N : Nat} (HO : zs_HO O N) : ∀ (n : Nat) (mi : zz_Mi) (pc : Nat) (A : zs_L) (st : List zv) (w : zs_W) (rs : zs_R) (K : zs_K) (ρ : Nat → Int) (L : List (Option Value)) (t : List Value) (cs : zz_W) (Q : Option Value → zz_W → Prop), zs_ev O n mi pc A st w rs K = true → zs_ok ρ rs → zs_rL ρ A L → zs_rS ρ st t → zs_rW ρ N w cs → (∀ rs' v w' u cs', K rs' v w' = true → zs_ok ρ rs' → zs_go ρ v u → zs_rW ρ N w' cs' → Q u cs') → zz_Gs mi (pc, L, t, cs, 0, 0) Q := by
  intro n
  induction n with
  | zero =>
    intro mi pc A st w rs K ρ L t cs Q h
    replace h : false = true := h
    cases h
  | succ n ih =>
    intro mi pc A st w rs K ρ L t cs Q h hr hA hS hW hK
    replace h : zs_body O (zs_ev O n) mi pc A st w rs K = true := h
    unfold zs_body at h
    rw [zs_fetch_eq] at h
    split at h
    · cases h
    · rename_i p ins len r v0 hf
      have hp : p = pc := (zz_fetch_ok hf).2
      subst hp
      rcases zs_one_ok (q := mi.2.2.2.2.2.2.1) (len := len) h hr hA hS hW with ⟨rs', h1, h2⟩ | ⟨pc', A', s', w', L', t', cs', h1, h2, h3, h4, h5⟩ | h1
      · exact ih mi p A st w rs' K ρ L t cs Q h1 h2 hA hS hW hK
      · exact zz_Gs_one hf (h5 0 0) (ih mi pc' A' s' w' rs K ρ L' t' cs' Q h1 hr h2 h3 h4 hK)
      · unfold zs_cr at h1
        split at h1
        · rcases zs_ret_ok h1 hr hS with ⟨rs', h1, h2⟩ | ⟨v, u, h1, h2, h3⟩
          · exact ih mi p A st w rs' K ρ L t cs Q h1 h2 hA hS hW hK
          · exact zz_Gs_ret hf h3 (hK _ _ _ _ _ h1 hr h2 hW)
        · split at h1
          · rename_i hret
            split at h1
            · obtain ⟨u, r', rfl, hg, hS'⟩ := zs_rS_cons hS
              obtain rfl := zs_rS_nil hS'
              obtain ⟨h1, h2⟩ := zs_bool h1
              obtain ⟨x, rfl⟩ := zs_isJ_of h1 hg
              refine zz_Gs_ret hf (v := some (.long x)) ?_ (hK _ _ _ _ _ h2 hr hg hW)
              simp only [zz_rt1]
              rw [hret]
            · cases h1
          · cases h1
        · split at h1
          · rename_i hret
            split at h1
            · obtain rfl := zs_rS_nil hS
              refine zz_Gs_ret hf (v := none) ?_ (hK _ _ _ _ _ h1 hr trivial hW)
              simp only [zz_rt1]
              rw [hret]
            · cases h1
          · cases h1
        · unfold zs_inv at h1
          split at h1
          · cases h1
          · rename_i j mj hca
            obtain ⟨hca, hj⟩ := zs_ca_ok (t := t) (cs := cs) hca (fun n c hn => zs_rc_ok hn hS hW)
            obtain ⟨hl, h1⟩ := zs_spl_ok h1
            rw [List.append_nil] at h1
            split at h1
            · cases h1
            · rename_i hcok
              have hSa := zs_rS_rev (zs_rS_take (zz_cn mj) hS)
              have hSd := zs_rS_drop (zz_cn mj) hS
              obtain ⟨q1, q2, q3, q4, q5, q6⟩ := zs_cok_ok hcok hSd hSa
              have hc2 : zz_cok2 mi.2.2.2.2.2.2.1 mj (p, L, t, cs, 0, 0) = true := by
                simp only [zz_cok2, Bool.and_eq_true, decide_eq_true_eq]
                rw [q2, q3]
                exact ⟨by rw [← zs_rS_len hS]; exact hl, q1, Nat.zero_le _, Nat.zero_le _, q4, q5, q6⟩
              split at h1
              · rename_i v w' hO
                refine zz_Gs_call hf hca hc2 (HO j mj _ w rs v w' hO hj ρ hr _ cs hSa hW) ?_
                rintro u cs' ⟨hu, hW'⟩
                rw [q2, q3]
                exact ih mi (p + 3) A _ w' rs K ρ L _ cs' Q h1 hr hA (zs_vt_ok hu hSd) hW' hK
              · refine zz_Gs_call hf hca hc2 (K := fun u cs' => zz_Gs mi (p + 3, L, u.toList ++ t.drop (zz_cn mj), cs', 0, 0) Q) ?_ ?_
                · refine zz_Gm_Gs (List.mem_of_getElem? hj) q4 ?_
                  refine ih mj 0 _ [] w rs _ ρ _ [] cs _ h1 hr (zs_ent_ok hSa) trivial hW ?_
                  intro rs' v w' u cs' h2 hr' hu hW'
                  exact ih mi (p + 3) A _ w' rs' K ρ L _ cs' Q h2 hr' hA (zs_vt_ok hu hSd) hW' hK
                · intro u cs' hq
                  rw [q2, q3]
                  exact hq
/-- a method's contract out of an abstract walk -/
theorem zs_con {O : zs_O} {N : Nat} (HO : zs_HO O N) {n j : Nat} {mi : zz_Mi} (hj : zz_mts[j]? = some mi) {args : List zv} {w : zs_W} {rs : zs_R} {K : zs_K} (h : zs_ev O n mi 0 (zs_ent args mi.2.2.1) [] w rs K = true) (hl : zs_css args ≤ mi.2.2.1) {ρ : Nat → Int} (hr : zs_ok ρ rs) {cargs : List Value} {cs : zz_W} (ha : zs_rS ρ args cargs) (hW : zs_rW ρ N w cs) {Q : Option Value → zz_W → Prop} (hK : ∀ rs' v w' u cs', K rs' v w' = true → zs_ok ρ rs' → zs_go ρ v u → zs_rW ρ N w' cs' → Q u cs') : zz_Gm mi cargs cs Q :=
  zz_Gm_Gs (List.mem_of_getElem? hj) (by rw [zs_enl ha]; exact hl) (zs_ev_ok HO n mi 0 _ [] w rs K ρ _ [] cs Q h hr (zs_ent_ok ha) trivial hW hK)
