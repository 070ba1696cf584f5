/-! the law's walk: its steps -/
noncomputable def lw_is (pc : Nat) (ins : Instr) : Bool := match zs_fetch zz_law.2.2.2.2.2.2.2.2 pc with
  | some e => decide (e.2.1 = ins)
  | none => false
theorem lw_is_ok {pc : Nat} {ins : Instr} (h : lw_is pc ins = true) : ∃ en, zz_fetch zz_law.2.2.2.2.2.2.2.2 pc = some en ∧ en.2.1 = ins ∧ decode code pc = .ok (ins, en.2.2.1) ∧ (zz_len ins = 0 ∨ en.2.2.1 = zz_len ins) := by
  unfold lw_is at h
  rw [zs_fetch_eq] at h
  split at h
  · rename_i en hf
    have h1 := of_decide_eq_true h
    obtain ⟨-, hd, hl, -⟩ := zz_chk_of zd_law hf
    subst h1
    exact ⟨en, hf, rfl, hd, hl⟩
  · cases h
noncomputable def lw_ck (pc k ci : Nat) : Bool := match zs_fetch zz_law.2.2.2.2.2.2.2.2 pc with
  | some (_, .invokevirtual _, _, [1, k', ci', _, _], _) => decide (k' = k) && decide (ci' = ci)
  | _ => false
theorem lw_ck_ok {pc k ci : Nat} (h : lw_ck pc k ci = true) : ∃ p ix len w w' v0, zz_fetch zz_law.2.2.2.2.2.2.2.2 pc = some (p, .invokevirtual ix, len, [1, k, ci, w, w'], v0) := by
  unfold lw_ck at h
  rw [zs_fetch_eq] at h
  split at h
  · rename_i hf
    simp only [Bool.and_eq_true, decide_eq_true_eq] at h
    obtain ⟨rfl, rfl⟩ := h
    exact ⟨_, _, _, _, _, _, hf⟩
  · cases h
abbrev lw_L (i : Int32) : List (Option Value) := [some (.ref 0), some (.ref 1), some (.ref 271), some (.int i)]
noncomputable def lw_ca (pc j : Nat) : Bool := lw_is pc (.aload_n 0) && (lw_is (pc + 1) (.iload_n 3) && (lw_is (pc + 2) (.iconst (Int.ofNat j)) && (lw_is (pc + 3) .iadd && lw_is (pc + 4) .iaload)))
noncomputable def lw_cas : Nat → List Nat → Bool
  | _, [] => true
  | pc, j :: js => lw_ca pc j && (decide (j < 6) && lw_cas (pc + 5) js)
def lw_rm (mj : zz_Mi) (n : Nat) : Bool := !mj.2.2.2.2.2.1 && (decide (mj.2.2.2.2.1 = n) && (decide (mj.2.2.2.2.2.2.1.1 = 0) && (decide (mj.2.2.2.2.2.2.1.2.1 = 0) && (decide (mj.2.2.2.2.2.2.1.2.2.1 + 1 ≤ 9) && decide (8 + (mj.2.2.1 + 11) + mj.2.2.2.2.2.2.1.2.2.2 ≤ 338)))))
section LW1
variable {g : zz_G} {p : Program} {l : Launch} {e : Env} {s : State} {m : MethodId} {below : List Frame} {meth : Method} {c : Code} {b L0 : Nat} {xs : Nat → Int32} {pc pc' cu su : Nat} {L L' : List (Option Value)} {st st' : List Value} {cs : zz_W}
theorem lw_st (X : zz_X g p room_1 s m meth c zz_law) (hB : cu ≤ 600000 ∧ su ≤ 7302250) {ins : Instr} (h : lw_is pc ins = true) (hd : zz_da ins pc L st = some (pc', L', st')) (kk : zz_LZ g p l e s m below meth c b pc' L' st' cs cu su) : zz_LZ g p l e s m below meth c b pc L st cs cu su := by
  obtain ⟨en, hf, h1, -, -⟩ := lw_is_ok h
  refine zz_step X hB hf (pc' := pc') (L' := L') (st' := st') (cs' := cs) (cu' := cu) (su' := su) ?_ (fun _ => kk)
  simp only [zz_one]
  rw [h1, hd]
theorem lw_ix {j : Nat} (h : j < 6) : vp_in (0 + Int32.ofInt (Int.ofNat j)) 6 ∧ (0 + Int32.ofInt (Int.ofNat j)).toNatClampNeg = j := by
  match j, h with
  | 0, _ => exact ⟨by unfold vp_in; decide, by decide⟩
  | 1, _ => exact ⟨by unfold vp_in; decide, by decide⟩
  | 2, _ => exact ⟨by unfold vp_in; decide, by decide⟩
  | 3, _ => exact ⟨by unfold vp_in; decide, by decide⟩
  | 4, _ => exact ⟨by unfold vp_in; decide, by decide⟩
  | 5, _ => exact ⟨by unfold vp_in; decide, by decide⟩
  | n + 6, h => omega
theorem lw_arg (X : zz_X g p room_1 s m meth c zz_law) (hX : va_X b 6 xs s s.heap) (hg : g.2.1 = b ∧ b ≤ g.1) (hB : cu ≤ 600000 ∧ su ≤ 7302250) {j : Nat} (hc : lw_ca pc j = true) (hj : j < 6) (kk : zz_LZ g p l e s m below meth c b (pc + 5) (lw_L 0) (.int (xs j) :: st) cs cu su) : zz_LZ g p l e s m below meth c b pc (lw_L 0) st cs cu su := by
  simp only [lw_ca, Bool.and_eq_true] at hc
  obtain ⟨c1, c2, c3, c4, c5⟩ := hc
  refine lw_st X hB c1 rfl ?_
  refine lw_st X hB c2 rfl ?_
  refine lw_st X hB c3 rfl ?_
  refine lw_st X hB c4 rfl ?_
  obtain ⟨en, hf, h1, hd, hl⟩ := lw_is_ok c5
  obtain ⟨v1, v2⟩ := lw_ix hj
  refine zz_sld X hX hg v1 (v := xs j) (by rw [v2]) ?_ kk
  rcases hl with hl | hl
  · cases hl
  · rw [hd, hl]
    rfl
theorem lw_args (X : zz_X g p room_1 s m meth c zz_law) (hX : va_X b 6 xs s s.heap) (hg : g.2.1 = b ∧ b ≤ g.1) (hB : cu ≤ 600000 ∧ su ≤ 7302250) : ∀ (js : List Nat) (pc : Nat) (st : List Value), lw_cas pc js = true → zz_LZ g p l e s m below meth c b (pc + 5 * js.length) (lw_L 0) ((js.map (fun j => Value.int (xs j))).reverse ++ st) cs cu su → zz_LZ g p l e s m below meth c b pc (lw_L 0) st cs cu su
  | [], pc, st, _, kk => kk
  | j :: js, pc, st, h, kk => by
    simp only [lw_cas, Bool.and_eq_true, decide_eq_true_eq] at h
    refine lw_arg X hX hg hB h.1 h.2.1 (lw_args X hX hg hB js (pc + 5) _ h.2.2 ?_)
    rw [show pc + 5 + 5 * js.length = pc + 5 * (j :: js).length by rw [List.length_cons]; omega]
    rw [List.map_cons, List.reverse_cons, List.append_assoc] at kk
    exact kk
theorem lw_call (X : zz_X g p room_1 s m meth c zz_law) (hB : cu ≤ 600000 ∧ su ≤ 7302250) {k ci i : Nat} {mj : zz_Mi} {us rest : List Value} (hk : lw_ck pc k ci = true) (hm : zz_mts[k]? = some mj) (hr : lw_rm mj us.length = true) (hcell : ∃ fs, zz_cell cs i = some (.inr (.inr (ci, fs)))) (hss : zz_ss rest ≤ 8) {K : Option Value → zz_W → Prop} (hG : zz_Gm mj (.ref i :: us) cs K) (kk : ∀ v cs', K v cs' → zz_LZ g p l e s m below meth c b (pc + 3) L (v.toList ++ rest) cs' cu su) : zz_LZ g p l e s m below meth c b pc L (us.reverse ++ .ref i :: rest) cs cu su := by
  obtain ⟨p0, ix, len, w, w', v0, hf⟩ := lw_ck_ok hk
  simp only [lw_rm, Bool.and_eq_true, decide_eq_true_eq, Bool.not_eq_true'] at hr
  obtain ⟨r1, r2, r3, r4, r5, r6⟩ := hr
  obtain ⟨fs, hcell⟩ := hcell
  have hn : zz_cn mj = us.length + 1 := by
    unfold zz_cn
    rw [r1, r2]
  have hlen : us.reverse.length = us.length := List.length_reverse
  have e1 : (us.reverse ++ Value.ref i :: rest).take (us.length + 1) = us.reverse ++ [Value.ref i] := by
    rw [List.take_append, hlen, List.take_of_length_le (by rw [hlen]; omega), show us.length + 1 - us.length = 1 by omega]
    rfl
  have e2 : (us.reverse ++ Value.ref i :: rest).drop (us.length + 1) = rest := by
    rw [List.drop_append, hlen, List.drop_of_length_le (by rw [hlen]; omega), show us.length + 1 - us.length = 1 by omega]
    rfl
  have e3 : (us.reverse ++ Value.ref i :: rest)[us.length]? = some (.ref i) := by
    rw [List.getElem?_append_right (by rw [hlen]; omega), hlen, Nat.sub_self]
    rfl
  refine zz_call X hf (mk := mj) ?_ ?_ ?_ ?_ ?_ (P := K) ?_ ?_
  · simp only [zz_ca]
    rw [hm]
    dsimp only
    rw [show zz_rc mj.2.2.2.2.1 (us.reverse ++ Value.ref i :: rest) cs = some ci by
      unfold zz_rc
      rw [r2, e3]
      dsimp only
      rw [hcell]]
    dsimp only
    rw [if_pos rfl]
  · rw [hn, List.length_append, List.length_cons, hlen]
    omega
  · rw [hn, e2]
    exact hss
  · rw [r3, r4]
    exact hB
  · exact ⟨r5, r6⟩
  · rw [hn, e1, List.reverse_append, List.reverse_reverse]
    exact hG l g
  · intro v cs' hv
    rw [hn, e2, r3, r4]
    exact kk v cs' hv
end LW1
set_option maxRecDepth 1000000 in
theorem lw_dj : (List.range 298).all (fun i => match zz_cell zy_1 i with | some _ => (match zx_c[i]? with | some none => true | _ => false) | none => true) = true := by decide +kernel
theorem lw_dis {i : Nat} {c : zz_C} (h : zy_1[i]? = some (some c)) : zx_c[i]? = some none := by
  have hl : i < 298 := by rw [← zs_wm2]; exact (List.getElem?_eq_some_iff.mp h).1
  have h1 := List.all_eq_true.mp lw_dj i (List.mem_range.mpr hl)
  rw [zs_cell_of h] at h1
  dsimp only at h1
  split at h1
  · assumption
  · cases h1
theorem lw_keep {cs a' cs' : zz_W} (hle : zz_le zy_1 cs) (hl : a'.length = 298) (hF : zz_F zx_c cs a' cs') : zz_le zy_1 cs' := by
  refine ⟨by rw [zs_wm2, ← hF.1.1, hl], fun i c hi => ?_⟩
  rw [(hF.2 i (lw_dis hi)).2]
  exact hle.2 i c hi
/-- a case's code: x's call, m's call, the answers held against each other -/
noncomputable def lw_cc (q : Nat) (js : List Nat) (jc jm : Nat) : Bool := lw_is q (.aload_n 1) && (lw_cas (q + 1) js && (lw_ck (q + 1 + 5 * js.length) jc 0 && (lw_is (q + 4 + 5 * js.length) (.aload_n 2) && (lw_cas (q + 5 + 5 * js.length) js && lw_ck (q + 5 + 10 * js.length) jm 12))))
noncomputable def lw_ci (pc : Nat) : Bool := lw_is pc (.if_icmp .eq (1538 - (pc : Int)))
noncomputable def lw_cl (pc : Nat) : Bool := lw_is pc .lcmp && lw_is (pc + 1) (.ifCond .eq (1537 - (pc : Int)))
section LW2
variable {g : zz_G} {p : Program} {l : Launch} {e : Env} {s : State} {m : MethodId} {below : List Frame} {meth : Method} {c : Code} {b : Nat} {xs : Nat → Int32} {cu su : Nat} {cs : zz_W}
theorem lw_two (X : zz_X g p room_1 s m meth c zz_law) (hX : va_X b 6 xs s s.heap) (hg : g.2.1 = b ∧ b ≤ g.1) (hB : cu ≤ 600000 ∧ su ≤ 7302250) (h1 : zz_le zx_c cs) (h2 : zz_le zy_1 cs) {q jc jm : Nat} {js : List Nat} (hcc : lw_cc q js jc jm = true) {mc mm : zz_Mi} (hc : zz_mts[jc]? = some mc) (hm : zz_mts[jm]? = some mm) (hrc : lw_rm mc js.length = true) (hrm : lw_rm mm js.length = true) {v : Value} (hGc : zz_Gm mc (.ref 1 :: js.map (fun j => Value.int (xs j))) zx_c (fun u cs' => u = some v ∧ cs'.length = 298)) (hGm : zz_Gm mm (.ref 271 :: js.map (fun j => Value.int (xs j))) zy_1 (fun u cs' => u = some v ∧ cs'.length = 298)) (hv : v.category ≤ 2)
    (kk : ∀ cs', zz_LZ g p l e s m below meth c b (q + 8 + 10 * js.length) (lw_L 0) [v, v] cs' cu su) : zz_LZ g p l e s m below meth c b q (lw_L 0) [] cs cu su := by
  simp only [lw_cc, Bool.and_eq_true] at hcc
  obtain ⟨c1, c2, c3, c4, c5, c6⟩ := hcc
  refine lw_st X hB c1 rfl ?_
  refine lw_args X hX hg hB js (q + 1) _ c2 ?_
  refine lw_call (rest := []) X hB c3 hc (by rw [List.length_map]; exact hrc) ⟨_, h1.cell (show zz_cell zx_c 1 = some _ from rfl)⟩ (Nat.zero_le _) (hGc.le h1) ?_
  rintro u cs' ⟨a', ⟨rfl, hl⟩, hF⟩
  have h3 := lw_keep h2 hl hF
  rw [show q + 1 + 5 * js.length + 3 = q + 4 + 5 * js.length by omega]
  refine lw_st X hB c4 rfl ?_
  rw [show q + 4 + 5 * js.length + 1 = q + 5 + 5 * js.length by omega]
  refine lw_args X hX hg hB js (q + 5 + 5 * js.length) _ c5 ?_
  rw [show q + 5 + 5 * js.length + 5 * js.length = q + 5 + 10 * js.length by omega]
  refine lw_call (rest := [v]) X hB c6 hm (by rw [List.length_map]; exact hrm) ⟨_, h3.cell (show zz_cell zy_1 271 = some _ from rfl)⟩ (by unfold zz_ss; simp; omega) (hGm.le h3) ?_
  rintro u cs2 ⟨a2, ⟨rfl, -⟩, -⟩
  rw [show q + 5 + 10 * js.length + 3 = q + 8 + 10 * js.length by omega]
  exact kk cs2
theorem lw_int (X : zz_X g p room_1 s m meth c zz_law) (hX : va_X b 6 xs s s.heap) (hg : g.2.1 = b ∧ b ≤ g.1) (hB : cu ≤ 600000 ∧ su ≤ 7302250) (h1 : zz_le zx_c cs) (h2 : zz_le zy_1 cs) {q jc jm : Nat} {js : List Nat} (hcc : lw_cc q js jc jm = true) {mc mm : zz_Mi} (hc : zz_mts[jc]? = some mc) (hm : zz_mts[jm]? = some mm) (hrc : lw_rm mc js.length = true) (hrm : lw_rm mm js.length = true) (hi : lw_ci (q + 8 + 10 * js.length) = true) (hP : ∃ v, (∃ x, v = Value.int x) ∧ zz_Gm mc (.ref 1 :: js.map (fun j => Value.int (xs j))) zx_c (fun u cs' => u = some v ∧ cs'.length = 298) ∧ zz_Gm mm (.ref 271 :: js.map (fun j => Value.int (xs j))) zy_1 (fun u cs' => u = some v ∧ cs'.length = 298))
    (out : ∀ cs', zz_LZ g p l e s m below meth c b 1538 (lw_L 0) [] cs' cu su) : zz_LZ g p l e s m below meth c b q (lw_L 0) [] cs cu su := by
  obtain ⟨v, ⟨x, rfl⟩, hGc, hGm⟩ := hP
  refine lw_two X hX hg hB h1 h2 hcc hc hm hrc hrm hGc hGm (by show 1 ≤ 2; omega) (fun cs' => ?_)
  refine lw_st X hB hi (pc' := 1538) (L' := lw_L 0) (st' := []) ?_ (out cs')
  simp only [zz_da, zz_ic, zz_br, zz_tg]
  rw [show ((q + 8 + 10 * js.length : Nat) : Int) + (1538 - ((q + 8 + 10 * js.length : Nat) : Int)) = Int.ofNat 1538 by rw [Int.ofNat_eq_natCast]; omega]
  dsimp only
  rw [decide_eq_true trivial]
  rfl
theorem lw_long (X : zz_X g p room_1 s m meth c zz_law) (hX : va_X b 6 xs s s.heap) (hg : g.2.1 = b ∧ b ≤ g.1) (hB : cu ≤ 600000 ∧ su ≤ 7302250) (h1 : zz_le zx_c cs) (h2 : zz_le zy_1 cs) {q jc jm : Nat} {js : List Nat} (hcc : lw_cc q js jc jm = true) {mc mm : zz_Mi} (hc : zz_mts[jc]? = some mc) (hm : zz_mts[jm]? = some mm) (hrc : lw_rm mc js.length = true) (hrm : lw_rm mm js.length = true) (hi : lw_cl (q + 8 + 10 * js.length) = true) (hP : ∃ v, (∃ x, v = Value.long x) ∧ zz_Gm mc (.ref 1 :: js.map (fun j => Value.int (xs j))) zx_c (fun u cs' => u = some v ∧ cs'.length = 298) ∧ zz_Gm mm (.ref 271 :: js.map (fun j => Value.int (xs j))) zy_1 (fun u cs' => u = some v ∧ cs'.length = 298))
    (out : ∀ cs', zz_LZ g p l e s m below meth c b 1538 (lw_L 0) [] cs' cu su) : zz_LZ g p l e s m below meth c b q (lw_L 0) [] cs cu su := by
  obtain ⟨v, ⟨x, rfl⟩, hGc, hGm⟩ := hP
  refine lw_two X hX hg hB h1 h2 hcc hc hm hrc hrm hGc hGm (by show 2 ≤ 2; omega) (fun cs' => ?_)
  simp only [lw_cl, Bool.and_eq_true] at hi
  refine lw_st X hB hi.1 rfl ?_
  refine lw_st X hB hi.2 (pc' := 1538) (L' := lw_L 0) (st' := []) ?_ (out cs')
  have hq : lg_cmp x x = 0 := by
    unfold lg_cmp
    rw [if_neg (by show ¬ x < x; rw [Int64.lt_iff_toInt_lt]; omega), if_pos rfl]
  simp only [zz_da, zz_if, zz_br, zz_tg]
  rw [hq, show ((q + 8 + 10 * js.length + 1 : Nat) : Int) + (1537 - ((q + 8 + 10 * js.length : Nat) : Int)) = Int.ofNat 1538 by rw [Int.ofNat_eq_natCast]; omega]
  rfl
end LW2
