/-! the law's walk: its steps -/
noncomputable def lw_is (pc : Nat) (ins : Instr) : Bool := match t_fetch zz_law.2.2.2.2.2.2.2.2 pc with
  | some e => decide (e.2.1 = ins)
  | none => false
theorem lw_is_ok {pc : Nat} {ins : Instr} (h : lw_is pc ins = true) : ∃ en, zz_fetch zz_law.2.2.2.2.2.2.2.2 pc = some en ∧ en.2.1 = ins ∧ decode code pc = .ok (ins, en.2.2.1) ∧ (zz_len ins = 0 ∨ en.2.2.1 = zz_len ins) := by
  unfold lw_is at h
  rw [t_fetch_eq] at h
  split at h
  · rename_i en hf
    have h1 := of_decide_eq_true h
    obtain ⟨-, hd, hl, -⟩ := zz_chk_of zd_law hf
    subst h1
    exact ⟨en, hf, rfl, hd, hl⟩
  · cases h
noncomputable def lw_ck (pc k ci : Nat) : Bool := match t_fetch zz_law.2.2.2.2.2.2.2.2 pc with
  | some (_, .invokevirtual _, _, [1, k', ci', _, _], _) => decide (k' = k) && decide (ci' = ci)
  | _ => false
theorem lw_ck_ok {pc k ci : Nat} (h : lw_ck pc k ci = true) : ∃ p ix len w w' v0, zz_fetch zz_law.2.2.2.2.2.2.2.2 pc = some (p, .invokevirtual ix, len, [1, k, ci, w, w'], v0) := by
  unfold lw_ck at h
  rw [t_fetch_eq] at h
  split at h
  · rename_i hf
    simp only [Bool.and_eq_true, decide_eq_true_eq] at h
    obtain ⟨rfl, rfl⟩ := h
    exact ⟨_, _, _, _, _, _, hf⟩
  · cases h
noncomputable abbrev lw_L (i : Int32) : List (Option Value) := [some (.ref 0), some (.ref 1), some (.ref 271), some (.int i)]
noncomputable def lw_ca (pc j : Nat) : Bool := lw_is pc (.aload_n 0) && (lw_is (pc + 1) (.iload_n 3) && (lw_is (pc + 2) (.iconst (Int.ofNat j)) && (lw_is (pc + 3) .iadd && lw_is (pc + 4) .iaload)))
noncomputable def lw_cas : Nat → List Nat → Bool
  | _, [] => true
  | pc, j :: js => lw_ca pc j && (decide (j < 6) && lw_cas (pc + 5) js)
noncomputable def lw_rm (mj : zz_Mi) (n : Nat) : Bool := !mj.2.2.2.2.2.1 && (decide (mj.2.2.2.2.1 = n) && (decide (mj.2.2.2.2.2.2.1.1 = 0) && (decide (mj.2.2.2.2.2.2.1.2.1 = 0) && (decide (mj.2.2.2.2.2.2.1.2.2.1 + 1 ≤ 9) && (decide (8 + (mj.2.2.1 + 11) + mj.2.2.2.2.2.2.1.2.2.2 ≤ 336) && decide (n + 1 ≤ mj.2.2.1))))))
noncomputable def lw_x (xs : Nat → Int32) (i : Int32) (j : Nat) : Int32 := xs (i + Int32.ofInt (Int.ofNat j)).toNatClampNeg
noncomputable def lw_us (xs : Nat → Int32) (i : Int32) (js : List Nat) : List Value := js.map (fun j => Value.int (lw_x xs i j))
noncomputable def l_k (lg : Bool) (v : Option Value) : Prop := match lg with
  | true => ∃ z : Int64, v = some (.long z)
  | false => ∃ z : Int32, v = some (.int z)
noncomputable def lw_cp (pc : Nat) (lg : Bool) : Bool := match lg with
  | true => lw_is pc .pop2
  | false => lw_is pc .pop
/-- a case's code: x's call, m's call, their answers thrown away -/
noncomputable def lw_cc (q : Nat) (js : List Nat) (jc jm : Nat) (lg : Bool) : Bool := lw_is q (.aload_n 1) && (lw_cas (q + 1) js && (lw_ck (q + 1 + 5 * js.length) jc 0 && (lw_cp (q + 4 + 5 * js.length) lg && (lw_is (q + 5 + 5 * js.length) (.aload_n 2) && (lw_cas (q + 6 + 5 * js.length) js && (lw_ck (q + 6 + 10 * js.length) jm 12 && (lw_cp (q + 9 + 10 * js.length) lg && lw_is (q + 10 + 10 * js.length) (.goto (1536 - ((q + 10 + 10 * js.length : Nat) : Int))))))))))
theorem lw_ix {i : Int32} {j L0 : Nat} (hj : j < 6) (hi : 0 ≤ i.toInt) (h : i.toInt + 6 ≤ (L0 : Int)) (hL : L0 ≤ 3072) : vp_in (i + Int32.ofInt (Int.ofNat j)) L0 := by
  have e : (i + Int32.ofInt (Int.ofNat j)).toInt = i.toInt + j := by
    rw [Int32.toInt_add, Int32.toInt_ofInt_of_le (by rw [Int.ofNat_eq_natCast]; omega) (by rw [Int.ofNat_eq_natCast]; omega), Int.ofNat_eq_natCast]
    exact Int.bmod_eq_of_le_mul_two (by omega) (by omega)
  unfold vp_in
  rintro (q | q)
  · rw [Int32.lt_iff_toInt_lt] at q
    have h0 : (0 : Int32).toInt = 0 := rfl
    omega
  · have h0 : (((i + Int32.ofInt (Int.ofNat j)).toNatClampNeg : Nat) : Int) = (i + Int32.ofInt (Int.ofNat j)).toInt := by
      show (((i + Int32.ofInt (Int.ofNat j)).toInt.toNat : Nat) : Int) = _
      rw [Int.toNat_of_nonneg (by omega)]
    omega
theorem lw_us_int {xs : Nat → Int32} {i : Int32} {js : List Nat} : ∀ u ∈ lw_us xs i js, ∃ z : Int32, u = .int z := fun u hu => by
  unfold lw_us at hu
  rw [List.mem_map] at hu
  obtain ⟨j, -, rfl⟩ := hu
  exact ⟨_, rfl⟩
theorem lw_us_len {xs : Nat → Int32} {i : Int32} {js : List Nat} : (lw_us xs i js).length = js.length := List.length_map ..
theorem lw_en_len : ∀ {us : List Value}, (∀ u ∈ us, ∃ z : Int32, u = .int z) → (zz_en us).length = us.length
  | [], _ => rfl
  | u :: us, h => by
    rw [List.forall_mem_cons] at h
    obtain ⟨⟨z, rfl⟩, h2⟩ := h
    show (some (Value.int z) :: zz_en us).length = _
    rw [List.length_cons, List.length_cons, lw_en_len h2]
section LW1
variable {g : zz_G} {p : Program} {l : Launch} {e : Env} {s : State} {m : MethodId} {below : List Frame} {meth : Method} {c : Code} {b L0 : Nat} {xs : Nat → Int32} {pc pc' cu su : Nat} {L L' : List (Option Value)} {st st' : List Value} {cs : zz_W} {i : Int32}
theorem lw_st (X : zz_X g p room_1 s m meth c zz_law) (hB : cu ≤ 600000 ∧ su ≤ 7302250) {ins : Instr} (h : lw_is pc ins = true) (hd : zz_da ins pc L st = some (pc', L', st')) (kk : zz_LZ g p l e s m below meth c b pc' L' st' cs cu su) : zz_LZ g p l e s m below meth c b pc L st cs cu su := by
  obtain ⟨en, hf, h1, -, -⟩ := lw_is_ok h
  refine zz_step X hB hf (pc' := pc') (L' := L') (st' := st') (cs' := cs) (cu' := cu) (su' := su) ?_ (fun _ => kk)
  simp only [zz_one]
  rw [h1, hd]
theorem lw_d1 {pc : Nat} {ins : Instr} (h : lw_is pc ins = true) (h1 : zz_len ins = 1) : decode code pc = .ok (ins, 1) := by
  obtain ⟨en, -, -, hd, hl⟩ := lw_is_ok h
  rcases hl with hl | hl
  · rw [h1] at hl
    cases hl
  · rw [hd, hl, h1]
theorem lw_pop (X : zz_X g p room_1 s m meth c zz_law) (hB : cu ≤ 600000 ∧ su ≤ 7302250) {lg : Bool} {v : Option Value} (hv : l_k lg v) (h : lw_cp pc lg = true) (kk : zz_LZ g p l e s m below meth c b (pc + 1) L st cs cu su) : zz_LZ g p l e s m below meth c b pc L (v.toList ++ st) cs cu su := by
  cases lg with
  | true =>
    obtain ⟨z, rfl⟩ := hv
    have hd := lw_d1 (ins := .pop2) h rfl
    obtain ⟨hx, hb, -⟩ := X
    intro hnL H locs ls hR hl
    exact lv_pop2_2 (va := .long z) hx hb hd rfl (kk hnL H locs ls hR hl)
  | false =>
    obtain ⟨z, rfl⟩ := hv
    exact lw_st X hB (ins := .pop) h rfl kk
theorem lw_arg (X : zz_X g p room_1 s m meth c zz_law) (hX : va_X b L0 xs s s.heap) (hg : g.2.1 = b ∧ b ≤ g.1) (hB : cu ≤ 600000 ∧ su ≤ 7302250) (hi : 0 ≤ i.toInt ∧ i.toInt + 6 ≤ (L0 : Int) ∧ L0 ≤ 3072) {j : Nat} (hc : lw_ca pc j = true) (hj : j < 6) (kk : zz_LZ g p l e s m below meth c b (pc + 5) (lw_L i) (.int (lw_x xs i j) :: st) cs cu su) : zz_LZ g p l e s m below meth c b pc (lw_L i) st cs cu su := by
  simp only [lw_ca, Bool.and_eq_true] at hc
  obtain ⟨c1, c2, c3, c4, c5⟩ := hc
  refine lw_st X hB c1 rfl ?_
  refine lw_st X hB c2 rfl ?_
  refine lw_st X hB c3 rfl ?_
  refine lw_st X hB c4 rfl ?_
  exact zz_sld X hX hg (lw_ix hj hi.1 hi.2.1 hi.2.2) (v := lw_x xs i j) rfl (lw_d1 c5 rfl) kk
theorem lw_args (X : zz_X g p room_1 s m meth c zz_law) (hX : va_X b L0 xs s s.heap) (hg : g.2.1 = b ∧ b ≤ g.1) (hB : cu ≤ 600000 ∧ su ≤ 7302250) (hi : 0 ≤ i.toInt ∧ i.toInt + 6 ≤ (L0 : Int) ∧ L0 ≤ 3072) : ∀ (js : List Nat) (pc : Nat) (st : List Value), lw_cas pc js = true → zz_LZ g p l e s m below meth c b (pc + 5 * js.length) (lw_L i) ((lw_us xs i js).reverse ++ st) cs cu su → zz_LZ g p l e s m below meth c b pc (lw_L i) st cs cu su
  | [], pc, st, _, kk => kk
  | j :: js, pc, st, h, kk => by
    simp only [lw_cas, Bool.and_eq_true, decide_eq_true_eq] at h
    refine lw_arg X hX hg hB hi h.1 h.2.1 (lw_args X hX hg hB hi js (pc + 5) _ h.2.2 ?_)
    rw [show pc + 5 + 5 * js.length = pc + 5 * (j :: js).length by rw [List.length_cons]; omega]
    unfold lw_us at kk ⊢
    rw [List.map_cons, List.reverse_cons, List.append_assoc] at kk
    exact kk
theorem lw_call (X : zz_X g p room_1 s m meth c zz_law) (hB : cu ≤ 600000 ∧ su ≤ 7302250) {k ci i : Nat} {mj : zz_Mi} {us rest : List Value} (hk : lw_ck pc k ci = true) (hm : zz_mts[k]? = some mj) (hr : lw_rm mj us.length = true) (hu : ∀ u ∈ us, ∃ z : Int32, u = .int z) (hcell : ∃ fs, zz_cell cs i = some (.inr (.inr (ci, fs)))) (hss : zz_ss rest ≤ 8) {K : Option Value → zz_W → Prop} (hG : tr_run mj (0, zz_ent mj.2.2.1 (.ref i :: us), [], cs, 0, 0) K) (kk : ∀ v cs', K v cs' → zz_LZ g p l e s m below meth c b (pc + 3) L (v.toList ++ rest) cs' cu su) : zz_LZ g p l e s m below meth c b pc L (us.reverse ++ .ref i :: rest) cs cu su := by
  obtain ⟨p0, ix, len, w, w', v0, hf⟩ := lw_ck_ok hk
  simp only [lw_rm, Bool.and_eq_true, decide_eq_true_eq, Bool.not_eq_true'] at hr
  obtain ⟨r1, r2, r3, r4, r5, r6, r7⟩ := hr
  obtain ⟨fs, hcell⟩ := hcell
  have hn : zz_cn mj = us.length + 1 := by
    unfold zz_cn
    rw [r1, r2]
  have hlen : us.reverse.length = us.length := List.length_reverse
  have e1 : (us.reverse ++ Value.ref i :: rest).take (us.length + 1) = us.reverse ++ [Value.ref i] := by
    rw [List.take_append, hlen, List.take_of_length_le (by rw [hlen]; omega), show us.length + 1 - us.length = 1 by omega]
    rfl
  have e2 : (us.reverse ++ Value.ref i :: rest).drop (us.length + 1) = rest := by
    rw [List.drop_append, hlen, List.drop_of_length_le (by rw [hlen]; omega), show us.length + 1 - us.length = 1 by omega]
    rfl
  have e3 : (us.reverse ++ Value.ref i :: rest)[us.length]? = some (.ref i) := by
    rw [List.getElem?_append_right (by rw [hlen]; omega), hlen, Nat.sub_self]
    rfl
  have hG2 : zz_Met l g mj (.ref i :: us) cs K := by
    obtain ⟨n, v, cs', h1, h2⟩ := hG
    refine zz_Met_ev n (List.mem_of_getElem? hm) ?_ h1 h2
    show (some (Value.ref i) :: zz_en us).length ≤ _
    rw [List.length_cons, lw_en_len hu]
    exact r7
  refine zz_call X hf (mk := mj) ?_ ?_ ?_ ?_ ?_ (P := K) ?_ ?_
  · simp only [zz_ca]
    rw [hm]
    dsimp only
    rw [show zz_rc mj.2.2.2.2.1 (us.reverse ++ Value.ref i :: rest) cs = some ci by
      unfold zz_rc
      rw [r2, e3]
      dsimp only
      rw [hcell]]
    dsimp only
    rw [if_pos rfl]
  · rw [hn, List.length_append, List.length_cons, hlen]
    omega
  · rw [hn, e2]
    exact hss
  · rw [r3, r4]
    exact hB
  · exact ⟨r5, r6⟩
  · rw [hn, e1, List.reverse_append, List.reverse_reverse]
    exact hG2
  · intro v cs' hv
    rw [hn, e2, r3, r4]
    exact kk v cs' hv
end LW1
theorem l_c1 {cs : zz_W} (h : t_ty cs) : ∃ fs, zz_cell cs 1 = some (.inr (.inr (0, fs))) := by
  obtain ⟨d, h1, h2⟩ := t_ref_ok h (i := 1) (r := 0) (by decide +kernel) (show t_ro[0]? = some _ from rfl)
  match d, h1, h2 with
  | .inr (.inr (cj, fs)), h1, ⟨e1, _⟩ =>
    subst e1
    exact ⟨fs, h1⟩
theorem l_c2 {cs : zz_W} (h : t_ty cs) : ∃ fs, zz_cell cs 271 = some (.inr (.inr (12, fs))) := by
  obtain ⟨d, h1, h2⟩ := t_ref_ok h (i := 271) (r := 77) (by decide +kernel) (show t_ro[77]? = some _ from rfl)
  match d, h1, h2 with
  | .inr (.inr (cj, fs)), h1, ⟨e1, _⟩ =>
    subst e1
    exact ⟨fs, h1⟩
theorem l_J.ty {n m : Int} {cs : zz_W} (h : l_J n m cs) : t_ty cs := by
  obtain ⟨⟨T, h, -, -, h1, -⟩, -⟩ := h
  exact h1
section LW2
variable {g : zz_G} {p : Program} {l : Launch} {e : Env} {s : State} {m : MethodId} {below : List Frame} {meth : Method} {c : Code} {b L0 : Nat} {xs : Nat → Int32} {cu su : Nat} {cs : zz_W} {i : Int32}
end LW2
-- one call, by its contract
noncomputable def l_ar (r k : Nat) : List ta := .inr (.inr (.inl r)) :: List.replicate k (.inl (0, .negSucc 2147483647, .ofNat 2147483647))
theorem l_ar_int : ∀ {k : Nat} {us : List Value}, us.length = k → (∀ u ∈ us, ∃ z : Int32, u = .int z) → t_inA (List.replicate k (.inl (0, .negSucc 2147483647, .ofNat 2147483647))) us
  | 0, [], _, _ => trivial
  | 0, _ :: _, h, _ => by cases h
  | k + 1, [], h, _ => by cases h
  | k + 1, u :: us, h, hu => by
    rw [List.forall_mem_cons] at hu
    obtain ⟨⟨z, rfl⟩, h2⟩ := hu
    refine ⟨⟨z, rfl, ?_, ?_⟩, l_ar_int (by simpa using h) h2⟩
    · have := z.le_toInt
      rw [Int.negSucc_eq]
      omega
    · have := z.toInt_lt
      rw [Int.ofNat_eq_natCast]
      omega
theorem l_ar_ok {A : List ta} {r k i : Nat} {us : List Value} (hA : A = l_ar r k) (hi : t_rl[i]? = some r) (hl : us.length = k) (hu : ∀ u ∈ us, ∃ z : Int32, u = .int z) : t_inA A (.ref i :: us) := by
  subst hA
  exact ⟨⟨i, rfl, hi⟩, l_ar_int hl hu⟩
noncomputable def l_ans (lg : Bool) (c : tCon) : Bool := t_all (fun a => match a.1 with
  | some (.inl _) => match lg with
    | true => false
    | false => true
  | some (.inr (.inl _)) => lg
  | _ => false) c.2.2.2.2.2.1
theorem l_ans_ok {lg : Bool} {c : tCon} {ρ : List Int} {cs cs' : zz_W} {v : Option Value} (h : l_ans lg c = true) (hP : t_Pst c ρ cs v cs') : l_k lg v := by
  obtain ⟨-, -, ⟨a, h1, h2, -⟩, -⟩ := hP
  unfold l_ans at h
  rw [t_all_iff] at h
  have h3 := h a h1
  obtain ⟨av, af⟩ := a
  dsimp only at h2 h3
  split at h3
  · rename_i x
    obtain ⟨u, rfl, z, rfl, -⟩ := h2
    cases lg with
    | true => cases h3
    | false => exact ⟨z, rfl⟩
  · rename_i x
    obtain ⟨u, rfl, z, rfl, -⟩ := h2
    subst h3
    exact ⟨z, rfl⟩
  · cases h3
noncomputable def l_kp (c : tCon) : Bool := t_and (t_keep c.2.2.2.2.1 l_kL) (t_keep c.2.2.2.2.1 l_kM)
theorem l_kone {M key : Nat} {lo hi : Int} {cs cs' : zz_W} (hk : t_keep M key = true) (hT : t_ty cs) (hf : t_frm M cs cs') (hp : t_inP cs [(key, lo, hi)]) : t_inP cs' [(key, lo, hi)] := l_keepP (M := M) (fun q hq => by
  have hq : q = (key, lo, hi) := by simpa using hq
  subst hq
  exact hk) hT hf hp
theorem l_kp_ok {c : tCon} {n m : Int} {ρ : List Int} {cs cs' : zz_W} {v : Option Value} (h : l_kp c = true) (hJ : l_J n m cs) (hP : t_Pst c ρ cs v cs') (h2 : ∃ T h, T ≤ 8 ∧ (h = 0 ∨ h = 1) ∧ l_inv T h cs') : l_J n m cs' := by
  unfold l_kp at h
  rw [t_and_iff] at h
  exact ⟨h2, l_kone h.1 hJ.ty hP.2.1 hJ.2.1, l_kone h.2 hJ.ty hP.2.1 hJ.2.2⟩
noncomputable def l_g (lg : Bool) (X : List (Nat × Int × Int)) (c : tCon) : Bool := t_and (l_fst X c) (t_and (l_ans lg c) (l_kp c))
theorem l_gen {c : tCon} {lg : Bool} {X : List (Nat × Int × Int)} {mi : zz_Mi} {us : List Value} {n m : Int} {cs : zz_W} (hk : t_Con c) (hg : l_g lg X c = true) (hm : zz_mts[c.1]? = some mi) (hJ : l_J n m cs) (hX : t_inP cs X) (hin : t_inA c.2.1 us) : tr_run mi (0, zz_ent mi.2.2.1 us, [], cs, 0, 0) (fun v cs' => l_k lg v ∧ l_J n m cs') := by
  unfold l_g at hg
  rw [t_and_iff, t_and_iff] at hg
  refine tr_mono (l_stay hk hg.1 hm hJ.1 hX hin) ?_
  rintro v cs' ⟨h1, h2⟩
  exact ⟨l_ans_ok hg.2.1 h2, l_kp_ok hg.2.2 hJ h2 h1⟩
noncomputable def l_gt (lg : Bool) (T : Nat) (h : Int) (X : List (Nat × Int × Int)) (c : tCon) : Bool := t_and (l_all T h X c) (t_and (l_ans lg c) (l_kp c))
theorem l_gen2 {c : tCon} {lg : Bool} {T : Nat} {h : Int} {X : List (Nat × Int × Int)} {mi : zz_Mi} {us : List Value} {n m : Int} {cs : zz_W} (hk : t_Con c) (hg : l_gt lg T h X c = true) (hm : zz_mts[c.1]? = some mi) (hT8 : T ≤ 8) (hI : l_inv T h cs) (hJ : l_J n m cs) (hX : t_inP cs X) (hin : t_inA c.2.1 us) : tr_run mi (0, zz_ent mi.2.2.1 us, [], cs, 0, 0) (fun v cs' => l_k lg v ∧ l_J n m cs') := by
  unfold l_gt at hg
  rw [t_and_iff, t_and_iff] at hg
  refine tr_mono (l_step hk hg.1 hT8 hm hI hX hin) ?_
  rintro v cs' ⟨h1, h2⟩
  exact ⟨l_ans_ok hg.2.1 h2, l_kp_ok hg.2.2 hJ h2 h1⟩
theorem l_nil {cs : zz_W} : t_inP cs [] := fun p hp => by cases hp
