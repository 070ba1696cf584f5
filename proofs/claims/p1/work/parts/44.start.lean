/-! the law's loop, its switch, its start -/
def lw_offs : Array Int := #[191, 214, 227, 260, 293, 326, 359, 392, 425, 468, 511, 574, 597, 610, 653, 696, 719, 742, 775, 808, 851, 874, 897, 920, 943, 966, 999, 1032, 1065, 1108, 1162, 1195, 1218, 1241, 1275, 1298, 1321, 1364, 1387, 1400, 1413, 1456, 1469, 1482]
section LW5
variable {g : zz_G} {p : Program} {l : Launch} {e : Env} {s : State} {m : MethodId} {below : List Frame} {meth : Method} {c : Code} {b L0 : Nat} {xs : Nat → Int32} {cu su : Nat} {cs : zz_W} {i : Int32}
theorem lw_d1 {pc : Nat} {ins : Instr} (h : lw_is pc ins = true) (h1 : zz_len ins = 1) : decode code pc = .ok (ins, 1) := by
  obtain ⟨en, -, -, hd, hl⟩ := lw_is_ok h
  rcases hl with hl | hl
  · rw [h1] at hl
    cases hl
  · rw [hd, hl, h1]
theorem lw_ret1 (X : zz_X g p room_1 s m meth c zz_law) (hr : meth.sig.returnType = ret) (hlk : meth.locks = false) (hsz : s.heap.size = g.1 + 1) (hB : cu ≤ 600000 ∧ su ≤ 7302250) : zz_LZ g p l e s m below meth c b 1544 (lw_L i) [] cs cu su := by
  refine lw_st X hB (ins := .iconst 1) (pc' := 1545) (L' := lw_L i) (st' := [.int 1]) (by decide +kernel) rfl ?_
  exact zz_lend X hr hlk hsz hB (lw_d1 (by decide +kernel) rfl)
theorem lw_cond (X : zz_X g p room_1 s m meth c zz_law) (hX : va_X b L0 xs s s.heap) (hg : g.2.1 = b ∧ b ≤ g.1) (hB : cu ≤ 600000 ∧ su ≤ 7302250) {t : Nat} (hb : zz_br (zz_ic .gt i (Int32.ofNat L0 - (Int8.ofInt 6).toInt32)) 24 1520 = some t) (kk : zz_LZ g p l e s m below meth c b t (lw_L i) [] cs cu su) : zz_LZ g p l e s m below meth c b 18 (lw_L i) [] cs cu su := by
  refine lw_st X hB (ins := .iload_n 3) (by decide +kernel) rfl ?_
  refine lw_st X hB (ins := .aload_n 0) (by decide +kernel) rfl ?_
  refine zz_slen X hX hg (lw_d1 (by decide +kernel) rfl) ?_
  refine lw_st X hB (ins := .bipush 6) (by decide +kernel) rfl ?_
  refine lw_st X hB (ins := .isub) (by decide +kernel) rfl ?_
  refine lw_st X hB (ins := .if_icmp .gt 1520) (pc' := t) (L' := lw_L i) (st' := []) (by decide +kernel) ?_ kk
  simp only [zz_da]
  rw [hb]
  rfl
theorem lw_out (X : zz_X g p room_1 s m meth c zz_law) (hX : va_X b 6 xs s s.heap) (hg : g.2.1 = b ∧ b ≤ g.1) (hr : meth.sig.returnType = ret) (hlk : meth.locks = false) (hsz : s.heap.size = g.1 + 1) (hB : cu ≤ 600000 ∧ su ≤ 7302250) : zz_LZ g p l e s m below meth c b 1538 (lw_L 0) [] cs cu su := by
  refine lw_st X hB (ins := .iinc 3 6) (pc' := 1541) (L' := lw_L 6) (st' := []) (by decide +kernel) rfl ?_
  refine lw_st X hB (ins := .goto (-1523)) (pc' := 18) (L' := lw_L 6) (st' := []) (by decide +kernel) rfl ?_
  exact lw_cond X hX hg hB (t := 1544) (by decide +kernel) (lw_ret1 X hr hlk hsz hB)
theorem lw_tsw {x : Int32} {L : List (Option Value)} {r : List Value} {k : Nat} (hc : ¬ (x.toInt < 0 ∨ 43 < x.toInt)) (hk : (x.toInt - 0).toNat = k) : zz_da (.tableswitch 1505 0 43 lw_offs) 33 L (.int x :: r) = match lw_offs[k]? with
    | some off => zz_go L r (zz_tg 33 off)
    | none => none := by
  simp only [zz_da]
  rw [if_neg hc, hk]
  rfl
set_option maxRecDepth 100000 in
theorem lw_sw (X : zz_X g p room_1 s m meth c zz_law) (hX : va_X b 6 xs s s.heap) (hg : g.2.1 = b ∧ b ≤ g.1) (hr : meth.sig.returnType = ret) (hlk : meth.locks = false) (hsz : s.heap.size = g.1 + 1) (hB : cu ≤ 600000 ∧ su ≤ 7302250) (h1 : zz_le zx_c cs) (h2 : zz_le zy_1 cs) {x : Int32} : zz_LZ g p l e s m below meth c b 33 (lw_L 0) [.int x] cs cu su := by
  have hsw : lw_is 33 (.tableswitch 1505 0 43 lw_offs) = true := by decide +kernel
  have out : ∀ cs', zz_LZ g p l e s m below meth c b 1538 (lw_L 0) [] cs' cu su := fun cs' => lw_out X hX hg hr hlk hsz hB
  by_cases hc : x.toInt < 0 ∨ 43 < x.toInt
  · refine lw_st X hB hsw (pc' := 1538) (L' := lw_L 0) (st' := []) ?_ (out cs)
    simp only [zz_da]
    rw [if_pos hc]
    rfl
  · obtain ⟨k, hk⟩ : ∃ k, (x.toInt - 0).toNat = k := ⟨_, rfl⟩
    have hk2 : k < 44 := by omega
    have hd := lw_tsw (L := lw_L 0) (r := []) hc hk
    match k, hk2, hd with
    | 0, _, hd => exact lw_st X hB hsw (pc' := 224) (L' := lw_L 0) (st' := []) (hd.trans rfl) (lw_c0 X hX hg hB h1 h2 out)
    | 1, _, hd => exact lw_st X hB hsw (pc' := 247) (L' := lw_L 0) (st' := []) (hd.trans rfl) (lw_c1 X hX hg hB h1 h2 out)
    | 2, _, hd => exact lw_st X hB hsw (pc' := 260) (L' := lw_L 0) (st' := []) (hd.trans rfl) (lw_c2 X hX hg hB h1 h2 out)
    | 3, _, hd => exact lw_st X hB hsw (pc' := 293) (L' := lw_L 0) (st' := []) (hd.trans rfl) (lw_c3 X hX hg hB h1 h2 out)
    | 4, _, hd => exact lw_st X hB hsw (pc' := 326) (L' := lw_L 0) (st' := []) (hd.trans rfl) (lw_c4 X hX hg hB h1 h2 out)
    | 5, _, hd => exact lw_st X hB hsw (pc' := 359) (L' := lw_L 0) (st' := []) (hd.trans rfl) (lw_c5 X hX hg hB h1 h2 out)
    | 6, _, hd => exact lw_st X hB hsw (pc' := 392) (L' := lw_L 0) (st' := []) (hd.trans rfl) (lw_c6 X hX hg hB h1 h2 out)
    | 7, _, hd => exact lw_st X hB hsw (pc' := 425) (L' := lw_L 0) (st' := []) (hd.trans rfl) (lw_c7 X hX hg hB h1 h2 out)
    | 8, _, hd => exact lw_st X hB hsw (pc' := 458) (L' := lw_L 0) (st' := []) (hd.trans rfl) (lw_c8 X hX hg hB h1 h2 out)
    | 9, _, hd => exact lw_st X hB hsw (pc' := 501) (L' := lw_L 0) (st' := []) (hd.trans rfl) (lw_c9 X hX hg hB h1 h2 out)
    | 10, _, hd => exact lw_st X hB hsw (pc' := 544) (L' := lw_L 0) (st' := []) (hd.trans rfl) (lw_c10 X hX hg hB h1 h2 out)
    | 11, _, hd => exact lw_st X hB hsw (pc' := 607) (L' := lw_L 0) (st' := []) (hd.trans rfl) (lw_c11 X hX hg hB h1 h2 out)
    | 12, _, hd => exact lw_st X hB hsw (pc' := 630) (L' := lw_L 0) (st' := []) (hd.trans rfl) (lw_c12 X hX hg hB h1 h2 out)
    | 13, _, hd => exact lw_st X hB hsw (pc' := 643) (L' := lw_L 0) (st' := []) (hd.trans rfl) (lw_c13 X hX hg hB h1 h2 out)
    | 14, _, hd => exact lw_st X hB hsw (pc' := 686) (L' := lw_L 0) (st' := []) (hd.trans rfl) (lw_c14 X hX hg hB h1 h2 out)
    | 15, _, hd => exact lw_st X hB hsw (pc' := 729) (L' := lw_L 0) (st' := []) (hd.trans rfl) (lw_c15 X hX hg hB h1 h2 out)
    | 16, _, hd => exact lw_st X hB hsw (pc' := 752) (L' := lw_L 0) (st' := []) (hd.trans rfl) (lw_c16 X hX hg hB h1 h2 out)
    | 17, _, hd => exact lw_st X hB hsw (pc' := 775) (L' := lw_L 0) (st' := []) (hd.trans rfl) (lw_c17 X hX hg hB h1 h2 out)
    | 18, _, hd => exact lw_st X hB hsw (pc' := 808) (L' := lw_L 0) (st' := []) (hd.trans rfl) (lw_c18 X hX hg hB h1 h2 out)
    | 19, _, hd => exact lw_st X hB hsw (pc' := 841) (L' := lw_L 0) (st' := []) (hd.trans rfl) (lw_c19 X hX hg hB h1 h2 out)
    | 20, _, hd => exact lw_st X hB hsw (pc' := 884) (L' := lw_L 0) (st' := []) (hd.trans rfl) (lw_c20 X hX hg hB h1 h2 out)
    | 21, _, hd => exact lw_st X hB hsw (pc' := 907) (L' := lw_L 0) (st' := []) (hd.trans rfl) (lw_c21 X hX hg hB h1 h2 out)
    | 22, _, hd => exact lw_st X hB hsw (pc' := 930) (L' := lw_L 0) (st' := []) (hd.trans rfl) (lw_c22 X hX hg hB h1 h2 out)
    | 23, _, hd => exact lw_st X hB hsw (pc' := 953) (L' := lw_L 0) (st' := []) (hd.trans rfl) (lw_c23 X hX hg hB h1 h2 out)
    | 24, _, hd => exact lw_st X hB hsw (pc' := 976) (L' := lw_L 0) (st' := []) (hd.trans rfl) (lw_c24 X hX hg hB h1 h2 out)
    | 25, _, hd => exact lw_st X hB hsw (pc' := 999) (L' := lw_L 0) (st' := []) (hd.trans rfl) (lw_c25 X hX hg hB h1 h2 out)
    | 26, _, hd => exact lw_st X hB hsw (pc' := 1032) (L' := lw_L 0) (st' := []) (hd.trans rfl) (lw_c26 X hX hg hB h1 h2 out)
    | 27, _, hd => exact lw_st X hB hsw (pc' := 1065) (L' := lw_L 0) (st' := []) (hd.trans rfl) (lw_c27 X hX hg hB h1 h2 out)
    | 28, _, hd => exact lw_st X hB hsw (pc' := 1098) (L' := lw_L 0) (st' := []) (hd.trans rfl) (lw_c28 X hX hg hB h1 h2 out)
    | 29, _, hd => exact lw_st X hB hsw (pc' := 1141) (L' := lw_L 0) (st' := []) (hd.trans rfl) (lw_c29 X hX hg hB h1 h2 out)
    | 30, _, hd => exact lw_st X hB hsw (pc' := 1195) (L' := lw_L 0) (st' := []) (hd.trans rfl) (lw_c30 X hX hg hB h1 h2 out)
    | 31, _, hd => exact lw_st X hB hsw (pc' := 1228) (L' := lw_L 0) (st' := []) (hd.trans rfl) (lw_c31 X hX hg hB h1 h2 out)
    | 32, _, hd => exact lw_st X hB hsw (pc' := 1251) (L' := lw_L 0) (st' := []) (hd.trans rfl) (lw_c32 X hX hg hB h1 h2 out)
    | 33, _, hd => exact lw_st X hB hsw (pc' := 1274) (L' := lw_L 0) (st' := []) (hd.trans rfl) (lw_c33 X hX hg hB h1 h2 out)
    | 34, _, hd => exact lw_st X hB hsw (pc' := 1308) (L' := lw_L 0) (st' := []) (hd.trans rfl) (lw_c34 X hX hg hB h1 h2 out)
    | 35, _, hd => exact lw_st X hB hsw (pc' := 1331) (L' := lw_L 0) (st' := []) (hd.trans rfl) (lw_c35 X hX hg hB h1 h2 out)
    | 36, _, hd => exact lw_st X hB hsw (pc' := 1354) (L' := lw_L 0) (st' := []) (hd.trans rfl) (lw_c36 X hX hg hB h1 h2 out)
    | 37, _, hd => exact lw_st X hB hsw (pc' := 1397) (L' := lw_L 0) (st' := []) (hd.trans rfl) (lw_c37 X hX hg hB h1 h2 out)
    | 38, _, hd => exact lw_st X hB hsw (pc' := 1420) (L' := lw_L 0) (st' := []) (hd.trans rfl) (lw_c38 X hX hg hB h1 h2 out)
    | 39, _, hd => exact lw_st X hB hsw (pc' := 1433) (L' := lw_L 0) (st' := []) (hd.trans rfl) (lw_c39 X hX hg hB h1 h2 out)
    | 40, _, hd => exact lw_st X hB hsw (pc' := 1446) (L' := lw_L 0) (st' := []) (hd.trans rfl) (lw_c40 X hX hg hB h1 h2 out)
    | 41, _, hd => exact lw_st X hB hsw (pc' := 1489) (L' := lw_L 0) (st' := []) (hd.trans rfl) (lw_c41 X hX hg hB h1 h2 out)
    | 42, _, hd => exact lw_st X hB hsw (pc' := 1502) (L' := lw_L 0) (st' := []) (hd.trans rfl) (lw_c42 X hX hg hB h1 h2 out)
    | 43, _, hd => exact lw_st X hB hsw (pc' := 1515) (L' := lw_L 0) (st' := []) (hd.trans rfl) (lw_c43 X hX hg hB h1 h2 out)
    | n + 44, h, _ => omega
theorem lw_loop (X : zz_X g p room_1 s m meth c zz_law) (hX : va_X b L0 xs s s.heap) (hL : L0 ≤ 6) (hg : g.2.1 = b ∧ b ≤ g.1) (hr : meth.sig.returnType = ret) (hlk : meth.locks = false) (hsz : s.heap.size = g.1 + 1) (hB : cu ≤ 600000 ∧ su ≤ 7302250) (h1 : zz_le zx_c cs) (h2 : zz_le zy_1 cs) : zz_LZ g p l e s m below meth c b 18 (lw_L 0) [] cs cu su := by
  match L0, hL, hX with
  | 0, _, hX => exact lw_cond X hX hg hB (t := 1544) (by decide +kernel) (lw_ret1 X hr hlk hsz hB)
  | 1, _, hX => exact lw_cond X hX hg hB (t := 1544) (by decide +kernel) (lw_ret1 X hr hlk hsz hB)
  | 2, _, hX => exact lw_cond X hX hg hB (t := 1544) (by decide +kernel) (lw_ret1 X hr hlk hsz hB)
  | 3, _, hX => exact lw_cond X hX hg hB (t := 1544) (by decide +kernel) (lw_ret1 X hr hlk hsz hB)
  | 4, _, hX => exact lw_cond X hX hg hB (t := 1544) (by decide +kernel) (lw_ret1 X hr hlk hsz hB)
  | 5, _, hX => exact lw_cond X hX hg hB (t := 1544) (by decide +kernel) (lw_ret1 X hr hlk hsz hB)
  | 6, _, hX =>
    refine lw_cond X hX hg hB (t := 27) (by decide +kernel) ?_
    refine lw_st X hB (ins := .aload_n 0) (by decide +kernel) rfl ?_
    refine lw_st X hB (ins := .iload_n 3) (by decide +kernel) rfl ?_
    refine zz_sld X hX hg (j := 0) (v := xs 0) (by unfold vp_in; decide) rfl (lw_d1 (by decide +kernel) rfl) ?_
    refine lw_st X hB (ins := .bipush 63) (by decide +kernel) rfl ?_
    refine lw_st X hB (ins := .iand) (by decide +kernel) rfl ?_
    exact lw_sw X hX hg hr hlk hsz hB h1 h2
  | n + 7, h, _ => omega
end LW5
def zz_leB (a b : zz_W) : Bool := decide (a.length = b.length) && (List.range a.length).all (fun i => match zz_cell a i with
  | some c => match zz_cell b i with
    | some d => zz_eqC (some c) (some d)
    | none => false
  | none => true)
theorem zz_leB_ok {a b : zz_W} (h : zz_leB a b = true) : zz_le a b := by
  simp only [zz_leB, Bool.and_eq_true, decide_eq_true_eq] at h
  refine ⟨h.1, fun i c hi => ?_⟩
  have h1 := List.all_eq_true.mp h.2 i (List.mem_range.mpr (List.getElem?_eq_some_iff.mp hi).1)
  rw [zs_cell_of hi] at h1
  dsimp only at h1
  split at h1
  · rename_i d hd
    cases zz_eqC_ok h1
    exact zz_cell_eq hd
  · cases h1
def lw_b : zz_W := zx_1 ++ [some (.inr (.inr (12, [.int 0, .null, .null, .null, .null, .null, .null, .null, .null, .int 0, .null, .null, .null, .null, .null, .int 0, .int 0, .null, .null, .int 0, .int 0, .int 0, .int 0, .null, .null, .null, .null, .null, .int 0, .int 0, .int 0, .null, .null, .null, .int 0, .null, .null, .null, .int 0, .null, .int 0])))]
set_option maxRecDepth 1000000 in
theorem lw_b1 : zz_leB zy_0 lw_b = true := by decide +kernel
set_option maxRecDepth 1000000 in
theorem lw_b2 : (List.range 298).all (fun i => match zz_cell zx_c i with | some c => (match zy_0[i]? with | some none => (match zz_cell lw_b i with | some d => zz_eqC (some c) (some d) | none => false) | _ => false) | none => true) = true := by decide +kernel
theorem lw_b3 {b' : zz_W} (hF : zz_F zy_0 lw_b zy_1 b') : zz_le zx_c b' := by
  refine ⟨by rw [zs_wc2, ← hF.1.1, zs_wm2], fun i c hi => ?_⟩
  have hl : i < 298 := by rw [← zs_wc2]; exact (List.getElem?_eq_some_iff.mp hi).1
  have h1 := List.all_eq_true.mp lw_b2 i (List.mem_range.mpr hl)
  rw [zs_cell_of hi] at h1
  dsimp only at h1
  split at h1
  · rename_i hn
    split at h1
    · rename_i d hd
      cases zz_eqC_ok h1
      rw [(hF.2 i hn).2]
      exact zz_cell_eq hd
    · cases h1
  · cases h1
def lw_q (o : Option zz_S) (t : zz_S) : Bool := match o with
  | some (pc, L, st, cs, cu, su) => match t with
    | (pc', L', st', cs', cu', su') => decide (pc = pc') && (decide (L = L') && (decide (st = st') && (zz_eqW cs cs' && (decide (cu = cu') && decide (su = su')))))
  | none => false
theorem lw_q_ok {o : Option zz_S} {t : zz_S} (h : lw_q o t = true) : o = some t := by
  unfold lw_q at h
  split at h
  · obtain ⟨pc', L', st', cs', cu', su'⟩ := t
    simp only [Bool.and_eq_true, decide_eq_true_eq] at h
    obtain ⟨rfl, rfl, rfl, h4, rfl, rfl⟩ := h
    rw [zz_eqW_ok h4]
  · cases h
set_option maxRecDepth 1000000 in
theorem lw_s1 : zz_rn 2 zz_law 0 ([some (.ref 0), none, none, none], [], [none], 0, 0) = some (4, [some (.ref 0), none, none, none], [.ref 1, .ref 1], zx_0, 1, 10) := lw_q_ok (by decide +kernel)
set_option maxRecDepth 1000000 in
theorem lw_s2 : zz_rn 3 zz_law 7 ([some (.ref 0), none, none, none], [.ref 1], zx_1, 270, 1844) = some (12, [some (.ref 0), some (.ref 1), none, none], [.ref 271, .ref 271], lw_b, 271, 1885) := lw_q_ok (by decide +kernel)
set_option maxRecDepth 1000000 in
theorem lw_f4 : zz_fetch zz_law.2.2.2.2.2.2.2.2 4 = some (4, .invokespecial 9, 3, [5, 0, 91], .null) := by decide +kernel
set_option maxRecDepth 1000000 in
theorem lw_f12 : zz_fetch zz_law.2.2.2.2.2.2.2.2 12 = some (12, .invokespecial 12, 3, [5, 149, 916], .null) := by decide +kernel
set_option maxRecDepth 1000000 in
theorem lw_rc1 : (zz_rc 0 [.ref 1, .ref 1] zx_0).isSome = true := by decide +kernel
set_option maxRecDepth 1000000 in
theorem lw_rc2 : (zz_rc 0 [.ref 271, .ref 271] lw_b).isSome = true := by decide +kernel
set_option maxRecDepth 1000000 in
theorem whole_start {p : Program} (l : Launch) (_ : l.flags = flags0) {e : Env} {s : State} {m : MethodId} {below : List Frame} {meth : Method} {c : Code} {b L : Nat} {xs : Nat → Int32} (hL : L ≤ 6) (C0 : lw_At p s m meth c b L xs) : W p l e room_1 s m #[Value.ref b] below meth c s.heap [] 0 0 (lw_Z below #[Value.ref b] s) (entryFrame m ([Value.ref b] : List Value).toArray 4) := by
  obtain ⟨g, X, hgb, hsz, hbg⟩ := zz_law0 C0
  obtain ⟨-, -, hr, -, -, -, hX, -, hlk, -⟩ := C0
  have K : zz_LZ g p l e s m below meth c b 0 [some (.ref 0), none, none, none] [] [none] 0 0 := by
    refine zz_runs X 2 (by show 0 ≤ 600000 ∧ 0 ≤ 7302250; omega) lw_s1 (fun _ => ?_)
    refine zz_call X lw_f4 (mk := zm_0) ?_ (by decide) (by decide) (by decide) (by decide) (P := fun w x => w = none ∧ x = zx_1) (zz_Gm_ev 2132 (List.mem_of_getElem? (i := 0) rfl) (by decide) zx_new l g) ?_
    · obtain ⟨q, hq⟩ := Option.isSome_iff_exists.mp lw_rc1
      show (match zz_rc 0 [.ref 1, .ref 1] zx_0 with | some _ => some zm_0 | none => none) = _
      rw [hq]
    rintro v cs1 ⟨rfl, rfl⟩
    refine zz_runs X 3 (by show 270 ≤ 600000 ∧ 1844 ≤ 7302250; omega) lw_s2 (fun _ => ?_)
    refine zz_call X lw_f12 (mk := zm_149) ?_ (by decide) (by decide) (by decide) (by decide) (P := fun v b' => ∃ a', (v = none ∧ a' = zy_1) ∧ zz_F zy_0 lw_b a' b') (((zz_Gm_ev 180 (List.mem_of_getElem? (i := 149) rfl) (by decide) zy_new).le (zz_leB_ok lw_b1)) l g) ?_
    · obtain ⟨q, hq⟩ := Option.isSome_iff_exists.mp lw_rc2
      show (match zz_rc 0 [.ref 271, .ref 271] lw_b with | some _ => some zm_149 | none => none) = _
      rw [hq]
    rintro v b' ⟨a', ⟨rfl, rfl⟩, hF⟩
    have hB : 297 ≤ 600000 ∧ 4735 ≤ 7302250 := by omega
    show zz_LZ g p l e s m below meth c b 15 [some (.ref 0), some (.ref 1), none, none] [.ref 271] b' 297 4735
    refine lw_st X hB (ins := .astore_n 2) (by decide +kernel) rfl ?_
    refine lw_st X hB (ins := .iconst 0) (by decide +kernel) rfl ?_
    refine lw_st X hB (ins := .istore_n 3) (pc' := 18) (L' := lw_L 0) (st' := []) (by decide +kernel) rfl ?_
    exact lw_loop X hX hL ⟨hgb, hbg⟩ hr hlk hsz hB (lw_b3 hF) hF.1
  have hl := lv_entry [Value.ref b] (n := 4) (show 1 ≤ 4 by omega)
  rw [lg_entry_eq]
  refine K rfl s.heap [] _ ⟨⟨hsz, fun i c hi => ?_⟩, Nat.le_refl _, fun _ _ => rfl, fun q h => (by cases h), fun i hi => ⟨hi, rfl⟩⟩ ⟨hl.1, hl.2.1, fun q hq => hl.2.2 q ?_⟩
  · match i, hi with
    | 0, hi => cases hi
    | i + 1, hi => cases hi
  · obtain ⟨v, hv, he⟩ := zz_as_of hq
    obtain ⟨qi, qv⟩ := q
    have h0 : qi = 0 ∧ v = .ref 0 := by
      match qi, hv with
      | 0, hv => cases hv; exact ⟨rfl, rfl⟩
      | 1, hv => cases hv
      | 2, hv => cases hv
      | 3, hv => cases hv
      | n + 4, hv => cases hv
    obtain ⟨rfl, rfl⟩ := h0
    have h2 : qv = .ref b := by
      rw [show qv = zz_tr g (.ref 0) from he]
      show Value.ref (zz_ad g 0) = _
      unfold zz_ad
      rw [if_pos rfl, hgb]
    rw [h2]
    exact List.mem_cons_self
