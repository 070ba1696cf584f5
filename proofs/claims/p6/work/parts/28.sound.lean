/-! the real machine follows the pure one -/
section ZZ5
variable {g : zz_G} {p : Program} {l : Launch} {e : Env} {R : Room} {s : State} {m : MethodId} {args : Array Value} {below : List Frame} {meth : Method} {c : Code} {Q : State → Prop} {pc pc' n cu su cu' su' : Nat} {L L' : List (Option Value)} {st st' : List Value} {c0 cs cs' : zz_W} {mi : zz_Mi}
/-- where a method stands -/
def zz_X (g : zz_G) (p : Program) (R : Room) (s : State) (m : MethodId) (meth : Method) (c : Code) (mi : zz_Mi) : Prop :=
  p.tables.exec = Jvm.exec ∧ c.code = mi.2.1 ∧ c.maxLocals = mi.2.2.1 ∧ s.vm.findClass mi.1.cls = some m.cls ∧ zz_ok s ∧ zz_K g s ∧ (mi.1.name = "<init>" → meth.name = "<init>") ∧ R = zz_rm mi.2.2.2.2.2.2.1 ∧ zz_cdk mi = true
theorem zz_na_ok {cc : ByteArray} {nL : Nat} (hx : p.tables.exec = Jvm.exec) (hb : c.code = cc) (hml : c.maxLocals = nL) {own : String} (hown : s.vm.findClass own = some m.cls) (hT : zz_ok s) (hK : zz_K g s) (hB : cu ≤ R.cells ∧ su ≤ R.slots) {ins : Instr} {len : Nat} {r : List Nat} (hd : decode cc pc = .ok (ins, len)) (hlen : zz_len ins = 0 ∨ len = zz_len ins) (htb : zz_tn own ins r = true) (h : zz_na ins r R.frames R.locals pc L st cs = some (pc', L', st', cs'))
    (kk : zz_Z g c0 p l e R s m args below meth c Q nL pc' L' st' cs' cu su) : zz_Z g c0 p l e R s m args below meth c Q nL pc L st cs cu su := by
  intro hnL H locs ls hR hl
  have lenO : ∀ k : Nat, (k + 1 = 0 ∨ len = k + 1) → len = k + 1 := fun k q => q.resolve_left (by omega)
  cases ins with
  | invokespecial idx =>
    cases lenO _ hlen
    simp only [zz_na] at h
    split at h <;> try (cases h; done)
    split at h <;> try (cases h; done)
    split at h <;> try (cases h; done)
    rename_i w1 w2 w3 _ i rest hs
    cases h
    simp only [zz_tn, Bool.and_eq_true] at htb
    refine W.objInit hx hb hown (zz_wd_ok htb.1 hT args) (zz_wd_ok htb.2.1 hT args) (zz_wd_ok htb.2.2 hT args) rfl (hl.1.trans hml.symm) rfl hd hs.1 ?_ (kk hnL H locs ls hR hl)
    rw [zz_ss_tr]
    show 2 * 0 + _ + 12 ≤ R.locals
    have h9 := hs.2
    omega
  | invokestatic idx =>
    cases lenO _ hlen
    simp only [zz_na] at h
    split at h <;> try (cases h; done)
    · split at h <;> try (cases h; done)
      split at h <;> try (cases h; done)
      rename_i w1 w2 w3 w4 _ y x rest hs
      cases h
      simp only [zz_tn, Bool.and_eq_true] at htb
      exact va_mmax hx hb (hml.trans hl.1.symm) hown (zz_wd_ok htb.1 hT args) (zz_wd_ok htb.2.1 hT args) (zz_wd_ok htb.2.2.1 hT args) (zz_wd_ok htb.2.2.2 hT args) hs.1 (by rw [zz_ss_tr]; exact hs.2) hB.1 hB.2 hd (kk hnL H locs ls hR hl)
    · split at h <;> try (cases h; done)
      split at h <;> try (cases h; done)
      rename_i w1 w2 w3 w4 _ y x rest hs
      cases h
      simp only [zz_tn, Bool.and_eq_true] at htb
      exact va_mmin hx hb (hml.trans hl.1.symm) hown (zz_wd_ok htb.1 hT args) (zz_wd_ok htb.2.1 hT args) (zz_wd_ok htb.2.2.1 hT args) (zz_wd_ok htb.2.2.2 hT args) hs.1 (by rw [zz_ss_tr]; exact hs.2) hB.1 hB.2 hd (kk hnL H locs ls hR hl)
    · split at h <;> try (cases h; done)
      split at h <;> try (cases h; done)
      split at h <;> try (cases h; done)
      split at h <;> try (cases h; done)
      rename_i w1 w2 w3 w4 _ n dp j sp i rest _ xs hi _ ys hj hs
      cases h
      obtain ⟨hf, hs, rfl, rfl, hn, h4, h5⟩ := hs
      simp only [zz_tn, Bool.and_eq_true] at htb
      exact zz_copy hx hb hml hown hK (zz_wd_ok htb.1 hT args) (zz_wd_ok htb.2.1 hT args) (zz_wd_ok htb.2.2.1 hT args) (zz_wd_ok htb.2.2.2 hT args) hR (zz_cell_eq hi) (zz_cell_eq hj) hn h4 h5 hl.1 hf (by
        have z : nativeFrameWords "java/lang/System" "arraycopy" 5 = 7 := by decide
        rw [zz_ss_tr, z]; omega) hd (fun H1 locs1 hR1 => kk hnL H1 locs1 ls hR1 hl)
  | _ => exact absurd (show (none : zz_O2) = some _ from h) (by simp)
theorem zz_al_le {Bc Bs : Nat} {ins : Instr} {r : List Nat} (h : zz_al ins r Bc Bs pc L st cs cu su = some (pc', L', st', cs', cu', su')) : cu' ≤ Bc ∧ su' ≤ Bs := by
  cases ins with
  | new idx =>
    simp only [zz_al] at h
    split at h <;> try (cases h; done)
    split at h <;> try (cases h; done)
    split at h <;> try (cases h; done)
    rename_i hc
    cases h
    exact ⟨hc.1, hc.2.1⟩
  | newarray idx =>
    simp only [zz_al] at h
    split at h <;> try (cases h; done)
    split at h <;> try (cases h; done)
    rename_i hc
    cases h
    exact ⟨hc.2.2.1, hc.2.2.2.1⟩
  | anewarray idx =>
    simp only [zz_al] at h
    split at h <;> try (cases h; done)
    split at h <;> try (cases h; done)
    split at h <;> try (cases h; done)
    rename_i hc
    cases h
    exact ⟨hc.2.2.1, hc.2.2.2.1⟩
  | multianewarray idx dims =>
    simp only [zz_al] at h
    split at h <;> try (cases h; done)
    split at h <;> try (cases h; done)
    split at h <;> try (cases h; done)
    rename_i hc
    cases h
    exact ⟨by have := hc.2.2.2.2.2.2.1; omega, by have := hc.2.2.2.2.2.2.2.1; omega⟩
  | _ => exact absurd (show (none : zz_O3) = some _ from h) (by simp)
/-- one step -/
theorem zz_step (X : zz_X g p R s m meth c mi) {en : zz_I} (hB : cu ≤ R.cells ∧ su ≤ R.slots) (hf : zz_fetch mi.2.2.2.2.2.2.2.2 pc = some en) (h : zz_one mi.2.2.2.2.2.2.1 en (pc, L, st, cs, cu, su) = some (pc', L', st', cs', cu', su'))
    (kk : cu' ≤ R.cells ∧ su' ≤ R.slots → zz_Z g c0 p l e R s m args below meth c Q mi.2.2.1 pc' L' st' cs' cu' su') : zz_Z g c0 p l e R s m args below meth c Q mi.2.2.1 pc L st cs cu su := by
  obtain ⟨hx, hb, hml, hown, hT, hK, hnm, rfl, hcd⟩ := X
  obtain ⟨-, hd, hlen, t1, t2, t3, -⟩ := zz_chk_of hcd hf
  simp only [zz_one] at h
  split at h
  · rename_i h1
    cases h
    exact zz_da_ok hx hb hd hlen h1 (kk hB)
  · split at h
    · rename_i h1
      cases h
      exact zz_db_ok hx hb hown hT hK hd hlen hnm t1 h1 (kk hB)
    · split at h
      · rename_i h1
        cases h
        exact zz_al_ok hx hb hown hT hK hd hlen t2 h1 (kk (zz_al_le h1))
      · split at h
        · rename_i h1
          cases h
          exact zz_na_ok hx hb hml hown hT hK hB hd hlen t3 h1 (kk hB)
        · cases h
theorem zz_rc_ok {n ci : Nat} (h : zz_rc n st cs = some ci) : ∃ i fs, st[n]? = some (.ref i) ∧ zz_cell cs i = some (.inr (.inr (ci, fs))) := by
  unfold zz_rc at h
  split at h
  · rename_i i hi
    split at h
    · rename_i cj fs hc
      cases h
      exact ⟨i, fs, hi, hc⟩
    · cases h
  · cases h
theorem zz_takeI {n : Nat} {v : Value} (h : st[n]? = some v) : st = st.take n ++ v :: st.drop (n + 1) ∧ (st.take (n + 1)).reverse = v :: (st.take n).reverse := by
  have hl : n < st.length := (List.getElem?_eq_some_iff.mp h).1
  have h2 : st[n] = v := (List.getElem?_eq_some_iff.mp h).2
  refine ⟨?_, ?_⟩
  · rw [← h2, List.getElem_cons_drop, List.take_append_drop]
  · rw [List.take_succ, h, Option.toList_some, List.reverse_append]
    rfl
theorem zz_cls {ci i : Nat} {fs : List Value} {H : Heap} {locs : List Loc} (hR : zz_R g s c0 cs H locs) (hi : zz_cell cs i = some (.inr (.inr (ci, fs)))) : ∃ q, classes[ci]? = some q := by
  obtain ⟨r, h1, -⟩ := (hR.1.2 i _ (zz_cell_eq hi)).2
  exact ⟨r, h1⟩
/-- a call of a method of the system, by its contract -/
theorem zz_call (X : zz_X g p R s m meth c mi) {en : zz_I} {mk : zz_Mi} (hf : zz_fetch mi.2.2.2.2.2.2.2.2 pc = some en) (hc : zz_ca en.2.1 en.2.2.2.1 st cs = some mk) (hlen : zz_cn mk ≤ st.length) (hsum : zz_ss (st.drop (zz_cn mk)) ≤ 8) (hBc : cu + mk.2.2.2.2.2.2.1.1 ≤ R.cells ∧ su + mk.2.2.2.2.2.2.1.2.1 ≤ R.slots) (hFr : mk.2.2.2.2.2.2.1.2.2.1 + 1 ≤ R.frames ∧ 8 + (mk.2.2.1 + 11) + mk.2.2.2.2.2.2.1.2.2.2 ≤ R.locals) {P : Option Value → zz_W → Prop} (hM : zz_Met l g mk (st.take (zz_cn mk)).reverse cs P)
    (kk : ∀ (v : Option Value) (cs' : zz_W), P v cs' → zz_Z g c0 p l e R s m args below meth c Q mi.2.2.1 (pc + 3) L (v.toList ++ st.drop (zz_cn mk)) cs' (cu + mk.2.2.2.2.2.2.1.1) (su + mk.2.2.2.2.2.2.1.2.1)) : zz_Z g c0 p l e R s m args below meth c Q mi.2.2.1 pc L st cs cu su := by
  intro hnL H locs ls hR hl
  obtain ⟨hx, hb, hml, hown, hT, hK, hnm, rfl, hcd⟩ := X
  obtain ⟨-, hd, hle, -, -, -, t4⟩ := zz_chk_of hcd hf
  obtain ⟨pc0, ins, len, r, v0⟩ := en
  dsimp only at hc hd hle t4
  have lenO : ∀ k : Nat, (k + 1 = 0 ∨ len = k + 1) → len = k + 1 := fun k q => q.resolve_left (by omega)
  have hls : ls.size = mi.2.2.1 := hl.1
  have fin : ∀ {st0 : List Value} {a : Array Value}, st0 = st.map (zz_tr g) → va_Run p l e (zz_rm mi.2.2.2.2.2.2.1) s m args below meth c H locs cu su mk.2.2.2.2.2.2.1.1 mk.2.2.2.2.2.2.1.2.1 (F0 m pc ls st0) ((st.drop (zz_cn mk)).map (zz_tr g)) (zz_Qc g cs P a) (fun q => g.1 < q) → W p l e (zz_rm mi.2.2.2.2.2.2.1) s m args below meth c H locs cu su Q (F0 m pc ls (st.map (zz_tr g))) := by
    intro st0 a h0 hrun
    subst h0
    exact zz_after hrun hR (fun v cs' H1 locs1 hP hR1 => kk v cs' hP hnL H1 locs1 ls hR1 hl)
  cases ins with
  | invokestatic idx =>
    cases lenO _ hle
    simp only [zz_ca] at hc
    split at hc <;> try (cases hc; done)
    · rename_i k w
      have hmok := zz_mok_all k mk hc
      have hcw := zz_mcw_all k mk hc
      simp only [zz_tc2, hc, Bool.and_eq_true] at t4
      obtain ⟨y, b, mL, ret, n, stt, ⟨mc, ms, fr, lo⟩, ⟨w0, w1, w2⟩, code⟩ := mk
      obtain ⟨t5, t6⟩ := t4
      try dsimp only at t5 t6
      subst t5
      exact fin (zz_split rfl).symm (zz_runS hx hb hml hown hT hK hcw hmok rfl hM t6 hd hFr hsum hBc (by rw [List.length_reverse, List.length_take]; exact Nat.min_eq_left hlen) hls hR)
    · rename_i k w
      have hmok := zz_mok_all k mk hc
      have hcw := zz_mcw_all k mk hc
      simp only [zz_tc2, hc, Bool.and_eq_true] at t4
      obtain ⟨y, b, mL, ret, n, stt, ⟨mc, ms, fr, lo⟩, ⟨w0, w1, w2⟩, code⟩ := mk
      obtain ⟨t5, t6⟩ := t4
      try dsimp only at t5 t6
      subst t5
      exact fin (zz_split rfl).symm (zz_runSN hx hb hml hown hT hK hcw hmok rfl hM t6 hd hFr hsum hBc (by rw [List.length_reverse, List.length_take]; exact Nat.min_eq_left hlen) hls hR)
  | invokespecial idx =>
    cases lenO _ hle
    simp only [zz_ca] at hc
    split at hc <;> try (cases hc; done)
    · split at hc <;> try (cases hc; done)
      rename_i mk' hmk
      split at hc <;> try (cases hc; done)
      rename_i cj hrc
      cases hc
      have hmok := zz_mok_all _ _ hmk
      have hcw := zz_mcw_all _ _ hmk
      obtain ⟨y, b, mL, ret, n, stt, ⟨mc, ms, fr, lo⟩, ⟨w0, w1, w2⟩, code⟩ := mk
      obtain ⟨i, fs, hi, hcell⟩ := zz_rc_ok hrc
      obtain ⟨hs1, hs2⟩ := zz_takeI hi
      simp only [zz_tc2, hmk] at t4
      simp only [Bool.and_eq_true, Bool.not_eq_true', decide_eq_true_eq, decide_eq_false_iff_not] at t4
      obtain ⟨t5, t6, t7, t8⟩ := t4
      try dsimp only at t5 t6 t7 t8
      subst t5
      have hM2 : zz_Met l g (y, b, mL, ret, n, false, (mc, ms, fr, lo), (w0, w1, w2), code) (.ref i :: (st.take n).reverse) cs P := by rw [← hs2]; exact hM
      refine fin (st0 := ((st.take n).reverse.map (zz_tr g)).reverse ++ .ref (zz_ad g i) :: (st.drop (n + 1)).map (zz_tr g)) ?_ (zz_runI hx hb hml hown hT hK hcw hmok rfl hM2 t7 t8 t6 hd hFr hsum hBc (by rw [List.length_reverse, List.length_take]; exact Nat.min_eq_left (by have z : n + 1 ≤ st.length := hlen; omega)) hls hR)
      rw [List.map_reverse, List.reverse_reverse]
      conv => rhs; rw [hs1]
      rw [List.map_append]
      rfl
    · split at hc <;> try (cases hc; done)
      rename_i mk' hmk
      split at hc <;> try (cases hc; done)
      rename_i cj hrc
      cases hc
      have hmok := zz_mok_all _ _ hmk
      have hcw := zz_mcw_all _ _ hmk
      obtain ⟨y, b, mL, ret, n, stt, ⟨mc, ms, fr, lo⟩, ⟨w0, w1, w2⟩, code⟩ := mk
      obtain ⟨i, fs, hi, hcell⟩ := zz_rc_ok hrc
      obtain ⟨hs1, hs2⟩ := zz_takeI hi
      simp only [zz_tc2, hmk] at t4
      simp only [Bool.and_eq_true, Bool.not_eq_true', decide_eq_true_eq, decide_eq_false_iff_not] at t4
      obtain ⟨t5, t6, t7, t8⟩ := t4
      try dsimp only at t5 t6 t7 t8
      subst t5
      have hM2 : zz_Met l g (y, b, mL, ret, n, false, (mc, ms, fr, lo), (w0, w1, w2), code) (.ref i :: (st.take n).reverse) cs P := by rw [← hs2]; exact hM
      refine fin (st0 := ((st.take n).reverse.map (zz_tr g)).reverse ++ .ref (zz_ad g i) :: (st.drop (n + 1)).map (zz_tr g)) ?_ (zz_runIN hx hb hml hown hT hK hcw hmok rfl hM2 t7 t8 t6 hd hFr hsum hBc (by rw [List.length_reverse, List.length_take]; exact Nat.min_eq_left (by have z : n + 1 ≤ st.length := hlen; omega)) hls hR)
      rw [List.map_reverse, List.reverse_reverse]
      conv => rhs; rw [hs1]
      rw [List.map_append]
      rfl
    · split at hc <;> try (cases hc; done)
      rename_i mk' hmk
      split at hc <;> try (cases hc; done)
      rename_i cj hrc
      cases hc
      have hmok := zz_mok_all _ _ hmk
      have hcw := zz_mcw_all _ _ hmk
      obtain ⟨y, b, mL, ret, n, stt, ⟨mc, ms, fr, lo⟩, ⟨w0, w1, w2⟩, code⟩ := mk
      obtain ⟨i, fs, hi, hcell⟩ := zz_rc_ok hrc
      obtain ⟨hs1, hs2⟩ := zz_takeI hi
      simp only [zz_tc2, hmk] at t4
      split at t4 <;> try (cases t4; done)
      simp only [Bool.and_eq_true, Bool.not_eq_true', decide_eq_true_eq, decide_eq_false_iff_not] at t4
      obtain ⟨t5, t6, t7, t8, t10, t9⟩ := t4
      try dsimp only at t5 t6 t7 t8 t10 t9
      subst t5
      have hM2 : zz_Met l g (y, b, mL, ret, n, false, (mc, ms, fr, lo), (w0, w1, w2), code) (.ref i :: (st.take n).reverse) cs P := by rw [← hs2]; exact hM
      refine fin (st0 := ((st.take n).reverse.map (zz_tr g)).reverse ++ .ref (zz_ad g i) :: (st.drop (n + 1)).map (zz_tr g)) ?_ (zz_runSU2 hx hb hml hown hT hK hcw hmok rfl hM2 t9 t6 t7 t8 t10 (zz_cls hR hcell).choose_spec hcell hd hFr hsum hBc (by rw [List.length_reverse, List.length_take]; exact Nat.min_eq_left (by have z : n + 1 ≤ st.length := hlen; omega)) hls hR)
      rw [List.map_reverse, List.reverse_reverse]
      conv => rhs; rw [hs1]
      rw [List.map_append]
      rfl
    · split at hc <;> try (cases hc; done)
      rename_i mk' hmk
      split at hc <;> try (cases hc; done)
      rename_i cj hrc
      cases hc
      have hmok := zz_mok_all _ _ hmk
      have hcw := zz_mcw_all _ _ hmk
      obtain ⟨y, b, mL, ret, n, stt, ⟨mc, ms, fr, lo⟩, ⟨w0, w1, w2⟩, code⟩ := mk
      obtain ⟨i, fs, hi, hcell⟩ := zz_rc_ok hrc
      obtain ⟨hs1, hs2⟩ := zz_takeI hi
      simp only [zz_tc2, hmk] at t4
      simp only [Bool.and_eq_true, Bool.not_eq_true', decide_eq_true_eq, decide_eq_false_iff_not] at t4
      obtain ⟨t5, t6, t7, t8, t9⟩ := t4
      try dsimp only at t5 t6 t7 t8 t9
      subst t5
      have hM2 : zz_Met l g (y, b, mL, ret, n, false, (mc, ms, fr, lo), (w0, w1, w2), code) (.ref i :: (st.take n).reverse) cs P := by rw [← hs2]; exact hM
      refine fin (st0 := ((st.take n).reverse.map (zz_tr g)).reverse ++ .ref (zz_ad g i) :: (st.drop (n + 1)).map (zz_tr g)) ?_ (zz_runSU hx hb hml hown hT hK hcw hmok rfl hM2 t9 t6 t7 t8 (zz_cls hR hcell).choose_spec hcell hd hFr hsum hBc (by rw [List.length_reverse, List.length_take]; exact Nat.min_eq_left (by have z : n + 1 ≤ st.length := hlen; omega)) hls hR)
      rw [List.map_reverse, List.reverse_reverse]
      conv => rhs; rw [hs1]
      rw [List.map_append]
      rfl
  | invokevirtual idx =>
    cases lenO _ hle
    simp only [zz_ca] at hc
    split at hc <;> try (cases hc; done)
    · split at hc <;> try (cases hc; done)
      rename_i mk' hmk
      split at hc <;> try (cases hc; done)
      rename_i cj hrc
      split at hc <;> try (cases hc; done)
      rename_i hcj
      cases hc
      have hmok := zz_mok_all _ _ hmk
      have hcw := zz_mcw_all _ _ hmk
      obtain ⟨y, b, mL, ret, n, stt, ⟨mc, ms, fr, lo⟩, ⟨w0, w1, w2⟩, code⟩ := mk
      obtain ⟨i, fs, hi, hcell⟩ := zz_rc_ok hrc
      obtain ⟨hs1, hs2⟩ := zz_takeI hi
      subst hcj
      simp only [zz_tc2, hmk] at t4
      split at t4 <;> try (cases t4; done)
      rename_i q hq
      simp only [Bool.and_eq_true, Bool.not_eq_true', decide_eq_true_eq, decide_eq_false_iff_not] at t4
      obtain ⟨t5, t6, t7, t8⟩ := t4
      try dsimp only at t5 t6 t7 t8
      subst t5
      have hM2 : zz_Met l g (y, b, mL, ret, n, false, (mc, ms, fr, lo), (w0, w1, w2), code) (.ref i :: (st.take n).reverse) cs P := by rw [← hs2]; exact hM
      refine fin (st0 := ((st.take n).reverse.map (zz_tr g)).reverse ++ .ref (zz_ad g i) :: (st.drop (n + 1)).map (zz_tr g)) ?_ (zz_runV hx hb hml hown hT hK hcw hmok rfl hM2 t6 t7 hq hcell t8 hd hFr hsum hBc (by rw [List.length_reverse, List.length_take]; exact Nat.min_eq_left (by have z : n + 1 ≤ st.length := hlen; omega)) hls hR)
      rw [List.map_reverse, List.reverse_reverse]
      conv => rhs; rw [hs1]
      rw [List.map_append]
      rfl
    · split at hc <;> try (cases hc; done)
      rename_i mk' hmk
      split at hc <;> try (cases hc; done)
      rename_i cj hrc
      split at hc <;> try (cases hc; done)
      rename_i hcj
      cases hc
      have hmok := zz_mok_all _ _ hmk
      have hcw := zz_mcw_all _ _ hmk
      obtain ⟨y, b, mL, ret, n, stt, ⟨mc, ms, fr, lo⟩, ⟨w0, w1, w2⟩, code⟩ := mk
      obtain ⟨i, fs, hi, hcell⟩ := zz_rc_ok hrc
      obtain ⟨hs1, hs2⟩ := zz_takeI hi
      subst hcj
      simp only [zz_tc2, hmk] at t4
      split at t4 <;> try (cases t4; done)
      rename_i q hq
      simp only [Bool.and_eq_true, Bool.not_eq_true', decide_eq_true_eq, decide_eq_false_iff_not] at t4
      obtain ⟨t5, t6, t7, t8⟩ := t4
      try dsimp only at t5 t6 t7 t8
      subst t5
      have hM2 : zz_Met l g (y, b, mL, ret, n, false, (mc, ms, fr, lo), (w0, w1, w2), code) (.ref i :: (st.take n).reverse) cs P := by rw [← hs2]; exact hM
      refine fin (st0 := ((st.take n).reverse.map (zz_tr g)).reverse ++ .ref (zz_ad g i) :: (st.drop (n + 1)).map (zz_tr g)) ?_ (zz_runVN hx hb hml hown hT hK hcw hmok rfl hM2 t6 t7 hq hcell t8 hd hFr hsum hBc (by rw [List.length_reverse, List.length_take]; exact Nat.min_eq_left (by have z : n + 1 ≤ st.length := hlen; omega)) hls hR)
      rw [List.map_reverse, List.reverse_reverse]
      conv => rhs; rw [hs1]
      rw [List.map_append]
      rfl
    · split at hc <;> try (cases hc; done)
      rename_i mx hmx
      split at hc <;> try (cases hc; done)
      rename_i cj hrc
      split at hc <;> try (cases hc; done)
      rename_i k' wsel halt
      split at hc <;> try (cases hc; done)
      rename_i mk' hmk
      split at hc <;> try (cases hc; done)
      rename_i hnn
      cases hc
      have hmok := zz_mok_all _ _ hmk
      have hcw := zz_mcw_all _ _ hmk
      have hmokx := zz_mok_all _ _ hmx
      have hcwx := zz_mcw_all _ _ hmx
      simp only [zz_tc2, hmx, Bool.and_eq_true, Bool.not_eq_true'] at t4
      obtain ⟨u1, u2, u3, u4⟩ := t4
      obtain ⟨q, mi2, hq, hmi2, hst2, hsel⟩ := zz_alts_ok u4 halt
      cases hmk.symm.trans hmi2
      obtain ⟨y, b, mL, ret, n, stt, ⟨mc, ms, fr, lo⟩, ⟨w0, w1, w2⟩, code⟩ := mk
      obtain ⟨yx, bx, mLx, retx, nx, sttx, ⟨mcx, msx, frx, lox⟩, ⟨w0x, w1x, w2x⟩, codex⟩ := mx
      try dsimp only at u1 u2 u3 hst2 hnn hsel hrc
      subst u1
      subst hst2
      subst hnn
      simp only [zz_mok, Bool.and_eq_true, decide_eq_true_eq, zz_nm, Bool.not_eq_true', decide_eq_false_iff_not] at hmokx
      obtain ⟨-, x3, x4, -, x7⟩ := hmokx
      obtain ⟨i, fs, hi, hcell⟩ := zz_rc_ok hrc
      obtain ⟨hs1, hs2⟩ := zz_takeI hi
      have hM2 : zz_Met l g (y, b, mL, ret, n, false, (mc, ms, fr, lo), (w0, w1, w2), code) (.ref i :: (st.take n).reverse) cs P := by rw [← hs2]; exact hM
      refine fin (st0 := ((st.take n).reverse.map (zz_tr g)).reverse ++ .ref (zz_ad g i) :: (st.drop (n + 1)).map (zz_tr g)) ?_ (zz_runU hx hb hml hown hT hK hcw hmok rfl hM2 (x := yx) (owner := yx.cls) (ob := bx) (oL := mLx) (oret := retx) x7 x4 u2 u3 x3 (hT _ (List.mem_of_getElem? hcwx) rfl args) hq hcell hsel hd hFr hsum hBc (by rw [List.length_reverse, List.length_take]; exact Nat.min_eq_left (by have z : n + 1 ≤ st.length := hlen; omega)) hls hR)
      rw [List.map_reverse, List.reverse_reverse]
      conv => rhs; rw [hs1]
      rw [List.map_append]
      rfl
  | _ => exact absurd (show (none : Option zz_Mi) = some _ from hc) (by simp)
/-- what a walk to the end gives -/
def zz_Q1 (g : zz_G) (c0 : zz_W) (below : List Frame) (args : Array Value) (s : State) (mi : zz_Mi) (P : Option Value → zz_W → Prop) : State → Prop := MQ below (zz_Qc g c0 P) args s mi.2.2.2.2.2.2.1.1 mi.2.2.2.2.2.2.1.2.1 (fun q => g.1 < q)
theorem zz_end (X : zz_X g p R s m meth c mi) (hr : meth.sig.returnType = mi.2.2.2.1) (hlk : meth.locks = false) {en : zz_I} {v : Option Value} {P : Option Value → zz_W → Prop} (hP : P v cs) (hB : cu ≤ mi.2.2.2.2.2.2.1.1 ∧ su ≤ mi.2.2.2.2.2.2.1.2.1) (hf : zz_fetch mi.2.2.2.2.2.2.2.2 pc = some en) (h : zz_rt1 en.2.1 mi.2.2.2.1 st = some v) : zz_Z g c0 p l e R s m args below meth c (zz_Q1 g c0 below args s mi P) mi.2.2.1 pc L st cs cu su := by
  intro hnL H locs ls hR hl
  obtain ⟨hx, hb, hml, hown, hT, hK, hnm, rfl, hcd⟩ := X
  obtain ⟨-, hd, hle, -, -, -, -⟩ := zz_chk_of hcd hf
  obtain ⟨pc0, ins, len, r, v0⟩ := en
  dsimp only at h hd hle
  have lenO : ∀ k : Nat, (k + 1 = 0 ∨ len = k + 1) → len = k + 1 := fun k q => q.resolve_left (by omega)
  have hq : ∀ t : State, t.heap = H → s.WarmedH t.vm → zz_Qc g c0 P args s (.returned (v.map (zz_tr g))) t := fun t ht _ => ⟨v, cs, rfl, hP, by rw [ht]; exact hR.1, by rw [ht]; exact hR.2.1, fun q hq => by rw [ht]; exact hR.2.2.1 q hq, fun i hi => by rw [ht]; exact hR.2.2.2.2 i hi⟩
  refine W.widen hB.1 hB.2 ?_
  cases ins with
  | ireturn =>
    cases lenO _ hle
    simp only [zz_rt1] at h
    split at h <;> try (cases h; done)
    split at h <;> try (cases h; done)
    · rename_i hret
      cases h
      rw [hret] at hr
      exact W.iret hx hb hr hq hR.2.2.2.1 hd hlk
    · rename_i hret
      split at h <;> try (cases h; done)
      rename_i hv
      cases h
      rw [hret] at hr
      exact W.zret hx hb hr (by rcases hv with rfl | rfl <;> rfl) hq hR.2.2.2.1 hd hlk
  | lreturn =>
    cases lenO _ hle
    simp only [zz_rt1] at h
    split at h <;> try (cases h; done)
    split at h <;> try (cases h; done)
    rename_i hret
    cases h
    rw [hret] at hr
    exact W.lret hx hb hr hq hR.2.2.2.1 hd hlk
  | return_ =>
    cases lenO _ hle
    simp only [zz_rt1] at h
    split at h <;> try (cases h; done)
    split at h <;> try (cases h; done)
    rename_i hret
    cases h
    rw [hret] at hr
    exact W.vret hx hb hr hq hR.2.2.2.1 hd hlk
  | _ => exact absurd (show (none : Option (Option Value)) = some _ from h) (by simp)
end ZZ5
