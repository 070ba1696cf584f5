/-! what is made, and the members that the kit knows -/
theorem zz_getD_rep {α : Type} (n : Nat) (a : α) (j : Nat) : (List.replicate n a).getD j a = a := by
  rw [List.getD_eq_getElem?_getD, List.getElem?_replicate]
  split <;> rfl
section ZZ4
variable {g : zz_G} {p : Program} {l : Launch} {e : Env} {R : Room} {s : State} {m : MethodId} {args : Array Value} {below : List Frame} {meth : Method} {c : Code} {Q : State → Prop} {cc : ByteArray} {nL pc pc' n cu su cu' su' d : Nat} {L L' : List (Option Value)} {st st' : List Value} {c0 cs cs' : zz_W}
theorem zz_outer (c : ClassId) (N h0 : Nat) : ∀ i : Nat, Jvm.Free.Multi.outerC c N h0 i = arrV c N (fun j => va_rf (if j < i then some (h0 + 1 + j) else none))
  | 0 => by
    show ({ cls := c, slots := Array.replicate N .null, vm := .none } : Cell) = _
    rw [arrV_new]
    refine congrArg (arrV c N) (funext fun j => ?_)
    simp [va_rf]
  | i + 1 => by
    show (Jvm.Free.Multi.outerC c N h0 i).setSlot i (.ref (h0 + 1 + i)) = _
    rw [zz_outer c N h0 i, arrV_store]
    refine congrArg (arrV c N) (funext fun j => ?_)
    by_cases e : j = i
    · subst e
      simp [updV, va_rf]
    · by_cases h : j < i
      · simp [updV, e, h, Nat.lt_succ_of_lt h]
      · simp [updV, e, h, show ¬ j < i + 1 by omega]
theorem zz_R.pushes {g : zz_G} {s : State} {b0 cs add : zz_W} {H H1 : Heap} {locs : List Loc} (h : zz_R g s b0 cs H locs) (h0 : 0 < cs.length) (hz : H1.size = H.size + add.length) (hq : ∀ q, q < H.size → H1[q]? = H[q]?) (hc : ∀ (i : Nat) (c : zz_C), add[i]? = some (some c) → zz_at g (cs.length + i) c H1) : zz_R g s b0 (cs ++ add) H1 locs := by
  obtain ⟨h1, h2, h3, h4, h8⟩ := h
  have hsz := h1.1
  refine ⟨⟨by rw [hz, List.length_append, hsz]; omega, fun j d hj => ?_⟩, by omega, fun q hq1 => (hq q (by omega)).trans (h3 q hq1), h4, fun j hj => ?_⟩
  · by_cases hl : j < cs.length
    · rw [List.getElem?_append_left hl] at hj
      obtain ⟨h5, h6⟩ := h1.2 j d hj
      exact ⟨h5, h6.kept (hq _ (by rw [zz_ad_pos g h5]; omega))⟩
    · rw [List.getElem?_append_right (by omega)] at hj
      have h5 := hc _ d hj
      rw [show cs.length + (j - cs.length) = j by omega] at h5
      exact ⟨by omega, h5⟩
  · obtain ⟨h6, h7⟩ := h8 j hj
    have hl : j < cs.length := (List.getElem?_eq_some_iff.mp h6).1
    exact ⟨by rw [List.getElem?_append_left hl]; exact h6, (hq _ (by omega)).trans h7⟩
theorem zz_dv_tr (g : zz_G) (q : vw_C) {j : Nat} (hj : j < q.2.2) : vp_V ((zz_dv q).map (zz_tr g)) j = defaultValue (zz_ft q j) := by
  unfold vp_V zz_dv
  rw [List.getD_eq_getElem?_getD, List.map_map, List.getElem?_map, List.getElem?_range hj]
  show zz_tr g (defaultValue (zz_ft q j)) = _
  cases zz_ft q j <;> rfl
set_option maxHeartbeats 4000000 in
theorem zz_al_ok (hx : p.tables.exec = Jvm.exec) (hb : c.code = cc) {own : String} (hown : s.vm.findClass own = some m.cls) (hT : zz_ok s) (hK : zz_K g s) {ins : Instr} {len : Nat} {r : List Nat} (hd : decode cc pc = .ok (ins, len)) (hlen : zz_len ins = 0 ∨ len = zz_len ins) (htb : zz_at3 own ins r = true) (h : zz_al ins r R.cells R.slots pc L st cs cu su = some (pc', L', st', cs', cu', su'))
    (kk : zz_Z g c0 p l e R s m args below meth c Q nL pc' L' st' cs' cu' su') : zz_Z g c0 p l e R s m args below meth c Q nL pc L st cs cu su := by
  intro hnL H locs ls hR hl
  have lenO : ∀ k : Nat, (k + 1 = 0 ∨ len = k + 1) → len = k + 1 := fun k q => q.resolve_left (by omega)
  cases ins with
  | new idx =>
    cases lenO _ hlen
    simp only [zz_al] at h
    split at h <;> try (cases h; done)
    split at h <;> try (cases h; done)
    split at h <;> try (cases h; done)
    rename_i ci w1 w2 w3 _ q hq hc
    cases h
    simp only [zz_at3, hq, Bool.and_eq_true] at htb
    have hKn := hK.1 ci q hq
    have had : zz_ad g cs.length = H.size := by rw [zz_ad_pos g hc.2.2]; exact hR.1.1.symm
    refine W.newcK hx hb hown (zz_wd_ok htb.1 hT args) (zz_wd_ok htb.2.1 hT args) (zz_wd_ok htb.2.2 hT args) rfl hd hc.1 hc.2.1 hKn.2.1 rfl fun H1 kC hkC e1 z1 o1 => ?_
    have k1 := kk hnL H1 locs ls (hR.push hc.2.2 z1 o1 ⟨q, hq, by
      rw [had]
      exact (u_born (zz_ft q) (zz_cts (zz_cok_all ci q hq) hT args) (fun _ h => h) hKn hkC e1 (fun k hk => zz_fty (zz_cok_all ci q hq) hk)).to (fun j hj => (zz_dv_tr g q hj).symm)⟩) hl
    have e2 : zz_tr g (.ref cs.length) = .ref H.size := by show Value.ref (zz_ad g cs.length) = _; rw [had]
    rw [List.map_cons, e2] at k1
    exact k1
  | newarray aty =>
    cases lenO _ hlen
    simp only [zz_al] at h
    split at h <;> try (cases h; done)
    split at h <;> try (cases h; done)
    rename_i n rest hc
    cases h
    obtain ⟨hn, hN, hc1, hc2, h0⟩ := hc
    simp only [zz_at3] at htb
    split at htb <;> try (cases htb; done)
    simp only [Bool.and_eq_true, decide_eq_true_eq] at htb
    obtain ⟨rfl, hw⟩ := htb
    have had : zz_ad g cs.length = H.size := by rw [zz_ad_pos g h0]; exact hR.1.1.symm
    refine va_newaK (atype := .int) hx hb (zz_wd_ok hw hT args) rfl hd rfl hn rfl (by show n.toNatClampNeg * 4 ≤ 536870912; omega) hc1 hc2 rfl fun H1 cA e1 z1 o1 hAr hNm => ?_
    have hcA : cA = g.2.2.1 0 := Option.some.inj (hNm.symm.trans (hK.2 0 .int zz_ty0).2)
    subst hcA
    have k1 := kk hnL H1 locs ls (hR.push (c := .inl (List.replicate n.toNatClampNeg 0)) h0 z1 o1 (by
      show H1[zz_ad g cs.length]? = _
      rw [had, e1, List.length_replicate]
      congr 2
      funext j
      rw [zz_getD_rep]
      rfl)) hl
    have e2 : zz_tr g (.ref cs.length) = .ref H.size := by show Value.ref (zz_ad g cs.length) = _; rw [had]
    rw [List.map_cons, e2] at k1
    exact k1
  | anewarray idx =>
    cases lenO _ hlen
    simp only [zz_al] at h
    split at h <;> try (cases h; done)
    split at h <;> try (cases h; done)
    split at h <;> try (cases h; done)
    rename_i t w1 w2 _ n rest hc
    cases h
    obtain ⟨hn, hN, hc1, hc2, h0⟩ := hc
    simp only [zz_at3] at htb
    split at htb <;> try (cases htb; done)
    rename_i C hC
    simp only [Bool.and_eq_true] at htb
    have had : zz_ad g cs.length = H.size := by rw [zz_ad_pos g h0]; exact hR.1.1.symm
    refine W.anew hx hb hown (zz_wd_ok htb.1 hT args) (zz_wd_ok htb.2 hT args) rfl hd rfl hn (by omega) hc1 hc2 fun cA kA comp f1 f2 f3 f4 => ?_
    obtain ⟨kA', comp', k1, k2, k3, k4⟩ := (hK.2 t _ hC).2
    have hcA : cA = g.2.2.1 t := Option.some.inj (f1.symm.trans k4)
    subst hcA
    generalize hH1 : H.push ({ cls := g.2.2.1 t, slots := Array.replicate n.toNatClampNeg .null, vm := .none } : Cell) = H1
    have z1 : H1.size = H.size + 1 := by rw [← hH1, Array.size_push]
    have e1 : H1[H.size]? = some (arrV (g.2.2.1 t) n.toNatClampNeg (fun _ => .null)) := by rw [← hH1, Array.getElem?_push_size, ← arrV_new]
    have o1 : ∀ q : Nat, q < H.size → H1[q]? = H[q]? := fun q hq => by rw [← hH1, Array.getElem?_push, if_neg (Nat.ne_of_lt hq)]
    have k1 := kk hnL H1 locs ls (hR.push (c := .inr (.inl (t, List.replicate n.toNatClampNeg none))) h0 z1 o1 (by
      show H1[zz_ad g cs.length]? = _
      rw [had, e1, List.length_replicate]
      congr 2
      funext j
      rw [zz_getD_rep]
      rfl)) hl
    have e2 : zz_tr g (.ref cs.length) = .ref H.size := by show Value.ref (zz_ad g cs.length) = _; rw [had]
    rw [List.map_cons, e2] at k1
    exact k1
  | multianewarray idx dims =>
    cases lenO _ hlen
    simp only [zz_al] at h
    split at h <;> try (cases h; done)
    split at h <;> try (cases h; done)
    split at h <;> try (cases h; done)
    rename_i t w1 w2 w3 _ k n rest hc
    cases h
    obtain ⟨rfl, hty, hn, hk, hN, hK2, hc1, hc2, h0⟩ := hc
    simp only [zz_at3, Bool.and_eq_true] at htb
    have had : zz_ad g cs.length = H.size := by rw [zz_ad_pos g h0]; exact hR.1.1.symm
    intro T hTT X
    obtain ⟨vm₁, cA, comp, -, fA, fC, -, -, X', step⟩ := X.multianewarray2F hx (ty := .int) hown (zz_wd_ok htb.1 hT args) (zz_wd_ok htb.2.1 hT args) (zz_wd_ok htb.2.2 hT args) (g := F0 m pc ls ((Value.int k :: .int n :: rest).map (zz_tr g))) rfl (by rw [hb]; exact hd) rfl hn hk (by omega) (by show k.toNatClampNeg * 4 ≤ 536870912; omega) (by omega) rfl rfl hc1 hc2
    have hcA : cA = g.2.2.1 t := Option.some.inj (fA.symm.trans (hK.2 t _ hty).2)
    have hcB : comp = g.2.2.1 0 := Option.some.inj (fC.symm.trans (hK.2 0 .int zz_ty0).2)
    subst hcA
    subst hcB
    generalize hF : Jvm.Free.Multi.fill (T.setVm vm₁) (g.2.2.1 t) (g.2.2.1 0) n.toNatClampNeg k.toNatClampNeg (defaultValue .int) n.toNatClampNeg = F at X' step
    have hTh : (T.setVm vm₁).heap = H := hTT
    obtain ⟨f1, f2, -, -⟩ := Jvm.Free.Multi.fill_facts (T.setVm vm₁) (g.2.2.1 t) (g.2.2.1 0) n.toNatClampNeg k.toNatClampNeg (defaultValue .int) n.toNatClampNeg
    rw [hF, hTh] at f1 f2
    have hold : ∀ x : Nat, x < H.size → F.heap[x]? = H[x]? := fun x hx => by
      have := Jvm.Free.Multi.fill_old (T.setVm vm₁) (g.2.2.1 t) (g.2.2.1 0) n.toNatClampNeg k.toNatClampNeg (defaultValue .int) (a := x) (by rw [hTh]; exact hx) n.toNatClampNeg
      rw [hF, hTh] at this
      exact this
    have hrow : ∀ j : Nat, j < n.toNatClampNeg → F.heap[H.size + 1 + j]? = some (Jvm.Free.Multi.innerC (g.2.2.1 0) k.toNatClampNeg (defaultValue .int)) := fun j hj => by
      have := Jvm.Free.Multi.fill_inner (T.setVm vm₁) (g.2.2.1 t) (g.2.2.1 0) n.toNatClampNeg k.toNatClampNeg (defaultValue .int) n.toNatClampNeg j hj
      rw [hF, hTh] at this
      exact this
    have k1 := kk hnL F.heap locs ls (hR.pushes (add := some (.inr (.inl (t, (List.range n.toNatClampNeg).map (fun i => some (cs.length + 1 + i))))) :: List.replicate n.toNatClampNeg (some (.inl (List.replicate k.toNatClampNeg 0)))) h0 (by rw [f1, List.length_cons, List.length_replicate]; omega) hold (fun i c hi => by
      match i, hi with
      | 0, hi =>
        cases hi
        show F.heap[zz_ad g cs.length]? = _
        rw [had, f2, zz_outer, List.length_map, List.length_range]
        congr 1
        unfold arrV
        congr 1
        refine congrArg Array.ofFn (funext fun j => ?_)
        have hj := j.isLt
        dsimp only
        rw [if_pos hj, List.getD_eq_getElem?_getD, List.getElem?_map, List.getElem?_range hj]
        show Value.ref (H.size + 1 + j.val) = Value.ref (zz_ad g (cs.length + 1 + j.val))
        rw [zz_ad_pos g (show 0 < cs.length + 1 + j.val by omega)]
        have hs := hR.1.1
        exact congrArg Value.ref (show (H.size + 1 + j.val : Nat) = g.1 + (cs.length + 1 + j.val) by omega)
      | i + 1, hi =>
        rw [List.getElem?_cons_succ, List.getElem?_replicate] at hi
        split at hi <;> try (cases hi; done)
        rename_i hin
        cases hi
        show F.heap[zz_ad g (cs.length + (i + 1))]? = _
        rw [zz_ad_pos g (show 0 < cs.length + (i + 1) by omega), show g.1 + (cs.length + (i + 1)) = H.size + 1 + i by rw [hR.1.1]; omega, hrow i hin, List.length_replicate]
        show some ({ cls := g.2.2.1 0, slots := Array.replicate k.toNatClampNeg (defaultValue .int), vm := .none } : Cell) = _
        rw [arrV_new]
        congr 2
        funext j
        rw [zz_getD_rep]
        rfl)) hl
    have e2 : zz_tr g (.ref cs.length) = .ref H.size := by show Value.ref (zz_ad g cs.length) = _; rw [had]
    rw [List.map_cons, e2] at k1
    obtain ⟨t1, a1, b1⟩ := k1 F rfl X'
    rw [← hTT] at a1
    exact ⟨t1, step t1 a1, b1⟩
  | _ => exact absurd (show (none : zz_O3) = some _ from h) (by simp)
theorem zz_getD_take {xs ys : List Int32} {n : Nat} (h1 : n ≤ xs.length) (h2 : n ≤ ys.length) (k : Nat) : (xs.take n ++ ys.drop n).getD k 0 = if k < n then xs.getD k 0 else ys.getD k 0 := by
  simp only [List.getD_eq_getElem?_getD]
  by_cases hk : k < n
  · rw [if_pos hk, List.getElem?_append_left (by rw [List.length_take]; omega), List.getElem?_take_of_lt hk]
  · rw [if_neg hk, List.getElem?_append_right (by rw [List.length_take]; omega), List.getElem?_drop, List.length_take]
    congr 2
    omega
set_option maxHeartbeats 4000000 in
theorem zz_copy (hx : p.tables.exec = Jvm.exec) (hb : c.code = cc) (hml : c.maxLocals = nL) {own : String} (hown : s.vm.findClass own = some m.cls) (hK : zz_K g s) {idx i j : Nat} (hlink : (Jvm.Cond.methodLink own idx arraycopyName).before args s = true) (hnat : (Jvm.Cond.native arraycopyName).before args s = true) (hstat : (Jvm.Cond.static arraycopyName).before args s = true) (hini : (Jvm.Cond.initialized "java/lang/System").before args s = true)
    {H : Heap} {locs : List Loc} {ls : Array Slot} {rest : List Value} {xs ys : List Int32} {n : Int32} (hR : zz_R g s c0 cs H locs) (hi : cs[i]? = some (some (.inl xs))) (hj : cs[j]? = some (some (.inl ys))) (hn : ¬ n < 0) (h4 : n.toNatClampNeg ≤ xs.length) (h5 : n.toNatClampNeg ≤ ys.length) (hls : ls.size = nL)
    (hframes : 1 ≤ R.frames) (hlocals : (rest.map fun v => v.category).sum + (nativeFrameWords "java/lang/System" "arraycopy" 5 + 11) ≤ R.locals) (hd : decode cc pc = .ok (.invokestatic idx, 3))
    (kk : ∀ (H1 : Heap) (locs1 : List Loc), zz_R g s c0 (cs.set j (some (.inl (xs.take n.toNatClampNeg ++ ys.drop n.toNatClampNeg)))) H1 locs1 → W p l e R s m args below meth c H1 locs1 cu su Q (F0 m (pc + 3) ls rest)) : W p l e R s m args below meth c H locs cu su Q (F0 m pc ls (.int n :: .int 0 :: .ref (zz_ad g j) :: .int 0 :: .ref (zz_ad g i) :: rest)) := by
  have nn : n.toInt = (n.toNatClampNeg : Int) := by
    have hz0 : (0 : Int) ≤ n.toInt := by
      have := Int32.not_lt.mp hn
      simpa using Int32.le_iff_toInt_le.mp this
    show n.toInt = ((n.toInt.toNat : Nat) : Int)
    omega
  intro T hT X
  have hc0 : H[zz_ad g i]? = some (vp_cell (g.2.2.1 0) (xs.length, .inl (fun k => xs.getD k 0))) := (hR.1.2 i _ hi).2
  have hc1 : H[zz_ad g j]? = some (vp_cell (g.2.2.1 0) (ys.length, .inl (fun k => ys.getD k 0))) := (hR.1.2 j _ hj).2
  obtain ⟨-, k0, hk0, cm0, hkk0⟩ := (hK.2 0 .int zz_ty0).1 xs.length (fun k => .int (xs.getD k 0))
  obtain ⟨-, k1, hk1, cm1, hkk1⟩ := (hK.2 0 .int zz_ty0).1 ys.length (fun k => .int (ys.getD k 0))
  have z0 : (0 : Int32).toNatClampNeg = 0 := rfl
  obtain ⟨vm', X', step⟩ := X.arraycopy hx hown hlink hnat hstat hini (src := zz_ad g i) (dst := zz_ad g j) (cs := vp_cell (g.2.2.1 0) (xs.length, .inl (fun k => xs.getD k 0))) (cd := vp_cell (g.2.2.1 0) (ys.length, .inl (fun k => ys.getD k 0))) (srcPos := 0) (destPos := 0) (n := n) (by rw [hT]; exact hc0) (by rw [hT]; exact hc1)
    (fun _ h => by cases h) (fun _ h => by cases h) (fun h => by cases h) (fun h => by cases h) hk0 hk1 hkk0 hkk1 (by simp [refKind]) (by decide) (by decide) hn
    (by show ¬ (0 : Int32).toInt + n.toInt > ((arrV (g.2.2.1 0) xs.length (fun k => .int (xs.getD k 0))).slots.size : Int); rw [arrV_size, nn]; have : (0 : Int32).toInt = 0 := rfl; omega)
    (by show ¬ (0 : Int32).toInt + n.toInt > ((arrV (g.2.2.1 0) ys.length (fun k => .int (ys.getD k 0))).slots.size : Int); rw [arrV_size, nn]; have : (0 : Int32).toInt = 0 := rfl; omega)
    (fun vm₁ _ k hk => by
      have e : (vp_cell (g.2.2.1 0) (xs.length, .inl (fun k => xs.getD k 0))).slots.getD ((0 : Int32).toNatClampNeg + k) .null = .int (xs.getD k 0) := by
        show (arrV (g.2.2.1 0) xs.length (fun k => .int (xs.getD k 0))).slots.getD _ _ = _
        rw [z0, Nat.zero_add, Array.getD_eq_getD_getElem?, arrV_read _ _ (by omega)]
        rfl
      rw [e]
      exact ⟨rfl, trivial⟩)
    (g := F0 m pc ls (.int n :: .int 0 :: .ref (zz_ad g j) :: .int 0 :: .ref (zz_ad g i) :: rest)) rfl (by rw [hml]; exact hls) (rest := rest) rfl (by rw [hb]; exact hd) hframes (by show 2 * 0 + _ + _ ≤ _; omega)
  have e1 : copied (vp_cell (g.2.2.1 0) (xs.length, .inl (fun k => xs.getD k 0))) (vp_cell (g.2.2.1 0) (ys.length, .inl (fun k => ys.getD k 0))) 0 0 n = vp_cell (g.2.2.1 0) (ys.length, .inl (va_cpy (fun k => xs.getD k 0) (fun k => ys.getD k 0) (0 : Int32).toNatClampNeg (0 : Int32).toNatClampNeg n.toNatClampNeg)) := va_copied (fun z => .int z) (g.2.2.1 0) (g.2.2.1 0) (fun k => xs.getD k 0) (fun k => ys.getD k 0) (by rw [z0]; omega)
  rw [e1] at X' step
  have hl : zz_ad g j < H.size := (Array.getElem?_eq_some_iff.mp hc1).1
  generalize hc2 : vp_cell (g.2.2.1 0) (ys.length, .inl (va_cpy (fun k => xs.getD k 0) (fun k => ys.getD k 0) (0 : Int32).toNatClampNeg (0 : Int32).toNatClampNeg n.toNatClampNeg)) = cell2 at X' step
  have hheap : ((T.setVm vm').setCell (zz_ad g j) cell2).heap = H.setIfInBounds (zz_ad g j) cell2 := by rw [← hT]; rfl
  have oq : ∀ q : Nat, q ≠ zz_ad g j → (H.setIfInBounds (zz_ad g j) cell2)[q]? = H[q]? := fun q hq => by simp [Array.getElem?_setIfInBounds, Ne.symm hq]
  obtain ⟨h1, h2, h3, h6, h9⟩ := hR
  have hp := (h1.2 j _ hj).1
  have ha := zz_ad_pos g hp
  obtain ⟨t, a1, b1⟩ := kk (H.setIfInBounds (zz_ad g j) cell2) _ ⟨h1.set hj (by simp) oq (by
      show (H.setIfInBounds (zz_ad g j) cell2)[zz_ad g j]? = _
      simp only [Array.getElem?_setIfInBounds, hl, if_true, ← hc2]
      have hlen : (xs.take n.toNatClampNeg ++ ys.drop n.toNatClampNeg).length = ys.length := by
        rw [List.length_append, List.length_take, List.length_drop]
        omega
      rw [hlen]
      rw [vp_cell_i]
      congr 2
      funext k
      rw [zz_getD_take h4 h5]
      simp only [va_cpy, z0, Nat.zero_le, true_and, Nat.zero_add, Nat.sub_zero]
      ), by simp; exact h2, fun q hq => (oq q (by omega)).trans (h3 q hq), fun q hq => by
      rcases List.mem_append.mp hq with h | h
      · exact h6 q h
      · obtain ⟨z, -, hz⟩ := List.mem_map.mp h
        rw [← hz]
        show g.1 < zz_ad g j
        omega, fun k hk => by
      obtain ⟨u1, u2⟩ := h9 k hk
      have hjk : j ≠ k := fun e => by
        subst e
        rw [hj] at u1
        cases u1
      exact ⟨by rw [List.getElem?_set_ne hjk]; exact u1, (oq _ (by omega)).trans u2⟩⟩ _ hheap X'
  exact ⟨t, step t a1, b1⟩
end ZZ4

