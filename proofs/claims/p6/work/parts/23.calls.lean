/-! things that are made, calls of members that the kit knows, calls of the system's own methods, returns -/
def zz_rm (q : Nat × Nat × Nat × Nat) : Room := { frames := q.2.2.1, cells := q.1, slots := q.2.1, locals := q.2.2.2 }
def zz_Pc (g : zz_G) (as : List Value) (cs : zz_W) : Array Value → State → Prop := fun v U => v = (as.map (zz_tr g)).toArray ∧ zz_P g cs U.heap ∧ zz_K g U ∧ zz_ok U
def zz_Qc (g : zz_G) (c0 : zz_W) (P : Option Value → zz_W → Prop) : Array Value → State → Outcome → State → Prop := fun _ st o t => ∃ (v : Option Value) (cs' : zz_W), o = .returned (v.map (zz_tr g)) ∧ P v cs' ∧ zz_P g cs' t.heap ∧ st.heap.size ≤ t.heap.size ∧ (∀ q : Nat, q ≤ g.1 → t.heap[q]? = st.heap[q]?) ∧ ∀ i : Nat, c0[i]? = some none → cs'[i]? = some none ∧ t.heap[g.1 + i]? = st.heap[g.1 + i]?
/-- a method's contract: it is called with 'as' over the cells cs -/
def zz_Met (l : Launch) (g : zz_G) (mi : zz_Mi) (as : List Value) (cs : zz_W) (P : Option Value → zz_W → Prop) : Prop :=
  Met l mi.1 [.code mi.1 mi.2.1 mi.2.2.1 mi.2.2.2.1] (zz_rm mi.2.2.2.2.2.2.1) (zz_Pc g as cs) (zz_Qc g cs P) mi.2.2.2.2.2.2.1.1 mi.2.2.2.2.2.2.1.2.1 (fun q => g.1 < q)
theorem zz_K.moved {g : zz_G} {u U : State} (hvm : u.vm.Alike U.vm) (h : zz_K g u) : zz_K g U := ⟨fun c q hq => u_Kn_moved hvm (h.1 c q hq), fun t ty ht => ⟨arrOfT_moved hvm (h.2 t ty ht).1, (h.2 t ty ht).2.moved hvm⟩⟩
theorem zz_blind (g : zz_G) (as : List Value) (cs : zz_W) : FrameBlind (zz_Pc g as cs) := fun _ U gf mk h => ⟨h.1, h.2.1, zz_K.moved (u := U) (U := U.calling gf mk _) (Vm.Alike.refl U.vm) h.2.2.1, zz_ok.warm (s := U) (U := U.calling gf mk _) (State.WarmedH.refl U) h.2.2.2⟩
theorem zz_ss_tr (g : zz_G) (st : List Value) : ((st.map (zz_tr g)).map fun v => v.category).sum = zz_ss st := by
  unfold zz_ss
  rw [List.map_map]
  congr 1
  exact List.map_congr_left fun v _ => zz_tr_cat g v
theorem zz_sub1 {s : State} {c d : ClassId} {k kd : Class} (hk : s.vm.classes[c]? = some k) (hs : k.super = some d) (hd : s.vm.classes[d]? = some kd) : s.vm.isSubclass c d = true := by
  have hl : d < s.vm.classes.size := (Array.getElem?_eq_some_iff.mp hd).1
  unfold Vm.isSubclass
  obtain ⟨n, hn⟩ : ∃ n : Nat, s.vm.classes.size = n + 1 := Nat.exists_eq_add_one_of_ne_zero (Nat.ne_of_gt (Nat.lt_of_le_of_lt (Nat.zero_le _) hl))
  rw [hn]
  simp [Vm.isSubclassAux, hk, hs]
section ZZ3
variable {g : zz_G} {p : Program} {l : Launch} {e : Env} {R : Room} {s : State} {m : MethodId} {args : Array Value} {below : List Frame} {meth : Method} {c : Code} {Q : State → Prop} {cc : ByteArray} {nL pc pc' n cu su : Nat} {L L' : List (Option Value)} {st st' : List Value} {c0 cs cs' : zz_W}
theorem zz_after {mc ms : Nat} {P : Option Value → zz_W → Prop} {H : Heap} {locs : List Loc} {ls : Array Slot} {st0 : List Value} {rest : List Value} {a : Array Value} (hrun : va_Run p l e R s m args below meth c H locs cu su mc ms (F0 m pc ls st0) (rest.map (zz_tr g)) (zz_Qc g cs P a) (fun q => g.1 < q)) (hR : zz_R g s c0 cs H locs)
    (kk : ∀ (v : Option Value) (cs' : zz_W) (H1 : Heap) (locs1 : List Loc), P v cs' → zz_R g s c0 cs' H1 locs1 → W p l e R s m args below meth c H1 locs1 (cu + mc) (su + ms) Q (F0 m (pc + 3) ls ((v.toList ++ rest).map (zz_tr g)))) : W p l e R s m args below meth c H locs cu su Q (F0 m pc ls st0) := by
  intro T hT X
  obtain ⟨v', st₀, t, T', Lx, h0, X', hL, e1, e2, ⟨v, cs', hv, hP, hPP, hsz, hfr, hun⟩, go⟩ := hrun T hT X
  cases hv
  obtain ⟨t2, a1, b1⟩ := kk v cs' t.heap (locs ++ Lx) hP ⟨hPP, by rw [h0] at hsz; exact Nat.le_trans hR.2.1 hsz, fun q hq => by rw [hfr q hq, h0]; exact hR.2.2.1 q hq, fun q hq => (List.mem_append.mp hq).elim (hR.2.2.2.1 q) (hL q), fun i hi => by
    obtain ⟨u1, u2⟩ := hR.2.2.2.2 i hi
    obtain ⟨u3, u4⟩ := hun i u1
    exact ⟨u3, by rw [u4, h0]; exact u2⟩⟩ T' e1 X'
  refine ⟨t2, go t2 ?_, b1⟩
  have e3 : (v.toList ++ rest).map (zz_tr g) = (v.map (zz_tr g)).toList ++ rest.map (zz_tr g) := by cases v <;> rfl
  rw [e3] at a1
  exact a1
theorem zz_split {n : Nat} {rest : List Value} (h : st.drop n = rest) : st.map (zz_tr g) = (((st.take n).reverse).map (zz_tr g)).reverse ++ rest.map (zz_tr g) := by
  rw [List.map_reverse, List.reverse_reverse, ← h, ← List.map_append, List.take_append_drop]
theorem zz_lenas {n : Nat} (h : n ≤ st.length) : (((st.take n).reverse).map (zz_tr g)).length = n := by
  rw [List.length_map, List.length_reverse, List.length_take]
  omega
theorem zz_pc {as : List Value} (hK : zz_K g s) (hT : zz_ok s) {H : Heap} {locs : List Loc} (hR : zz_R g s c0 cs H locs) (U : State) (hU : U.heap = H) (hW : s.WarmedH U.vm) : zz_Pc g as cs (as.map (zz_tr g)).toArray U := ⟨rfl, by rw [hU]; exact hR.1, zz_K.moved hW.alike hK, zz_ok.warm hW hT⟩
variable {y : MethodName} {b : ByteArray} {mL mc ms fr lo w0 w1 w2 idx w w' i ci : Nat} {ret : Option FieldType} {stt : Bool} {code : List (List zz_I)} {own : String} {H : Heap} {locs : List Loc} {ls : Array Slot} {as rest : List Value} {P : Option Value → zz_W → Prop}
/-- what every call of a method of the system asks -/
def zz_cb (R : Room) (s : State) (args : Array Value) (y : MethodName) (b : ByteArray) (mL : Nat) (ret : Option FieldType) (mc ms fr lo n : Nat) : Prop :=
  ((zz_rm (mc, ms, fr, lo)).cells = mc ∧ (zz_rm (mc, ms, fr, lo)).slots = ms ∧ (zz_rm (mc, ms, fr, lo)).frames + 1 ≤ R.frames ∧ 8 + (mL + 11) + (zz_rm (mc, ms, fr, lo)).locals ≤ R.locals ∧ (∀ w ∈ [Jvm.Cond.code y b mL ret], ∀ (a' : Array Value) (U : State), s.WarmedH U.vm → w.before a' U = true) ∧ Jvm.Cond.code y b mL ret ∈ [Jvm.Cond.code y b mL ret]) ∧
  (Jvm.Cond.code y b mL ret).before args s = true ∧ (Jvm.Cond.initialized y.cls).before args s = true ∧ (y.cls ≠ "java/lang/invoke/MethodHandle" ∧ y.cls ≠ "java/lang/invoke/VarHandle") ∧ (∀ sig, parseMethodDescriptor y.desc = some sig → n = sig.parameters.length)
theorem zz_cb_of (hT : zz_ok s) (hcw : zz_mcw (y, b, mL, ret, n, stt, (mc, ms, fr, lo), (w0, w1, w2), code)) (h : zz_mok (y, b, mL, ret, n, stt, (mc, ms, fr, lo), (w0, w1, w2), code) = true) (hR : fr + 1 ≤ R.frames ∧ 8 + (mL + 11) + lo ≤ R.locals) : zz_cb R s args y b mL ret mc ms fr lo n ∧ (stt = false → (Jvm.Cond.instanceMethod y).before args s = true) ∧ (stt = true → (Jvm.Cond.static y).before args s = true) := by
  simp only [zz_mok, Bool.and_eq_true, decide_eq_true_eq, zz_nm, Bool.not_eq_true', decide_eq_false_iff_not] at h
  obtain ⟨h2, h3, h4, h5, h7⟩ := h
  have h1 : ∀ U : State, zz_ok U → ∀ a : Array Value, (Jvm.Cond.code y b mL ret).before a U = true := fun U hU a => hU _ (List.mem_of_getElem? hcw) rfl a
  refine ⟨⟨⟨rfl, rfl, hR.1, hR.2, ?_, List.mem_singleton.mpr rfl⟩, h1 s hT args, zz_wd_ok h2 hT args, h4, ?_⟩, ?_, ?_⟩
  · intro w hw a' U hW
    rw [List.mem_singleton.mp hw]
    exact h1 U (hT.warm hW) a'
  · intro sig hs
    rw [hs] at h7
    exact (Option.some.inj h7).symm
  · intro q
    subst q
    exact zz_wd_ok h3 hT args
  · intro q
    subst q
    exact zz_wd_ok h3 hT args
theorem zz_recv {fs : List Value} {q : vw_C} (hK : zz_K g s) (hR : zz_R g s c0 cs H locs) (hq : classes[ci]? = some q) (hi : zz_cell cs i = some (.inr (.inr (ci, fs)))) : ∃ cell : Cell, H[zz_ad g i]? = some cell ∧ cell.vm.isStatics = false ∧ s.vm.findClass q.1 = some cell.cls := by
  obtain ⟨r, h1, cell, q1, q2, q3, q4⟩ := (hR.1.2 i _ (zz_cell_eq hi)).2
  cases hq.symm.trans h1
  exact ⟨cell, q1, by rw [q3]; rfl, by rw [q2]; exact (hK.1 ci q hq).2.1⟩
theorem zz_runV (hx : p.tables.exec = Jvm.exec) (hb : c.code = cc) (hml : c.maxLocals = nL) (hown : s.vm.findClass own = some m.cls) (hT : zz_ok s) (hK : zz_K g s) (hcw : zz_mcw (y, b, mL, ret, n, stt, (mc, ms, fr, lo), (w0, w1, w2), code)) (hmok : zz_mok (y, b, mL, ret, n, stt, (mc, ms, fr, lo), (w0, w1, w2), code) = true) (hstt : stt = false) (hM : zz_Met l g (y, b, mL, ret, n, stt, (mc, ms, fr, lo), (w0, w1, w2), code) (.ref i :: as) cs P) (hlink : zz_wd w (.methodLink own idx y) = true) (hsel : zz_wd w' (.selects y.cls y y) = true) {fs : List Value} {q : vw_C} (hq : classes[ci]? = some q) (hi : zz_cell cs i = some (.inr (.inr (ci, fs)))) (hqc : q.1 = y.cls) (hd : decode cc pc = .ok (.invokevirtual idx, 3)) (hR9 : fr + 1 ≤ R.frames ∧ 8 + (mL + 11) + lo ≤ R.locals) (hsum : zz_ss rest ≤ 8) (hf : cu + mc ≤ R.cells ∧ su + ms ≤ R.slots) (hlen : as.length = n) (hls : ls.size = nL) (hR : zz_R g s c0 cs H locs) :
    va_Run p l e R s m args below meth c H locs cu su mc ms (F0 m pc ls ((as.map (zz_tr g)).reverse ++ .ref (zz_ad g i) :: rest.map (zz_tr g))) (rest.map (zz_tr g)) (zz_Qc g cs P ((Value.ref i :: as).map (zz_tr g)).toArray) (fun q => g.1 < q) := by
  obtain ⟨cb, hin, hst⟩ := zz_cb_of (args := args) (R := R) hT hcw hmok hR9
  have hin := hin hstt
  obtain ⟨⟨c1, c2, c3, c4, c5, c6⟩, c7, c8, c9, c10⟩ := cb
  exact va_runV (Ts := []) ⟨hx, hb, hml, hown, fun _ h => by cases h⟩ hM ⟨⟨c1, c2, c3, c4, c5, c6, c7, c8, c9, c10, zz_wd_ok hlink hT args⟩, hin, zz_wd_ok hsel hT args⟩ (by have z : PreV s H q.1 (zz_ad g i) (zz_Pc g (.ref i :: as) cs) (as.map (zz_tr g)) := ⟨zz_blind g _ cs, zz_recv hK hR hq hi, fun U hU hW => zz_pc (as := .ref i :: as) hK hT hR U hU hW⟩; rw [hqc] at z; exact z) rfl ((List.length_map _).trans hlen) hls rfl (lv_room (by rw [zz_ss_tr]; exact hsum)) hd hf
theorem zz_runVN (hx : p.tables.exec = Jvm.exec) (hb : c.code = cc) (hml : c.maxLocals = nL) (hown : s.vm.findClass own = some m.cls) (hT : zz_ok s) (hK : zz_K g s) (hcw : zz_mcw (y, b, mL, ret, n, stt, (mc, ms, fr, lo), (w0, w1, w2), code)) (hmok : zz_mok (y, b, mL, ret, n, stt, (mc, ms, fr, lo), (w0, w1, w2), code) = true) (hstt : stt = false) (hM : zz_Met l g (y, b, mL, ret, n, stt, (mc, ms, fr, lo), (w0, w1, w2), code) (.ref i :: as) cs P) (hlink : zz_wd w (.methodLinkNest own idx y zz_host) = true) (hsel : zz_wd w' (.selects y.cls y y) = true) {fs : List Value} {q : vw_C} (hq : classes[ci]? = some q) (hi : zz_cell cs i = some (.inr (.inr (ci, fs)))) (hqc : q.1 = y.cls) (hd : decode cc pc = .ok (.invokevirtual idx, 3)) (hR9 : fr + 1 ≤ R.frames ∧ 8 + (mL + 11) + lo ≤ R.locals) (hsum : zz_ss rest ≤ 8) (hf : cu + mc ≤ R.cells ∧ su + ms ≤ R.slots) (hlen : as.length = n) (hls : ls.size = nL) (hR : zz_R g s c0 cs H locs) :
    va_Run p l e R s m args below meth c H locs cu su mc ms (F0 m pc ls ((as.map (zz_tr g)).reverse ++ .ref (zz_ad g i) :: rest.map (zz_tr g))) (rest.map (zz_tr g)) (zz_Qc g cs P ((Value.ref i :: as).map (zz_tr g)).toArray) (fun q => g.1 < q) := by
  obtain ⟨cb, hin, hst⟩ := zz_cb_of (args := args) (R := R) hT hcw hmok hR9
  have hin := hin hstt
  obtain ⟨⟨c1, c2, c3, c4, c5, c6⟩, c7, c8, c9, c10⟩ := cb
  exact va_runVN (Ts := []) ⟨hx, hb, hml, hown, fun _ h => by cases h⟩ hM ⟨⟨⟨c1, c2, c3, c4, c5, c6⟩, c7, c8, c9, c10, zz_wd_ok hlink hT args⟩, hin, zz_wd_ok hsel hT args⟩ (by have z : PreV s H q.1 (zz_ad g i) (zz_Pc g (.ref i :: as) cs) (as.map (zz_tr g)) := ⟨zz_blind g _ cs, zz_recv hK hR hq hi, fun U hU hW => zz_pc (as := .ref i :: as) hK hT hR U hU hW⟩; rw [hqc] at z; exact z) rfl ((List.length_map _).trans hlen) hls rfl (lv_room (by rw [zz_ss_tr]; exact hsum)) hd hf
theorem zz_runS (hx : p.tables.exec = Jvm.exec) (hb : c.code = cc) (hml : c.maxLocals = nL) (hown : s.vm.findClass own = some m.cls) (hT : zz_ok s) (hK : zz_K g s) (hcw : zz_mcw (y, b, mL, ret, n, stt, (mc, ms, fr, lo), (w0, w1, w2), code)) (hmok : zz_mok (y, b, mL, ret, n, stt, (mc, ms, fr, lo), (w0, w1, w2), code) = true) (hstt : stt = true) (hM : zz_Met l g (y, b, mL, ret, n, stt, (mc, ms, fr, lo), (w0, w1, w2), code) as cs P) (hlink : zz_wd w (.methodLink own idx y) = true) (hd : decode cc pc = .ok (.invokestatic idx, 3)) (hR9 : fr + 1 ≤ R.frames ∧ 8 + (mL + 11) + lo ≤ R.locals) (hsum : zz_ss rest ≤ 8) (hf : cu + mc ≤ R.cells ∧ su + ms ≤ R.slots) (hlen : as.length = n) (hls : ls.size = nL) (hR : zz_R g s c0 cs H locs) :
    va_Run p l e R s m args below meth c H locs cu su mc ms (F0 m pc ls ((as.map (zz_tr g)).reverse ++ rest.map (zz_tr g))) (rest.map (zz_tr g)) (zz_Qc g cs P (as.map (zz_tr g)).toArray) (fun q => g.1 < q) := by
  obtain ⟨cb, hin, hst⟩ := zz_cb_of (args := args) (R := R) hT hcw hmok hR9
  have hin := hst hstt
  obtain ⟨⟨c1, c2, c3, c4, c5, c6⟩, c7, c8, c9, c10⟩ := cb
  exact va_runS (Ts := []) ⟨hx, hb, hml, hown, fun _ h => by cases h⟩ hM ⟨⟨c1, c2, c3, c4, c5, c6, c7, c8, c9, c10, zz_wd_ok hlink hT args⟩, hin⟩ ⟨zz_blind g _ cs, fun U hU hW => zz_pc hK hT hR U hU hW⟩ rfl ((List.length_map _).trans hlen) hls rfl (lv_room (by rw [zz_ss_tr]; exact hsum)) hd hf
theorem zz_runSN (hx : p.tables.exec = Jvm.exec) (hb : c.code = cc) (hml : c.maxLocals = nL) (hown : s.vm.findClass own = some m.cls) (hT : zz_ok s) (hK : zz_K g s) (hcw : zz_mcw (y, b, mL, ret, n, stt, (mc, ms, fr, lo), (w0, w1, w2), code)) (hmok : zz_mok (y, b, mL, ret, n, stt, (mc, ms, fr, lo), (w0, w1, w2), code) = true) (hstt : stt = true) (hM : zz_Met l g (y, b, mL, ret, n, stt, (mc, ms, fr, lo), (w0, w1, w2), code) as cs P) (hlink : zz_wd w (.methodLinkNest own idx y zz_host) = true) (hd : decode cc pc = .ok (.invokestatic idx, 3)) (hR9 : fr + 1 ≤ R.frames ∧ 8 + (mL + 11) + lo ≤ R.locals) (hsum : zz_ss rest ≤ 8) (hf : cu + mc ≤ R.cells ∧ su + ms ≤ R.slots) (hlen : as.length = n) (hls : ls.size = nL) (hR : zz_R g s c0 cs H locs) :
    va_Run p l e R s m args below meth c H locs cu su mc ms (F0 m pc ls ((as.map (zz_tr g)).reverse ++ rest.map (zz_tr g))) (rest.map (zz_tr g)) (zz_Qc g cs P (as.map (zz_tr g)).toArray) (fun q => g.1 < q) := by
  obtain ⟨cb, hin, hst⟩ := zz_cb_of (args := args) (R := R) hT hcw hmok hR9
  have hin := hst hstt
  obtain ⟨⟨c1, c2, c3, c4, c5, c6⟩, c7, c8, c9, c10⟩ := cb
  exact va_runSN (Ts := []) ⟨hx, hb, hml, hown, fun _ h => by cases h⟩ hM ⟨⟨⟨c1, c2, c3, c4, c5, c6⟩, c7, c8, c9, c10, zz_wd_ok hlink hT args⟩, hin, trivial⟩ ⟨zz_blind g _ cs, fun U hU hW => zz_pc hK hT hR U hU hW⟩ rfl ((List.length_map _).trans hlen) hls rfl (lv_room (by rw [zz_ss_tr]; exact hsum)) hd hf
theorem zz_runI (hx : p.tables.exec = Jvm.exec) (hb : c.code = cc) (hml : c.maxLocals = nL) (hown : s.vm.findClass own = some m.cls) (hT : zz_ok s) (hK : zz_K g s) (hcw : zz_mcw (y, b, mL, ret, n, stt, (mc, ms, fr, lo), (w0, w1, w2), code)) (hmok : zz_mok (y, b, mL, ret, n, stt, (mc, ms, fr, lo), (w0, w1, w2), code) = true) (hstt : stt = false) (hM : zz_Met l g (y, b, mL, ret, n, stt, (mc, ms, fr, lo), (w0, w1, w2), code) (.ref i :: as) cs P) (hret : ret = none) (hy1 : y.name = "<init>") (hlink : zz_wd w (.methodLink own idx y) = true) (hd : decode cc pc = .ok (.invokespecial idx, 3)) (hR9 : fr + 1 ≤ R.frames ∧ 8 + (mL + 11) + lo ≤ R.locals) (hsum : zz_ss rest ≤ 8) (hf : cu + mc ≤ R.cells ∧ su + ms ≤ R.slots) (hlen : as.length = n) (hls : ls.size = nL) (hR : zz_R g s c0 cs H locs) :
    va_Run p l e R s m args below meth c H locs cu su mc ms (F0 m pc ls ((as.map (zz_tr g)).reverse ++ .ref (zz_ad g i) :: rest.map (zz_tr g))) (rest.map (zz_tr g)) (zz_Qc g cs P ((Value.ref i :: as).map (zz_tr g)).toArray) (fun q => g.1 < q) := by
  obtain ⟨cb, hin, hst⟩ := zz_cb_of (args := args) (R := R) hT hcw hmok hR9
  have hin := hin hstt
  obtain ⟨⟨c1, c2, c3, c4, c5, c6⟩, c7, c8, c9, c10⟩ := cb
  subst hret
  exact va_runI (Ts := []) ⟨hx, hb, hml, hown, fun _ h => by cases h⟩ hM ⟨⟨c1, c2, c3, c4, c5, c6, c7, c8, c9, c10, zz_wd_ok hlink hT args⟩, hy1, hin⟩ ⟨zz_blind g _ cs, fun U hU hW => zz_pc (as := .ref i :: as) hK hT hR U hU hW⟩ rfl ((List.length_map _).trans hlen) hls rfl (lv_room (by rw [zz_ss_tr]; exact hsum)) hd hf
theorem zz_runIN (hx : p.tables.exec = Jvm.exec) (hb : c.code = cc) (hml : c.maxLocals = nL) (hown : s.vm.findClass own = some m.cls) (hT : zz_ok s) (hK : zz_K g s) (hcw : zz_mcw (y, b, mL, ret, n, stt, (mc, ms, fr, lo), (w0, w1, w2), code)) (hmok : zz_mok (y, b, mL, ret, n, stt, (mc, ms, fr, lo), (w0, w1, w2), code) = true) (hstt : stt = false) (hM : zz_Met l g (y, b, mL, ret, n, stt, (mc, ms, fr, lo), (w0, w1, w2), code) (.ref i :: as) cs P) (hret : ret = none) (hy1 : y.name = "<init>") (hlink : zz_wd w (.methodLinkNest own idx y zz_host) = true) (hd : decode cc pc = .ok (.invokespecial idx, 3)) (hR9 : fr + 1 ≤ R.frames ∧ 8 + (mL + 11) + lo ≤ R.locals) (hsum : zz_ss rest ≤ 8) (hf : cu + mc ≤ R.cells ∧ su + ms ≤ R.slots) (hlen : as.length = n) (hls : ls.size = nL) (hR : zz_R g s c0 cs H locs) :
    va_Run p l e R s m args below meth c H locs cu su mc ms (F0 m pc ls ((as.map (zz_tr g)).reverse ++ .ref (zz_ad g i) :: rest.map (zz_tr g))) (rest.map (zz_tr g)) (zz_Qc g cs P ((Value.ref i :: as).map (zz_tr g)).toArray) (fun q => g.1 < q) := by
  obtain ⟨cb, hin, hst⟩ := zz_cb_of (args := args) (R := R) hT hcw hmok hR9
  have hin := hin hstt
  obtain ⟨⟨c1, c2, c3, c4, c5, c6⟩, c7, c8, c9, c10⟩ := cb
  subst hret
  exact va_runIN (Ts := []) ⟨hx, hb, hml, hown, fun _ h => by cases h⟩ hM ⟨⟨⟨c1, c2, c3, c4, c5, c6⟩, c7, c8, c9, c10, zz_wd_ok hlink hT args⟩, hy1, hin⟩ ⟨zz_blind g _ cs, fun U hU hW => zz_pc (as := .ref i :: as) hK hT hR U hU hW⟩ rfl ((List.length_map _).trans hlen) hls rfl (lv_room (by rw [zz_ss_tr]; exact hsum)) hd hf
theorem zz_runSU (hx : p.tables.exec = Jvm.exec) (hb : c.code = cc) (hml : c.maxLocals = nL) (hown : s.vm.findClass own = some m.cls) (hT : zz_ok s) (hK : zz_K g s) (hcw : zz_mcw (y, b, mL, ret, n, stt, (mc, ms, fr, lo), (w0, w1, w2), code)) (hmok : zz_mok (y, b, mL, ret, n, stt, (mc, ms, fr, lo), (w0, w1, w2), code) = true) (hstt : stt = false) (hM : zz_Met l g (y, b, mL, ret, n, stt, (mc, ms, fr, lo), (w0, w1, w2), code) (.ref i :: as) cs P) {wm wu : Nat} (hno : y.name ≠ "<init>") (hlink : zz_wd w (.methodLink own idx y) = true) (hsame : zz_wd wm (.sameMethod y.cls y.cls y.name y.desc) = true) (hsup : zz_wd wu (.superclass own y.cls) = true) {fs : List Value} {q : vw_C} (hq : classes[ci]? = some q) (hi : zz_cell cs i = some (.inr (.inr (ci, fs)))) (hd : decode cc pc = .ok (.invokespecial idx, 3)) (hR9 : fr + 1 ≤ R.frames ∧ 8 + (mL + 11) + lo ≤ R.locals) (hsum : zz_ss rest ≤ 8) (hf : cu + mc ≤ R.cells ∧ su + ms ≤ R.slots) (hlen : as.length = n) (hls : ls.size = nL) (hR : zz_R g s c0 cs H locs) :
    va_Run p l e R s m args below meth c H locs cu su mc ms (F0 m pc ls ((as.map (zz_tr g)).reverse ++ .ref (zz_ad g i) :: rest.map (zz_tr g))) (rest.map (zz_tr g)) (zz_Qc g cs P ((Value.ref i :: as).map (zz_tr g)).toArray) (fun q => g.1 < q) := by
  obtain ⟨cb, hin, hst⟩ := zz_cb_of (args := args) (R := R) hT hcw hmok hR9
  have hin := hin hstt
  obtain ⟨⟨c1, c2, c3, c4, c5, c6⟩, c7, c8, c9, c10⟩ := cb
  exact va_runSU (hK.1 ci q hq).2 (Ts := []) ⟨hx, hb, hml, hown, fun _ h => by cases h⟩ hM ⟨⟨c1, c2, c3, c4, c5, c6⟩, zz_wd_ok hlink hT args, zz_wd_ok hsame hT args, zz_wd_ok hsup hT args, hin, c8, c7, hno, c10⟩ ⟨zz_blind g _ cs, zz_recv hK hR hq hi, fun U hU hW => zz_pc (as := .ref i :: as) hK hT hR U hU hW⟩ rfl ((List.length_map _).trans hlen) hls rfl (lv_room (by rw [zz_ss_tr]; exact hsum)) hd hf
theorem zz_runSU2 (hx : p.tables.exec = Jvm.exec) (hb : c.code = cc) (hml : c.maxLocals = nL) (hown : s.vm.findClass own = some m.cls) (hT : zz_ok s) (hK : zz_K g s) (hcw : zz_mcw (y, b, mL, ret, n, stt, (mc, ms, fr, lo), (w0, w1, w2), code)) (hmok : zz_mok (y, b, mL, ret, n, stt, (mc, ms, fr, lo), (w0, w1, w2), code) = true) (hstt : stt = false) (hM : zz_Met l g (y, b, mL, ret, n, stt, (mc, ms, fr, lo), (w0, w1, w2), code) (.ref i :: as) cs P) {wm wu wv : Nat} {x : String} (hno : y.name ≠ "<init>") (hlink : zz_wd w (.methodLink own idx ⟨x, y.name, y.desc⟩) = true) (hsame : zz_wd wm (.sameMethod x y.cls y.name y.desc) = true) (hsup : zz_wd wu (.superclass own x) = true) (hsup2 : zz_wd wv (.superclass x y.cls) = true) {fs : List Value} {q : vw_C} (hq : classes[ci]? = some q) (hi : zz_cell cs i = some (.inr (.inr (ci, fs)))) (hd : decode cc pc = .ok (.invokespecial idx, 3)) (hR9 : fr + 1 ≤ R.frames ∧ 8 + (mL + 11) + lo ≤ R.locals) (hsum : zz_ss rest ≤ 8) (hf : cu + mc ≤ R.cells ∧ su + ms ≤ R.slots) (hlen : as.length = n) (hls : ls.size = nL) (hR : zz_R g s c0 cs H locs) :
    va_Run p l e R s m args below meth c H locs cu su mc ms (F0 m pc ls ((as.map (zz_tr g)).reverse ++ .ref (zz_ad g i) :: rest.map (zz_tr g))) (rest.map (zz_tr g)) (zz_Qc g cs P ((Value.ref i :: as).map (zz_tr g)).toArray) (fun q => g.1 < q) := by
  obtain ⟨cb, hin, hst⟩ := zz_cb_of (args := args) (R := R) hT hcw hmok hR9
  have hin := hin hstt
  obtain ⟨⟨c1, c2, c3, c4, c5, c6⟩, c7, c8, c9, c10⟩ := cb
  have hKb : Back l R p e below s args y 3 8 (PreOf R mc ms (zz_Pc g (.ref i :: as) cs)) (PostOf (zz_Qc g cs P) mc ms (fun q => g.1 < q)) := back_of (bytes := b) (maxL := mL) (ret := ret) hM (zz_blind g _ cs) c1 c2 c3 c4 c5 c6 (fun a' U hW => word_at hW (Or.inl (by first | rfl | simp [Jvm.Cond.onTables, Jvm.Cond.keeps, Jvm.Cond.steady])) c8)
  obtain ⟨mk, methM, hnamed, hmethM, hstM, habM⟩ := Cond.instanceMethod_spec hin
  obtain ⟨methM', cM, hmethM', -, -, -, -, -, -, hsigM⟩ := Cond.code_spec hnamed c7
  cases hmethM.symm.trans hmethM'
  obtain ⟨ps, dk, kp, hps, hdk, hkp, hsuper, -, -, hnid⟩ := Cond.superclass_spec hown (zz_wd_ok hsup hT args)
  obtain ⟨ps2, dk2, kp2, hps2, hdk2, hkp2, hsuper2, -, -, -⟩ := Cond.superclass_spec hps (zz_wd_ok hsup2 hT args)
  have hpm : ps2 = mk.cls := Option.some.inj (hps2.symm.trans (findClass_of_methodNamed hnamed))
  have hsub : s.vm.isSubclass ps mk.cls = true := by
    rw [← hpm]
    exact zz_sub1 hdk2 hsuper2 hkp2
  obtain ⟨cellB, hcB, hoB, hclB⟩ := zz_recv hK hR hq hi
  obtain ⟨-, kB, hkB, -⟩ := (hK.1 ci q hq).2
  have hkB2 : s.vm.classes[cellB.cls]? = some kB := by
    rw [← Option.some.inj ((hK.1 ci q hq).2.1.symm.trans hclB)]
    exact hkB
  intro T hTT X
  obtain ⟨vm₀, X₁, hstep₁⟩ := X.invokespecialUp hx hown (x := ⟨x, y.name, y.desc⟩) (owner := y.cls) (zz_wd_ok hlink hT args) (zz_wd_ok hsame hT args) hnamed hmethM hstM habM hno hdk hnid hps hsuper hsub (a := zz_ad g i) (cell := cellB) (by rw [hTT]; exact hcB)
    (fun z h => by rw [h] at hoB; cases hoB) hkB2 (g := F0 m pc ls ((as.map (zz_tr g)).reverse ++ .ref (zz_ad g i) :: rest.map (zz_tr g))) rfl (argsL := as.map (zz_tr g)) (rest := rest.map (zz_tr g)) (((List.length_map _).trans hlen).trans (c10 _ hsigM)) rfl (by rw [hb]; exact hd)
  obtain ⟨v, ⟨U', l2, c2', s2⟩, X', ⟨g', mk', t, Lx, e1, e2, hq', h1, hL, h2, h3⟩, hsteps⟩ := hKb m meth c ⟨T.setVm vm₀, locs, cu, su⟩ (F0 m pc ls (rest.map (zz_tr g))) (.invokespecial idx) mk ((Value.ref i :: as).map (zz_tr g)).toArray X₁ rfl (hls.trans hml.symm) (by rw [hb]; exact hd) (lv_room (by rw [zz_ss_tr]; exact hsum)) (X₁.named hnamed) ⟨hf.1, hf.2, zz_pc (as := .ref i :: as) hK hT hR (T.setVm vm₀) hTT X₁.warmed⟩
  dsimp only [Pt.U, Pt.locs, Pt.cells, Pt.slots] at X' e1 e2 h1 h2 h3 hsteps
  subst h1; subst h2; subst h3
  exact ⟨v, (T.setVm vm₀).calling g' mk' ((Value.ref i :: as).map (zz_tr g)).toArray, t, U', Lx, hTT, X', hL, e1, e2, hq', fun target h => hstep₁ _ (by rw [doInvoke_state]; exact hsteps.trans h)⟩
theorem zz_runU (hx : p.tables.exec = Jvm.exec) (hb : c.code = cc) (hml : c.maxLocals = nL) (hown : s.vm.findClass own = some m.cls) (hT : zz_ok s) (hK : zz_K g s) (hcw : zz_mcw (y, b, mL, ret, n, stt, (mc, ms, fr, lo), (w0, w1, w2), code)) (hmok : zz_mok (y, b, mL, ret, n, stt, (mc, ms, fr, lo), (w0, w1, w2), code) = true) (hstt : stt = false) (hM : zz_Met l g (y, b, mL, ret, n, stt, (mc, ms, fr, lo), (w0, w1, w2), code) (.ref i :: as) cs P) {wm wi oL : Nat} {x : MethodName} {owner : String} {ob : ByteArray} {oret : Option FieldType} (hxn : (parseMethodDescriptor x.desc).map (fun d => d.parameters.length) = some n) (how : owner ≠ "java/lang/invoke/MethodHandle" ∧ owner ≠ "java/lang/invoke/VarHandle") (hlink : zz_wd w (.methodLink own idx x) = true) (hsame : zz_wd wm (.sameMethod x.cls owner x.name x.desc) = true) (hoi : zz_wd wi (.instanceMethod ⟨owner, x.name, x.desc⟩) = true) (hoc : (Jvm.Cond.code ⟨owner, x.name, x.desc⟩ ob oL oret).before args s = true) {fs : List Value} {q : vw_C} (hq : classes[ci]? = some q) (hi : zz_cell cs i = some (.inr (.inr (ci, fs)))) (hsel : zz_wd w' (.selects q.1 x y) = true) (hd : decode cc pc = .ok (.invokevirtual idx, 3)) (hR9 : fr + 1 ≤ R.frames ∧ 8 + (mL + 11) + lo ≤ R.locals) (hsum : zz_ss rest ≤ 8) (hf : cu + mc ≤ R.cells ∧ su + ms ≤ R.slots) (hlen : as.length = n) (hls : ls.size = nL) (hR : zz_R g s c0 cs H locs) :
    va_Run p l e R s m args below meth c H locs cu su mc ms (F0 m pc ls ((as.map (zz_tr g)).reverse ++ .ref (zz_ad g i) :: rest.map (zz_tr g))) (rest.map (zz_tr g)) (zz_Qc g cs P ((Value.ref i :: as).map (zz_tr g)).toArray) (fun q => g.1 < q) := by
  obtain ⟨cb, hin, hst⟩ := zz_cb_of (args := args) (R := R) hT hcw hmok hR9
  have hin := hin hstt
  obtain ⟨⟨c1, c2, c3, c4, c5, c6⟩, c7, c8, c9, c10⟩ := cb
  exact va_runU (owner := owner) (x := x) (Ts := []) ⟨hx, hb, hml, hown, fun _ h => by cases h⟩ hM ⟨⟨c1, c2, c3, c4, c5, c6⟩, c7, c8, how, (fun sig hs => by rw [hs] at hxn; exact (Option.some.inj hxn).symm), zz_wd_ok hlink hT args, zz_wd_ok hsame hT args, va_Decl.of (zz_wd_ok hoi hT args) hoc, zz_wd_ok hsel hT args, hin⟩ ⟨zz_blind g _ cs, zz_recv hK hR hq hi, fun U hU hW => zz_pc (as := .ref i :: as) hK hT hR U hU hW⟩ rfl ((List.length_map _).trans hlen) hls rfl (lv_room (by rw [zz_ss_tr]; exact hsum)) hd hf
end ZZ3

