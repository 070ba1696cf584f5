/-! one step of the pure machine on cells -/
def zz_ok (U : State) : Prop := ∀ w ∈ lw_tbl, zz_good w = true → ∀ a : Array Value, w.before a U = true
theorem zz_aoA {t : FieldType} {u U : State} (hvm : u.vm.Alike U.vm) (h : (Jvm.Cond.arrayOver (.array t)).before #[] u = true) (a : Array Value) : (Jvm.Cond.arrayOver (.array t)).before a U = true := by
  obtain ⟨comp, c, k, h1, h2, h3, h4, h5⟩ := arrayOverA_spec h
  obtain ⟨k', hk', he⟩ := hvm.2.2 _ _ h3
  have hb : U.vm.bare = u.vm.bare := by first | exact hvm.bare_eq | exact hvm.bare_eq.symm
  have h9 := va_idx_bare U.vm comp
  rw [hb] at h9
  have hi := h9.symm.trans ((va_idx_bare u.vm comp).trans h2)
  have hkind : k'.kind = .array comp (.array t) := by rw [he]; exact h4
  have f1 : U.vm.findClass (FieldType.array t).toString = some comp := by rw [hvm.findClass]; exact h1
  have f2 : U.vm.findClass ("[" ++ (FieldType.array t).toString) = some c := by rw [hvm.findClass]; exact h5
  unfold Jvm.Cond.before Jvm.Cond.holds
  simp only [Jvm.Cond.value]
  rw [f1, Option.bind_some]
  refine (congrArg (fun o : Option Nat => (o.bind (fun c => (U.vm.classes[c]?).map fun (k : Class) => match k.kind with | .array _ ty => decide (ty = FieldType.array t) && decide (U.vm.findClass ("[" ++ (FieldType.array t).toString) = some c) | _ => false) == some true)) hi).trans ?_
  simp [hk', hkind, f2]
theorem zz_word {w : Jvm.Cond} {s U : State} (hg : zz_good w = true) (hW : s.WarmedH U.vm) (h : ∀ a : Array Value, w.before a s = true) (a : Array Value) : w.before a U = true := by
  cases w with
  | arrayClass ty => exact word_at hW (Or.inr ⟨_, rfl⟩) (h a)
  | castable x y => exact va_Nw.use rfl (va_Nw.warmC hW (h #[]))
  | fieldLinkNest x i b n d y => exact va_Nw.use rfl (va_Nw.warmF hW (h #[]))
  | methodLinkNest x i b y => exact va_Nw.use rfl (va_Nw.warmM hW (h #[]))
  | arrayOver t => cases t with
    | object C => exact va_AO.use (va_AO.moved hW.alike (h #[]))
    | array C => exact zz_aoA hW.alike (h #[]) a
    | _ => exact word_at hW (Or.inl hg) (h a)
  | _ => exact word_at hW (Or.inl hg) (h a)
theorem zz_ok.warm {s U : State} (hW : s.WarmedH U.vm) (h : zz_ok s) : zz_ok U := fun w hw hg => zz_word hg hW (h w hw hg)
theorem zz_wd_ok {i : Nat} {w : Jvm.Cond} (h : zz_wd i w = true) {U : State} (hU : zz_ok U) (a : Array Value) : w.before a U = true := by
  unfold zz_wd at h
  split at h
  · rename_i v hv
    simp only [Bool.and_eq_true, decide_eq_true_eq] at h
    exact hU w (h.1 ▸ List.mem_of_getElem? hv) h.2 a
  · cases h
theorem zz_cok_all (ci : Nat) (q : vw_C) (h : classes[ci]? = some q) : zz_cok q = true := List.all_eq_true.mp zz_cok_l q (List.mem_of_getElem? h)
theorem zz_cok_at {q : vw_C} (h : zz_cok q = true) {k : Nat} (hk : k < q.2.2) : (parseFieldDescriptor (q.2.1 k).2.2.1).isSome = true ∧ (∀ j, j < q.2.2 → k ≠ j → (q.2.1 k).2.1 ≠ (q.2.1 j).2.1) ∧ u_lay q.1 q.2.1 k ∈ lw_tbl ∧ zz_good (u_lay q.1 q.2.1 k) = true := by
  have h1 := List.all_eq_true.mp h k (List.mem_range.mpr hk)
  simp only [Bool.and_eq_true, decide_eq_true_eq] at h1
  refine ⟨h1.1, fun j hj hne => ?_, h1.2.2⟩
  have h2 := List.all_eq_true.mp h1.2.1 j (List.mem_range.mpr hj)
  simp only [Bool.or_eq_true, decide_eq_true_eq, Bool.not_eq_true', decide_eq_false_iff_not] at h2
  exact h2.resolve_left hne
theorem zz_cts {q : vw_C} (h : zz_cok q = true) {U : State} (hU : zz_ok U) (a : Array Value) : ∀ w ∈ u_ws q.1 q.2.1 q.2.2, w.before a U = true := by
  intro w hw
  obtain ⟨k, hk, rfl⟩ := List.mem_map.mp hw
  obtain ⟨-, -, h1, h2⟩ := zz_cok_at h (List.mem_range.mp hk)
  exact hU _ h1 h2 a
theorem zz_fty {q : vw_C} (h : zz_cok q = true) {k : Nat} (hk : k < q.2.2) : parseFieldDescriptor (q.2.1 k).2.2.1 = some (zz_ft q k) := by
  have h1 := (zz_cok_at h hk).1
  unfold zz_ft
  cases hq : parseFieldDescriptor (q.2.1 k).2.2.1 with
  | none => rw [hq] at h1; cases h1
  | some t => rfl
theorem zz_fits {tc : Nat} {ty : FieldType} {v : Value} (g : zz_G) (h1 : zz_tc tc ty = true) (h2 : zz_fit tc v = true) : narrow ty (zz_tr g v) = zz_tr g v ∧ fits ty (zz_tr g v) = true := by
  unfold zz_tc at h1
  split at h1
  · simp only [decide_eq_true_eq] at h1
    subst h1
    simp only [zz_fit] at h2
    split at h2
    · exact ⟨rfl, rfl⟩
    · cases h2
  · simp only [decide_eq_true_eq] at h1
    subst h1
    simp only [zz_fit] at h2
    split at h2
    · simp only [Bool.or_eq_true, decide_eq_true_eq] at h2
      rcases h2 with rfl | rfl
      · exact ⟨rfl, rfl⟩
      · exact ⟨rfl, rfl⟩
    · cases h2
  · simp only [zz_fit] at h2
    cases ty <;> first | (cases h1; done) | skip
    all_goals
      split at h2
      · exact ⟨rfl, rfl⟩
      · exact ⟨rfl, rfl⟩
      · cases h2
  · simp only [decide_eq_true_eq] at h1
    subst h1
    simp only [zz_fit] at h2
    split at h2
    · exact ⟨rfl, rfl⟩
    · cases h2
  · cases h1
-- cells in the heap
theorem zz_at.kept {g : zz_G} {i : Nat} {c : zz_C} {H H1 : Heap} (h : zz_at g i c H) (hq : H1[zz_ad g i]? = H[zz_ad g i]?) : zz_at g i c H1 := by
  unfold zz_at at h ⊢
  split
  · exact hq.trans h
  · exact hq.trans h
  · obtain ⟨r, h1, h2⟩ := h
    exact ⟨r, h1, h2.kept hq⟩
theorem zz_ad_pos (g : zz_G) {i : Nat} (h : 0 < i) : zz_ad g i = g.1 + i := by
  unfold zz_ad
  rw [if_neg (by omega)]
theorem zz_ad_ne (g : zz_G) {i j : Nat} (h : 0 < i) (h2 : 0 < j) (hne : i ≠ j) : zz_ad g i ≠ zz_ad g j := by
  rw [zz_ad_pos g h, zz_ad_pos g h2]
  omega
theorem zz_P.set {g : zz_G} {cs : zz_W} {H H1 : Heap} {i : Nat} {c0 c : zz_C} (h : zz_P g cs H) (hi : cs[i]? = some (some c0)) (hz : H1.size = H.size) (hq : ∀ q, q ≠ zz_ad g i → H1[q]? = H[q]?) (hc : zz_at g i c H1) : zz_P g (cs.set i (some c)) H1 := by
  refine ⟨by rw [hz, List.length_set]; exact h.1, fun j d hj => ?_⟩
  have hl : i < cs.length := (List.getElem?_eq_some_iff.mp hi).1
  by_cases hij : i = j
  · subst hij
    rw [List.getElem?_set_self hl] at hj
    cases hj
    exact ⟨(h.2 i c0 hi).1, hc⟩
  · rw [List.getElem?_set_ne hij] at hj
    obtain ⟨h1, h2⟩ := h.2 j d hj
    exact ⟨h1, h2.kept (hq _ (zz_ad_ne g h1 (h.2 i c0 hi).1 (Ne.symm hij)))⟩
theorem zz_R.set {g : zz_G} {s : State} {b0 cs : zz_W} {H H1 : Heap} {locs : List Loc} {i k : Nat} {c0 c : zz_C} (h : zz_R g s b0 cs H locs) (hi : cs[i]? = some (some c0)) (hz : H1.size = H.size) (hq : ∀ q, q ≠ zz_ad g i → H1[q]? = H[q]?) (hc : zz_at g i c H1) : zz_R g s b0 (cs.set i (some c)) H1 (locs ++ [⟨zz_ad g i, k⟩]) := by
  obtain ⟨h1, h2, h3, h4, h5⟩ := h
  have hp := (h1.2 i c0 hi).1
  have ha := zz_ad_pos g hp
  refine ⟨h1.set hi hz hq hc, by omega, fun q hq1 => (hq q (by omega)).trans (h3 q hq1), fun q hq1 => ?_, fun j hj => ?_⟩
  · rcases List.mem_append.mp hq1 with h5 | h5
    · exact h4 q h5
    · rw [List.mem_singleton.mp h5]
      show g.1 < zz_ad g i
      omega
  · obtain ⟨h6, h7⟩ := h5 j hj
    have hij : i ≠ j := fun e => by
      subst e
      rw [hi] at h6
      cases h6
    exact ⟨by rw [List.getElem?_set_ne hij]; exact h6, (hq _ (by omega)).trans h7⟩
theorem zz_R.push {g : zz_G} {s : State} {b0 cs : zz_W} {H H1 : Heap} {locs : List Loc} {c : zz_C} (h : zz_R g s b0 cs H locs) (h0 : 0 < cs.length) (hz : H1.size = H.size + 1) (hq : ∀ q, q < H.size → H1[q]? = H[q]?) (hc : zz_at g cs.length c H1) : zz_R g s b0 (cs ++ [some c]) H1 locs := by
  obtain ⟨h1, h2, h3, h4, h8⟩ := h
  have hsz := h1.1
  refine ⟨⟨by rw [hz, List.length_append, hsz]; rfl, fun j d hj => ?_⟩, by omega, fun q hq1 => (hq q (by omega)).trans (h3 q hq1), h4, fun j hj => ?_⟩
  · by_cases hl : j < cs.length
    · rw [List.getElem?_append_left hl] at hj
      obtain ⟨h5, h6⟩ := h1.2 j d hj
      exact ⟨h5, h6.kept (hq _ (by rw [zz_ad_pos g h5]; omega))⟩
    · rw [List.getElem?_append_right (by omega)] at hj
      have hz1 : j - cs.length < 1 := (List.getElem?_eq_some_iff.mp hj).1
      have hj0 : j = cs.length := by omega
      subst hj0
      rw [Nat.sub_self] at hj
      cases hj
      exact ⟨h0, hc⟩
  · obtain ⟨h6, h7⟩ := h8 j hj
    have hl : j < cs.length := (List.getElem?_eq_some_iff.mp h6).1
    exact ⟨by rw [List.getElem?_append_left hl]; exact h6, (hq _ (by omega)).trans h7⟩
theorem zz_cell_eq {cs : zz_W} {i : Nat} {c : zz_C} (h : zz_cell cs i = some c) : cs[i]? = some (some c) := by
  unfold zz_cell at h
  split at h
  · rename_i d hd
    cases h
    exact hd
  · cases h
theorem zz_rt_ok {t : Nat} (h : zz_rt t = true) : ∃ ty, zz_ty[t]? = some ty ∧ ty.isReference = true := by
  unfold zz_rt at h
  split at h
  · rename_i ty hty
    exact ⟨ty, hty, h⟩
  · cases h
theorem zz_ix_ok {j : Int32} {n : Nat} (h : zz_ix j n = true) : ¬ j < 0 ∧ j.toNatClampNeg < n := by
  unfold zz_ix at h
  simp only [Bool.and_eq_true, Bool.not_eq_true', decide_eq_false_iff_not, decide_eq_true_eq] at h
  exact h
section ZZ2
variable {g : zz_G} {p : Program} {l : Launch} {e : Env} {R : Room} {s : State} {m : MethodId} {args : Array Value} {below : List Frame} {meth : Method} {c : Code} {Q : State → Prop} {cc : ByteArray} {nL pc pc' n cu su : Nat} {L L' : List (Option Value)} {st st' : List Value} {c0 cs cs' : zz_W}
theorem zz_get (hx : p.tables.exec = Jvm.exec) (hb : c.code = cc) {own : String} (hown : s.vm.findClass own = some m.cls) (hT : zz_ok s) (hK : zz_K g s) {idx ci k w i : Nat} {q : vw_C} (hq : classes[ci]? = some q) (hcok : zz_cok q = true) (hk : k < q.2.2) (hlk : zz_lk own idx w (q.2.1 k) = true)
    {H : Heap} {locs : List Loc} {ls : Array Slot} {rest : List Value} {fs : List Value} {v : Value} (hat : zz_at g i (.inr (.inr (ci, fs))) H) (hv : fs[k]? = some v) (hd : decode cc pc = .ok (.getfield idx, 3))
    (kk : W p l e R s m args below meth c H locs cu su Q (F0 m (pc + 3) ls (zz_tr g v :: rest))) : W p l e R s m args below meth c H locs cu su Q (F0 m pc ls (.ref (zz_ad g i) :: rest)) := by
  obtain ⟨r, h1, cell, q1, q2, q3, q4⟩ := hat
  cases hq.symm.trans h1
  obtain ⟨hS, hfc, kC, hkC, hkind⟩ := hK.1 ci q hq
  obtain ⟨cf, kf, fi, f, hi, hsl⟩ := hS k hk
  have hst := (u_facts hfc hkC (u_lays (args := args) (zz_cts hcok hT args) (fun _ h => h) hk) hi).1
  have hval : cell.slots[f.slot]? = some (zz_tr g v) := by
    rw [hsl, q4 k hk]
    simp [vp_V, hv]
  simp only [zz_lk, Bool.or_eq_true] at hlk
  rcases hlk with h | h
  · exact W.getf hx hb hown (zz_wd_ok h hT args) hi hst q1 (by rw [q3]; exact fun h => by cases h) hval rfl rfl hd kk
  · exact va_Wgetf hx hb hown (zz_wd_ok h hT args) hi hst q1 (by rw [q3]; exact fun h => by cases h) hval rfl rfl hd kk
theorem zz_put (hx : p.tables.exec = Jvm.exec) (hb : c.code = cc) {own : String} (hown : s.vm.findClass own = some m.cls) (hT : zz_ok s) (hK : zz_K g s) {idx ci k w i tc : Nat} {q : vw_C} (hq : classes[ci]? = some q) (hcok : zz_cok q = true) (hk : k < q.2.2) (htc : zz_tc tc (zz_ft q k) = true)
    {nm : String} (hnm0 : nm = "<init>" → meth.name = "<init>") (hlk : (if (q.2.1 k).2.2.2 = true then zz_wd w (.fieldLink own idx (q.2.1 k).1 (q.2.1 k).2.1 (q.2.1 k).2.2.1) && (decide ((q.2.1 k).1 = own) && decide (nm = "<init>")) else zz_lk own idx w (q.2.1 k)) = true)
    {H : Heap} {locs : List Loc} {ls : Array Slot} {rest : List Value} {fs : List Value} {v : Value} (hR : zz_R g s c0 cs H locs) (hi0 : cs[i]? = some (some (.inr (.inr (ci, fs))))) (hkl : k < fs.length) (hfit : zz_fit tc v = true) (hd : decode cc pc = .ok (.putfield idx, 3))
    (kk : ∀ (H1 : Heap) (locs1 : List Loc), zz_R g s c0 (cs.set i (some (.inr (.inr (ci, fs.set k v))))) H1 locs1 → W p l e R s m args below meth c H1 locs1 cu su Q (F0 m (pc + 3) ls rest)) : W p l e R s m args below meth c H locs cu su Q (F0 m pc ls (zz_tr g v :: .ref (zz_ad g i) :: rest)) := by
  obtain ⟨hp0, hat⟩ := hR.1.2 i _ hi0
  obtain ⟨r, h1, cell, q1, q2, q3, q4⟩ := hat
  cases hq.symm.trans h1
  have hts := zz_cts hcok hT args
  have hap := va_apart (own := own) (D := g.2.2.2) (cl := classes) (tys := []) (s := s) (args := args) (ci := ci) hts (fun _ h => h) (zz_ft q) (fun k hk => zz_fty hcok hk) (fun a ha b hb hne => (zz_cok_at hcok ha).2.1 b hb hne) ⟨hK.1, fun k q h => by simp at h⟩ hq
  obtain ⟨hS, hfc, kC, hkC, hkind⟩ := hK.1 ci q hq
  obtain ⟨cf, kf, fi, f, hi, hsl⟩ := hS k hk
  obtain ⟨hn, hft⟩ := zz_fits g htc hfit
  have hst := (u_facts hfc hkC (u_lays (args := args) hts (fun _ h => h) hk) hi).1
  have hfin : ∀ H1 : Heap, H1[zz_ad g i]? = some (cell.setSlot f.slot (zz_tr g v)) → zz_at g i (.inr (.inr (ci, fs.set k v))) H1 := by
    intro H1 e1
    refine ⟨q, hq, t_OB.to (V := updV (vp_V (fs.map (zz_tr g))) k (zz_tr g v)) ⟨_, e1, q2, q3, ?_⟩ (fun j _ => ?_)⟩
    · rw [hsl]
      exact t_set q4 hap hk _
    · rw [List.map_set]
      exact vp_updV_set (by rw [List.length_map]; exact hkl) _ j
  split at hlk
  · rename_i hF
    simp only [Bool.and_eq_true, decide_eq_true_eq] at hlk
    obtain ⟨hw, hdecl, hnm⟩ := hlk
    have hlay := hts _ (u_in_lay hk)
    unfold u_lay at hlay
    rw [if_pos hF] at hlay
    have hcf : m.cls = cf := by
      obtain ⟨_, _, c', _, _, _, -, -, hf', -, -, -, hown2, -⟩ := Cond.laysFinal_spec hlay
      have e1 : c' = cf := by have := hi.symm.trans hf'; simp at this; exact this.1.symm
      rw [hdecl] at hown2
      rw [← e1]; exact Option.some.inj (hown.symm.trans hown2)
    have h6 := u_fits hfc hkC hkind (Or.inr hlay) hi (zz_fty hcok hk) hn hft
    exact W.putFinK hx hb hown (zz_wd_ok hw hT args) hi hst hcf (hnm0 hnm) (by rw [q2]; exact h6) q1 q3 (by rw [hsl]; exact k2_hasslot (q4 k hk)) rfl rfl hd fun H' e1 e2 e3 => kk H' _ (hR.set hi0 e2 e3 (hfin H' e1))
  · rename_i hF
    have hlay := hts _ (u_in_lay hk)
    unfold u_lay at hlay
    rw [if_neg hF] at hlay
    have h6 := u_store hfc hkC hkind hlay hi (zz_fty hcok hk) hn hft
    simp only [zz_lk, Bool.or_eq_true] at hlk
    rcases hlk with h | h
    · exact W.putK hx hb (f := f) ⟨hown, zz_wd_ok h hT args, ⟨_, _, _, hi⟩, hst⟩ (by rw [q2]; exact h6) q1 q3 (by rw [hsl]; exact k2_hasslot (q4 k hk)) rfl rfl hd fun H' e1 e2 e3 => kk H' _ (hR.set hi0 e2 e3 (hfin H' e1))
    · exact va_WputK hx hb (f := f) hown (zz_wd_ok h hT args) hi hst (by rw [q2]; exact h6) q1 q3 (by rw [hsl]; exact k2_hasslot (q4 k hk)) rfl rfl hd fun H' e1 e2 e3 => kk H' _ (hR.set hi0 e2 e3 (hfin H' e1))
theorem zz_nin {j : Int32} {n : Nat} (h : ¬ j < 0 ∧ j.toNatClampNeg < n) : ¬ (j < 0 ∨ n ≤ j.toNatClampNeg) := fun q => q.elim h.1 (fun z => by omega)
theorem zz_iast_cell {cA : ClassId} {xs : List Int32} {j : Nat} {x : Int32} (hj : j < xs.length) : (arrV cA xs.length (fun k => .int (xs.getD k 0))).setSlot j (.int x) = arrV cA (xs.set j x).length (fun k => .int ((xs.set j x).getD k 0)) := by
  rw [arrV_store, List.length_set]
  congr 1
  funext k
  unfold updV
  rw [set_getD x hj]
  split <;> rfl
theorem zz_aast_cell {g : zz_G} {cA : ClassId} {rs : List (Option Nat)} {j v : Nat} (hj : j < rs.length) : (arrV cA rs.length (fun k => zz_tr g (va_rf (rs.getD k none)))).setSlot j (.ref (zz_ad g v)) = arrV cA (rs.set j (some v)).length (fun k => zz_tr g (va_rf ((rs.set j (some v)).getD k none))) := by
  rw [arrV_store, List.length_set]
  congr 1
  funext k
  unfold updV
  by_cases hk : k = j
  · subst hk
    rw [if_pos rfl, List.getD_eq_getElem?_getD, List.getElem?_set_self hj]
    rfl
  · rw [if_neg hk]
    show zz_tr g (va_rf (rs.getD k none)) = _
    rw [List.getD_eq_getElem?_getD, List.getD_eq_getElem?_getD, List.getElem?_set_ne (Ne.symm hk)]
set_option maxHeartbeats 4000000 in
theorem zz_db_ok (hx : p.tables.exec = Jvm.exec) (hb : c.code = cc) {own : String} (hown : s.vm.findClass own = some m.cls) (hT : zz_ok s) (hK : zz_K g s) {ins : Instr} {len : Nat} {r : List Nat} {v0 : Value} (hd : decode cc pc = .ok (ins, len)) (hlen : zz_len ins = 0 ∨ len = zz_len ins) {nm : String} (hnm0 : nm = "<init>" → meth.name = "<init>") (htb : zz_tb own nm ins r v0 = true) (h : zz_db ins r v0 pc L st cs = some (pc', L', st', cs'))
    (kk : zz_Z g c0 p l e R s m args below meth c Q nL pc' L' st' cs' cu su) : zz_Z g c0 p l e R s m args below meth c Q nL pc L st cs cu su := by
  intro hnL H locs ls hR hl
  have lenO : ∀ k : Nat, (k + 1 = 0 ∨ len = k + 1) → len = k + 1 := fun k q => q.resolve_left (by omega)
  cases ins with
  | getfield idx =>
    cases lenO _ hlen
    simp only [zz_db] at h
    split at h <;> try (cases h; done)
    split at h <;> try (cases h; done)
    split at h <;> try (cases h; done)
    split at h <;> try (cases h; done)
    split at h <;> try (cases h; done)
    rename_i ci k w _ i rest _ cj fs hcell hcj _ v hv
    cases h
    subst hcj
    simp only [zz_tb] at htb
    split at htb
    · rename_i q hq
      simp only [Bool.and_eq_true, decide_eq_true_eq] at htb
      exact zz_get hx hb hown hT hK hq (zz_cok_all cj q hq) htb.1 htb.2 (hR.1.2 i _ (zz_cell_eq hcell)).2 hv hd (kk hnL H locs ls hR hl)
    · cases htb
  | putfield idx =>
    cases lenO _ hlen
    simp only [zz_db] at h
    split at h <;> try (cases h; done)
    split at h <;> try (cases h; done)
    split at h <;> try (cases h; done)
    split at h <;> try (cases h; done)
    rename_i ci k w tc _ v i rest _ cj fs hcell hc
    cases h
    obtain ⟨hcj, hkl, hfit⟩ := hc
    subst hcj
    simp only [zz_tb] at htb
    split at htb
    · rename_i q hq
      simp only [Bool.and_eq_true] at htb
      obtain ⟨t1, t2, t3⟩ := htb
      exact zz_put hx hb hown hT hK hq (zz_cok_all cj q hq) (of_decide_eq_true t1) t2 hnm0 t3 hR (zz_cell_eq hcell) hkl hfit hd (fun H1 locs1 hR1 => kk hnL H1 locs1 ls hR1 hl)
    · cases htb
  | iaload =>
    cases lenO _ hlen
    simp only [zz_db] at h
    split at h <;> try (cases h; done)
    split at h <;> try (cases h; done)
    split at h <;> try (cases h; done)
    rename_i j i rest _ xs hcell hix
    cases h
    have hix := zz_ix_ok hix
    have hat := (hR.1.2 i _ (zz_cell_eq hcell)).2
    refine W.iald (v := .int (xs.getD j.toNatClampNeg 0)) hx hb hat ((hK.2 0 .int zz_ty0).1 _ _) (fun q => by cases q) (by rw [arrV_size]; exact zz_nin hix) (by rw [arrV_read _ _ hix.2]) rfl rfl hd (kk hnL H locs ls hR hl)
  | iastore =>
    cases lenO _ hlen
    simp only [zz_db] at h
    split at h <;> try (cases h; done)
    split at h <;> try (cases h; done)
    split at h <;> try (cases h; done)
    rename_i x j i rest _ xs hcell hix
    cases h
    have hix := zz_ix_ok hix
    have hat := (hR.1.2 i _ (zz_cell_eq hcell)).2
    exact W.iast hx hb hat ((hK.2 0 .int zz_ty0).1 _ _) (fun q => by cases q) (by rw [arrV_size]; exact zz_nin hix) rfl rfl hd fun H1 e1 z1 o1 => kk hnL H1 _ ls (hR.set (zz_cell_eq hcell) z1 o1 (by
      show H1[zz_ad g i]? = _
      rw [e1, zz_iast_cell hix.2])) hl
  | aaload =>
    cases lenO _ hlen
    simp only [zz_db] at h
    split at h <;> try (cases h; done)
    split at h <;> try (cases h; done)
    split at h <;> try (cases h; done)
    rename_i j i rest _ t rs hcell hix
    cases h
    obtain ⟨ty, hty, href⟩ := zz_rt_ok hix.2
    have hix := zz_ix_ok hix.1
    have hat := (hR.1.2 i _ (zz_cell_eq hcell)).2
    exact W.aald (v := zz_tr g (va_rf (rs.getD j.toNatClampNeg none))) (ty := ty) hx hb hat ((hK.2 t ty hty).1 _ _) href (fun q => by cases q) (by rw [arrV_size]; exact zz_nin hix) (by rw [arrV_read _ _ hix.2]) rfl rfl hd (kk hnL H locs ls hR hl)
  | aastore =>
    cases lenO _ hlen
    simp only [zz_db] at h
    split at h <;> try (cases h; done)
    split at h <;> try (cases h; done)
    split at h <;> try (cases h; done)
    split at h <;> try (cases h; done)
    split at h <;> try (cases h; done)
    rename_i t ci w _ v j i rest _ u rs hcell _ cj fs hcv hc
    cases h
    obtain ⟨hu, hcj, hix⟩ := hc
    subst hu
    subst hcj
    have hix := zz_ix_ok hix
    have hat := (hR.1.2 i _ (zz_cell_eq hcell)).2
    obtain ⟨r, hr, cellV, g1, g2, g3, -⟩ := (hR.1.2 v _ (zz_cell_eq hcv)).2
    simp only [zz_tb] at htb
    split at htb <;> try (cases htb; done)
    rename_i q hq
    split at htb <;> try (cases htb; done)
    rename_i E hE
    cases hr.symm.trans hq
    obtain ⟨kA, comp, k1, k2, k3, -⟩ := (hK.2 u _ hE).2
    obtain ⟨kE, hkE, -⟩ := Vm.findClass_spec k3
    have hcls := (hK.1 cj _ hq).2
    obtain ⟨kC, hkC, -⟩ := hcls.2
    have hasg : s.vm.assignable (g.2.2.2.1 cj) comp = true := by
      simp only [Bool.or_eq_true, decide_eq_true_eq] at htb
      rcases htb with h | h
      · subst h
        cases k3.symm.trans hcls.1
        exact va_assign hcls
      · obtain ⟨c0, t1, f1, f2, f3⟩ := Cond.castable_spec (zz_wd_ok h hT args)
        cases hcls.1.symm.trans f1
        cases k3.symm.trans f2
        exact f3
    exact W.aast hx hb hat (fun q h => by cases h) (fun h => by cases h) k1 k2 rfl hkE ⟨hix.1, by rw [arrV_size]; exact hix.2⟩ g1 (fun q h => by rw [g3] at h; cases h) (by rw [g2]; exact hkC) (by rw [g2]; exact hasg) rfl rfl hd fun H1 e1 z1 o1 => kk hnL H1 _ ls (hR.set (zz_cell_eq hcell) z1 o1 (by
      show H1[zz_ad g i]? = _
      rw [e1, zz_aast_cell hix.2])) hl
  | arraylength =>
    cases lenO _ hlen
    simp only [zz_db] at h
    split at h <;> try (cases h; done)
    split at h <;> try (cases h; done)
    · rename_i i rest _ xs hcell
      cases h
      have hat := (hR.1.2 i _ (zz_cell_eq hcell)).2
      exact W.alen (n := Int32.ofNat xs.length) hx hb hat ((hK.2 0 .int zz_ty0).1 _ _) (by rw [arrV_size] <;> rfl) rfl rfl hd (kk hnL H locs ls hR hl)
    · split at h <;> try (cases h; done)
      rename_i i rest _ t rs hcell hrt
      cases h
      obtain ⟨ty, hty, href⟩ := zz_rt_ok hrt
      have hat := (hR.1.2 i _ (zz_cell_eq hcell)).2
      exact W.alen (n := Int32.ofNat rs.length) hx hb hat ((hK.2 t ty hty).1 _ _) (by rw [arrV_size] <;> rfl) rfl rfl hd (kk hnL H locs ls hR hl)
  | ldc idx =>
    cases lenO _ hlen
    cases h
    simp only [zz_tb] at htb
    split at htb <;> try (cases htb; done)
    split at htb <;> try (cases htb; done)
    exact lv_ldc hx hb hown (zz_wd_ok htb hT args) hd (kk hnL H locs ls hR hl)
  | ldc_w idx =>
    cases lenO _ hlen
    cases h
    simp only [zz_tb] at htb
    split at htb <;> try (cases htb; done)
    split at htb <;> try (cases htb; done)
    exact lv_ldcw hx hb hown (zz_wd_ok htb hT args) hd (kk hnL H locs ls hR hl)
  | ldc2_w idx =>
    cases lenO _ hlen
    cases h
    simp only [zz_tb] at htb
    split at htb <;> try (cases htb; done)
    split at htb <;> try (cases htb; done)
    exact lv_ldc2 hx hb hown (zz_wd_ok htb hT args) hd (kk hnL H locs ls hR hl)
  | _ => exact absurd (show (none : zz_O2) = some _ from h) (by simp)
end ZZ2

