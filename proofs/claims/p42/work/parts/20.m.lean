section
/-! THE PURE MACHINE: the system's cells as a list, by their numbers; one step of a frame as a function; a walk of the real machine follows it -/
-- the address before the first cell; the script's address; the classes of the arrays; the classes of the objects and their slots
noncomputable abbrev zz_G : Type := Nat × Nat × (Nat → ClassId) × va_G
noncomputable def zz_ad (g : zz_G) (i : Nat) : Nat := if i = 0 then g.2.1 else g.1 + i
noncomputable def zz_tr (g : zz_G) : Value → Value
  | .ref i => .ref (zz_ad g i)
  | v => v
noncomputable def zz_at (g : zz_G) (i : Nat) (c : zz_C) (H : Heap) : Prop := match c with
  | .inl xs => H[zz_ad g i]? = some (arrV (g.2.2.1 0) xs.length (fun j => .int (xs.getD j 0)))
  | .inr (.inl (t, rs)) => H[zz_ad g i]? = some (arrV (g.2.2.1 t) rs.length (fun j => zz_tr g (va_rf (rs.getD j none))))
  | .inr (.inr (ci, fs)) => ∃ r : vw_C, classes[ci]? = some r ∧ t_OB (zz_ad g i) (g.2.2.2.1 ci) r.2.2 (g.2.2.2.2 ci) H (vp_V (fs.map (zz_tr g)))
noncomputable def zz_K (g : zz_G) (U : State) : Prop := (∀ (c : Nat) (q : vw_C), classes[c]? = some q → u_Kn U q.1 q.2.1 q.2.2 (g.2.2.2.1 c) (g.2.2.2.2 c)) ∧ ∀ (t : Nat) (ty : FieldType), zz_ty[t]? = some ty → ArrOfT U (g.2.2.1 t) ty ∧ va_RA U (g.2.2.1 t) ty
noncomputable def zz_P (g : zz_G) (cs : zz_W) (H : Heap) : Prop := H.size = g.1 + cs.length ∧ ∀ (i : Nat) (c : zz_C), cs[i]? = some (some c) → 0 < i ∧ zz_at g i c H
-- c0: the cells as they were at the method's start: what isn't spoken of there isn't touched
noncomputable def zz_R (g : zz_G) (s : State) (c0 cs : zz_W) (H : Heap) (locs : List Loc) : Prop := zz_P g cs H ∧ s.heap.size ≤ H.size ∧ (∀ q : Nat, q ≤ g.1 → H[q]? = s.heap[q]?) ∧ (∀ q ∈ locs, g.1 < q.base) ∧ ∀ i : Nat, c0[i]? = some none → cs[i]? = some none ∧ H[g.1 + i]? = s.heap[g.1 + i]?
noncomputable def zz_as (g : zz_G) (L : List (Option Value)) : List (Nat × Value) := (List.range L.length).filterMap (fun i => match L[i]? with | some (some v) => some (i, zz_tr g v) | _ => none)
theorem zz_as_mem {g : zz_G} {L : List (Option Value)} {i : Nat} {v : Value} (h : L[i]? = some (some v)) : (i, zz_tr g v) ∈ zz_as g L := by
  have hl : i < L.length := (List.getElem?_eq_some_iff.mp h).1
  exact List.mem_filterMap.mpr ⟨i, List.mem_range.mpr hl, by simp only [h]⟩
theorem zz_as_of {g : zz_G} {L : List (Option Value)} {q : Nat × Value} (h : q ∈ zz_as g L) : ∃ v, L[q.1]? = some (some v) ∧ q.2 = zz_tr g v := by
  obtain ⟨i, -, hi⟩ := List.mem_filterMap.mp h
  split at hi
  · rename_i v hv
    cases hi
    exact ⟨v, hv, rfl⟩
  · cases hi
theorem zz_tr_cat (g : zz_G) (v : Value) : (zz_tr g v).category = v.category := by cases v <;> rfl
theorem zz_lv {g : zz_G} {ls : Array Slot} {nL i : Nat} {L : List (Option Value)} {v : Value} (h : lv_has ls nL (zz_as g L)) (hv : L[i]? = some (some v)) : ls[i]? = some (.val (zz_tr g v)) := h.2.2 _ (zz_as_mem hv)
theorem zz_ld_eq {L : List (Option Value)} {i : Nat} {v : Value} (h : zz_ld L i = some v) : L[i]? = some (some v) := by
  unfold zz_ld at h
  split at h
  · rename_i w hw
    cases h
    exact hw
  · cases h
theorem zz_cl_keep {L : List (Option Value)} {i j : Nat} {w : Value} (h : (zz_cl L i)[j]? = some (some w)) : L[j]? = some (some w) ∧ ¬ (j + 1 = i ∧ w.category = 2) := by
  unfold zz_cl at h
  split at h
  · exact ⟨h, fun q => by omega⟩
  · rename_i i k
    split at h
    · rename_i u hu
      split at h
      · rename_i hc
        by_cases hjk : j = k
        · subst hjk
          have hl : j < L.length := (List.getElem?_eq_some_iff.mp (zz_ld_eq hu)).1
          rw [List.getElem?_set_self hl] at h
          cases h
        · rw [List.getElem?_set_ne (Ne.symm hjk)] at h
          exact ⟨h, fun q => hjk (by omega)⟩
      · rename_i hc
        refine ⟨h, fun q => ?_⟩
        have hjk : j = k := by omega
        subst hjk
        have := (zz_ld_eq hu).symm.trans h
        cases this
        exact hc q.2
    · rename_i hn
      refine ⟨h, fun q => ?_⟩
      have hjk : j = k := by omega
      subst hjk
      have : zz_ld L j = some w := by unfold zz_ld; rw [h]
      rw [this] at hn
      cases hn
theorem zz_cl_len (L : List (Option Value)) (i : Nat) : (zz_cl L i).length = L.length := by
  unfold zz_cl
  split
  · rfl
  · split
    · split
      · simp
      · rfl
    · rfl
theorem zz_sv1 {g : zz_G} {ls' : Array Slot} {nL i : Nat} {L : List (Option Value)} {v : Value} (hc : v.category = 1) (h : lv_has ls' nL ((i, zz_tr g v) :: (zz_as g L).filter (fun q => !(q.1 == i) && !(q.1 + 1 == i && q.2.category == 2)))) : lv_has ls' nL (zz_as g (zz_sv L i v)) := by
  refine ⟨h.1, h.2.1, fun q hq => ?_⟩
  obtain ⟨w, hw, he⟩ := zz_as_of hq
  refine h.2.2 q ?_
  unfold zz_sv at hw
  rw [if_neg (by omega)] at hw
  by_cases hqi : q.1 = i
  · have hl : i < (zz_cl L i).length := by
      have := (List.getElem?_eq_some_iff.mp hw).1
      rw [List.length_set] at this
      omega
    rw [hqi, List.getElem?_set_self hl] at hw
    cases hw
    have : q = (i, zz_tr g v) := by rw [← hqi, ← he]
    rw [this]
    exact List.mem_cons_self
  · rw [List.getElem?_set_ne (Ne.symm hqi)] at hw
    obtain ⟨h1, h2⟩ := zz_cl_keep hw
    refine List.mem_cons_of_mem _ (List.mem_filter.mpr ⟨?_, ?_⟩)
    · have := zz_as_mem (g := g) h1
      rw [← he] at this
      exact this
    · rw [he, zz_tr_cat]
      simp only [Bool.and_eq_true, Bool.not_eq_true', beq_eq_false_iff_ne, ne_eq, Bool.and_eq_false_imp, beq_iff_eq]
      exact ⟨hqi, fun a b => h2 ⟨a, b⟩⟩
theorem zz_sv2 {g : zz_G} {ls' : Array Slot} {nL i : Nat} {L : List (Option Value)} {v : Value} (hc : v.category = 2) (h : lv_has ls' nL ((i, zz_tr g v) :: (zz_as g L).filter (fun q => !(q.1 == i) && (!(q.1 == i + 1) && !(q.1 + 1 == i && q.2.category == 2))))) : lv_has ls' nL (zz_as g (zz_sv L i v)) := by
  refine ⟨h.1, h.2.1, fun q hq => ?_⟩
  obtain ⟨w, hw, he⟩ := zz_as_of hq
  refine h.2.2 q ?_
  unfold zz_sv at hw
  rw [if_pos hc] at hw
  by_cases hq1 : q.1 = i + 1
  · have hl : i + 1 < ((zz_cl L i).set i (some v)).length := by
      have := (List.getElem?_eq_some_iff.mp hw).1
      rw [List.length_set] at this
      omega
    rw [hq1, List.getElem?_set_self hl] at hw
    cases hw
  rw [List.getElem?_set_ne (Ne.symm hq1)] at hw
  by_cases hqi : q.1 = i
  · have hl : i < (zz_cl L i).length := by
      have := (List.getElem?_eq_some_iff.mp hw).1
      rw [List.length_set] at this
      omega
    rw [hqi, List.getElem?_set_self hl] at hw
    cases hw
    have : q = (i, zz_tr g v) := by rw [← hqi, ← he]
    rw [this]
    exact List.mem_cons_self
  · rw [List.getElem?_set_ne (Ne.symm hqi)] at hw
    obtain ⟨h1, h2⟩ := zz_cl_keep hw
    refine List.mem_cons_of_mem _ (List.mem_filter.mpr ⟨?_, ?_⟩)
    · have := zz_as_mem (g := g) h1
      rw [← he] at this
      exact this
    · rw [he, zz_tr_cat]
      simp only [Bool.and_eq_true, Bool.not_eq_true', beq_eq_false_iff_ne, ne_eq, Bool.and_eq_false_imp, beq_iff_eq]
      exact ⟨hqi, hq1, fun a b => h2 ⟨a, b⟩⟩
end
section
/-! one step of the pure machine, without cells: constants, locals, the stack, arithmetic, branches -/
theorem zz_tg_eq {pc tgt : Nat} {off : Int} (h : zz_tg pc off = some tgt) : (pc : Int) + off = (tgt : Int) := by
  unfold zz_tg at h
  split at h
  · rename_i t ht
    cases h
    exact ht
  · cases h
section ZZ1
variable {g : zz_G} {p : Program} {l : Launch} {e : Env} {R : Room} {s : State} {m : MethodId} {args : Array Value} {below : List Frame} {meth : Method} {c : Code} {Q : State → Prop} {cc : ByteArray} {nL pc pc' n cu su : Nat} {L L' : List (Option Value)} {st st' : List Value} {c0 cs cs' : zz_W}
/-- a frame of the real machine that shows the pure one: it comes to a state with Q -/
noncomputable def zz_Z (g : zz_G) (c0 : zz_W) (p : Program) (l : Launch) (e : Env) (R : Room) (s : State) (m : MethodId) (args : Array Value) (below : List Frame) (meth : Method) (c : Code) (Q : State → Prop) (nL pc : Nat) (L : List (Option Value)) (st : List Value) (cs : zz_W) (cu su : Nat) : Prop :=
  L.length = nL → ∀ (H : Heap) (locs : List Loc) (ls : Array Slot), zz_R g s c0 cs H locs → lv_has ls nL (zz_as g L) → W p l e R s m args below meth c H locs cu su Q (F0 m pc ls (st.map (zz_tr g)))
theorem zz_sv_len (L : List (Option Value)) (i : Nat) (v : Value) : (zz_sv L i v).length = L.length := by
  unfold zz_sv
  split <;> simp [zz_cl_len]
theorem zz_pi_ok {v : Option Value} (h : zz_pi n L v st = some (pc', L', st')) : ∃ x, v = some (.int x) ∧ pc' = n ∧ L' = L ∧ st' = .int x :: st := by
  unfold zz_pi at h
  split at h
  · cases h; exact ⟨_, rfl, rfl, rfl, rfl⟩
  · cases h
theorem zz_pl_ok {v : Option Value} (h : zz_pl n L v st = some (pc', L', st')) : ∃ x, v = some (.long x) ∧ pc' = n ∧ L' = L ∧ st' = .long x :: st := by
  unfold zz_pl at h
  split at h
  · cases h; exact ⟨_, rfl, rfl, rfl, rfl⟩
  · cases h
theorem zz_pr_ok {v : Option Value} (h : zz_pr n L v st = some (pc', L', st')) : ∃ x, v = some (.ref x) ∧ pc' = n ∧ L' = L ∧ st' = .ref x :: st := by
  unfold zz_pr at h
  split at h
  · cases h; exact ⟨_, rfl, rfl, rfl, rfl⟩
  · cases h
theorem zz_si_ok {i : Nat} (h : zz_si n L i st = some (pc', L', st')) : ∃ x, st = .int x :: st' ∧ i < L.length ∧ pc' = n ∧ L' = zz_sv L i (.int x) := by
  unfold zz_si at h
  split at h
  · split at h
    · cases h; exact ⟨_, rfl, by assumption, rfl, rfl⟩
    · cases h
  · cases h
theorem zz_sl_ok {i : Nat} (h : zz_sl n L i st = some (pc', L', st')) : ∃ x, st = .long x :: st' ∧ i + 1 < L.length ∧ pc' = n ∧ L' = zz_sv L i (.long x) := by
  unfold zz_sl at h
  split at h
  · split at h
    · cases h; exact ⟨_, rfl, by assumption, rfl, rfl⟩
    · cases h
  · cases h
theorem zz_sr_ok {i : Nat} (h : zz_sr n L i st = some (pc', L', st')) : ∃ x, st = .ref x :: st' ∧ i < L.length ∧ pc' = n ∧ L' = zz_sv L i (.ref x) := by
  unfold zz_sr at h
  split at h
  · split at h
    · cases h; exact ⟨_, rfl, by assumption, rfl, rfl⟩
    · cases h
  · cases h
theorem zz_i2_ok {f : Int32 → Int32 → Int32} (h : zz_i2 n L st f = some (pc', L', st')) : ∃ x y r, st = .int y :: .int x :: r ∧ pc' = n ∧ L' = L ∧ st' = .int (f x y) :: r := by
  unfold zz_i2 at h
  split at h
  · cases h; exact ⟨_, _, _, rfl, rfl, rfl, rfl⟩
  · cases h
theorem zz_i2n_ok {f : Int32 → Int32 → Int32} (h : zz_i2n n L st f = some (pc', L', st')) : ∃ x y r, st = .int y :: .int x :: r ∧ ¬ y = 0 ∧ pc' = n ∧ L' = L ∧ st' = .int (f x y) :: r := by
  unfold zz_i2n at h
  split at h
  · split at h
    · cases h
    · cases h; exact ⟨_, _, _, rfl, by assumption, rfl, rfl, rfl⟩
  · cases h
theorem zz_l2_ok {f : Int64 → Int64 → Int64} (h : zz_l2 n L st f = some (pc', L', st')) : ∃ x y r, st = .long y :: .long x :: r ∧ pc' = n ∧ L' = L ∧ st' = .long (f x y) :: r := by
  unfold zz_l2 at h
  split at h
  · cases h; exact ⟨_, _, _, rfl, rfl, rfl, rfl⟩
  · cases h
theorem zz_l2n_ok {f : Int64 → Int64 → Int64} (h : zz_l2n n L st f = some (pc', L', st')) : ∃ x y r, st = .long y :: .long x :: r ∧ ¬ y = 0 ∧ pc' = n ∧ L' = L ∧ st' = .long (f x y) :: r := by
  unfold zz_l2n at h
  split at h
  · split at h
    · cases h
    · cases h; exact ⟨_, _, _, rfl, by assumption, rfl, rfl, rfl⟩
  · cases h
theorem zz_go_ok {t : Option Nat} (h : zz_go L st t = some (pc', L', st')) : t = some pc' ∧ L' = L ∧ st' = st := by
  unfold zz_go at h
  split at h
  · cases h; exact ⟨rfl, rfl, rfl⟩
  · cases h
theorem zz_br_ok {b : Bool} {off : Int} (h : zz_br b pc off = some pc') : ∃ t : Nat, (pc : Int) + off = (t : Int) ∧ ((b = true ∧ pc' = t) ∨ (b = false ∧ pc' = pc + 3)) := by
  unfold zz_br at h
  split at h
  · rename_i t ht
    refine ⟨t, zz_tg_eq ht, ?_⟩
    cases b
    · cases h; exact Or.inr ⟨rfl, rfl⟩
    · cases h; exact Or.inl ⟨rfl, rfl⟩
  · cases h
set_option maxHeartbeats 4000000 in
theorem zz_da_ok (hx : p.tables.exec = Jvm.exec) (hb : c.code = cc) {ins : Instr} {len : Nat} (hd : decode cc pc = .ok (ins, len)) (hlen : zz_len ins = 0 ∨ len = zz_len ins) (h : zz_da ins pc L st = some (pc', L', st'))
    (kk : zz_Z g c0 p l e R s m args below meth c Q nL pc' L' st' cs cu su) : zz_Z g c0 p l e R s m args below meth c Q nL pc L st cs cu su := by
  intro hnL H locs ls hR hl
  have kk := fun h2 => kk h2 H locs
  have lenO : ∀ k : Nat, (k + 1 = 0 ∨ len = k + 1) → len = k + 1 := fun k q => q.resolve_left (by omega)
  cases ins with
  | iconst n => cases lenO _ hlen; cases h; exact lv_iconst hx hb hd rfl (kk hnL ls hR hl)
  | bipush n => cases lenO _ hlen; cases h; exact lv_bipush hx hb hd rfl (kk hnL ls hR hl)
  | sipush n => cases lenO _ hlen; cases h; exact lv_sipush hx hb hd rfl (kk hnL ls hR hl)
  | lconst n => cases lenO _ hlen; cases h; exact lv_lconst hx hb hd rfl (kk hnL ls hR hl)
  | iload_n k => cases lenO _ hlen; obtain ⟨x, h1, rfl, rfl, rfl⟩ := zz_pi_ok h; exact lv_iload_n hx hb hd rfl (zz_lv hl (zz_ld_eq h1)) (kk hnL ls hR hl)
  | iload k => cases lenO _ hlen; obtain ⟨x, h1, rfl, rfl, rfl⟩ := zz_pi_ok h; exact lv_iload hx hb hd (zz_lv hl (zz_ld_eq h1)) (kk hnL ls hR hl)
  | lload_n k => cases lenO _ hlen; obtain ⟨x, h1, rfl, rfl, rfl⟩ := zz_pl_ok h; exact lv_lload_n hx hb hd rfl (zz_lv hl (zz_ld_eq h1)) (kk hnL ls hR hl)
  | lload k => cases lenO _ hlen; obtain ⟨x, h1, rfl, rfl, rfl⟩ := zz_pl_ok h; exact lv_lload hx hb hd (zz_lv hl (zz_ld_eq h1)) (kk hnL ls hR hl)
  | aload_n k => cases lenO _ hlen; obtain ⟨x, h1, rfl, rfl, rfl⟩ := zz_pr_ok h; exact lv_aload_n hx hb hd rfl (zz_lv hl (zz_ld_eq h1)) (kk hnL ls hR hl)
  | aload k => cases lenO _ hlen; obtain ⟨x, h1, rfl, rfl, rfl⟩ := zz_pr_ok h; exact lv_aload hx hb hd (zz_lv hl (zz_ld_eq h1)) (kk hnL ls hR hl)
  | istore_n k => cases lenO _ hlen; obtain ⟨x, rfl, h1, rfl, rfl⟩ := zz_si_ok h; exact lv_istore_n hx hb hd rfl hl (by omega) rfl (fun ls' hl' => kk ((zz_sv_len _ _ _).trans hnL) ls' hR (zz_sv1 (v := .int x) rfl hl'))
  | istore k => cases lenO _ hlen; obtain ⟨x, rfl, h1, rfl, rfl⟩ := zz_si_ok h; exact lv_istore hx hb hd hl (by omega) rfl (fun ls' hl' => kk ((zz_sv_len _ _ _).trans hnL) ls' hR (zz_sv1 (v := .int x) rfl hl'))
  | lstore_n k => cases lenO _ hlen; obtain ⟨x, rfl, h1, rfl, rfl⟩ := zz_sl_ok h; exact lv_lstore_n hx hb hd rfl hl (by omega) rfl (fun ls' hl' => kk ((zz_sv_len _ _ _).trans hnL) ls' hR (zz_sv2 (v := .long x) rfl hl'))
  | lstore k => cases lenO _ hlen; obtain ⟨x, rfl, h1, rfl, rfl⟩ := zz_sl_ok h; exact lv_lstore hx hb hd hl (by omega) rfl (fun ls' hl' => kk ((zz_sv_len _ _ _).trans hnL) ls' hR (zz_sv2 (v := .long x) rfl hl'))
  | astore_n k => cases lenO _ hlen; obtain ⟨x, rfl, h1, rfl, rfl⟩ := zz_sr_ok h; exact lv_astore_n hx hb hd rfl hl (by omega) rfl (fun ls' hl' => kk ((zz_sv_len _ _ _).trans hnL) ls' hR (zz_sv1 (v := .ref x) rfl hl'))
  | astore k => cases lenO _ hlen; obtain ⟨x, rfl, h1, rfl, rfl⟩ := zz_sr_ok h; exact lv_astore hx hb hd hl (by omega) rfl (fun ls' hl' => kk ((zz_sv_len _ _ _).trans hnL) ls' hR (zz_sv1 (v := .ref x) rfl hl'))
  | iinc k n =>
    cases lenO _ hlen
    simp only [zz_da] at h
    split at h
    · rename_i x hv
      cases h
      have h1 := zz_ld_eq hv
      obtain ⟨j, hj⟩ := List.getElem?_of_mem (zz_as_mem (g := g) h1)
      have hlt : k < L.length := (List.getElem?_eq_some_iff.mp h1).1
      exact lv_iinc hx hb hd hl hj rfl (by omega) rfl (fun ls' hl' => kk ((zz_sv_len _ _ _).trans hnL) ls' hR (zz_sv1 (v := .int (x + Int32.ofInt n)) rfl hl'))
    · cases h
  | iadd => cases lenO _ hlen; obtain ⟨x, y, r, rfl, rfl, rfl, rfl⟩ := zz_i2_ok h; exact lv_iadd hx hb hd (kk hnL ls hR hl)
  | isub => cases lenO _ hlen; obtain ⟨x, y, r, rfl, rfl, rfl, rfl⟩ := zz_i2_ok h; exact lv_isub hx hb hd (kk hnL ls hR hl)
  | imul => cases lenO _ hlen; obtain ⟨x, y, r, rfl, rfl, rfl, rfl⟩ := zz_i2_ok h; exact lv_imul hx hb hd (kk hnL ls hR hl)
  | iand => cases lenO _ hlen; obtain ⟨x, y, r, rfl, rfl, rfl, rfl⟩ := zz_i2_ok h; exact lv_iand hx hb hd (kk hnL ls hR hl)
  | ior => cases lenO _ hlen; obtain ⟨x, y, r, rfl, rfl, rfl, rfl⟩ := zz_i2_ok h; exact lv_ior hx hb hd (kk hnL ls hR hl)
  | ixor => cases lenO _ hlen; obtain ⟨x, y, r, rfl, rfl, rfl, rfl⟩ := zz_i2_ok h; exact lv_ixor hx hb hd (kk hnL ls hR hl)
  | ishl => cases lenO _ hlen; obtain ⟨x, y, r, rfl, rfl, rfl, rfl⟩ := zz_i2_ok h; exact lv_ishl hx hb hd (kk hnL ls hR hl)
  | ishr => cases lenO _ hlen; obtain ⟨x, y, r, rfl, rfl, rfl, rfl⟩ := zz_i2_ok h; exact lv_ishr hx hb hd (kk hnL ls hR hl)
  | iushr => cases lenO _ hlen; obtain ⟨x, y, r, rfl, rfl, rfl, rfl⟩ := zz_i2_ok h; exact lv_iushr hx hb hd rfl (kk hnL ls hR hl)
  | idiv => cases lenO _ hlen; obtain ⟨x, y, r, rfl, hne, rfl, rfl, rfl⟩ := zz_i2n_ok h; exact lv_idiv hx hb hd hne (kk hnL ls hR hl)
  | irem => cases lenO _ hlen; obtain ⟨x, y, r, rfl, hne, rfl, rfl, rfl⟩ := zz_i2n_ok h; exact lv_irem hx hb hd hne (kk hnL ls hR hl)
  | ineg =>
    cases lenO _ hlen
    simp only [zz_da] at h
    split at h
    · cases h; exact lv_ineg hx hb hd (kk hnL ls hR hl)
    · cases h
  | i2l =>
    cases lenO _ hlen
    simp only [zz_da] at h
    split at h
    · cases h; exact lv_i2l hx hb hd rfl (kk hnL ls hR hl)
    · cases h
  | l2i =>
    cases lenO _ hlen
    simp only [zz_da] at h
    split at h
    · cases h; exact lv_l2i hx hb hd rfl (kk hnL ls hR hl)
    · cases h
  | ladd => cases lenO _ hlen; obtain ⟨x, y, r, rfl, rfl, rfl, rfl⟩ := zz_l2_ok h; exact lv_ladd hx hb hd (kk hnL ls hR hl)
  | lsub => cases lenO _ hlen; obtain ⟨x, y, r, rfl, rfl, rfl, rfl⟩ := zz_l2_ok h; exact lv_lsub hx hb hd (kk hnL ls hR hl)
  | lmul => cases lenO _ hlen; obtain ⟨x, y, r, rfl, rfl, rfl, rfl⟩ := zz_l2_ok h; exact lv_lmul hx hb hd (kk hnL ls hR hl)
  | ldiv => cases lenO _ hlen; obtain ⟨x, y, r, rfl, hne, rfl, rfl, rfl⟩ := zz_l2n_ok h; exact lv_ldiv hx hb hd hne (kk hnL ls hR hl)
  | lrem => cases lenO _ hlen; obtain ⟨x, y, r, rfl, hne, rfl, rfl, rfl⟩ := zz_l2n_ok h; exact lv_lrem hx hb hd hne (kk hnL ls hR hl)
  | lcmp =>
    cases lenO _ hlen
    simp only [zz_da] at h
    split at h
    · cases h; exact W.lcmp hx hb hd (kk hnL ls hR hl)
    · cases h
  | dup =>
    cases lenO _ hlen
    simp only [zz_da] at h
    split at h
    · split at h
      · rename_i v r hc
        cases h
        exact lv_dup hx hb hd ((zz_tr_cat g v).trans hc) (kk hnL ls hR hl)
      · cases h
    · cases h
  | pop =>
    cases lenO _ hlen
    simp only [zz_da] at h
    split at h
    · split at h
      · rename_i v r hc
        cases h
        exact lv_pop hx hb hd ((zz_tr_cat g v).trans hc) (kk hnL ls hR hl)
      · cases h
    · cases h
  | dup2 =>
    cases lenO _ hlen
    simp only [zz_da] at h
    split at h
    · split at h
      · rename_i v w r hc
        cases h
        exact lv_dup2_11 hx hb hd ((zz_tr_cat g v).trans hc.1) ((zz_tr_cat g w).trans hc.2) (kk hnL ls hR hl)
      · cases h
    · cases h
  | goto off => cases lenO _ hlen; obtain ⟨h1, rfl, rfl⟩ := zz_go_ok h; exact lv_goto hx hb hd (zz_tg_eq h1) (kk hnL ls hR hl)
  | ifCond op off =>
    cases lenO _ hlen
    simp only [zz_da] at h
    split at h
    · rename_i x r
      obtain ⟨h1, rfl, rfl⟩ := zz_go_ok h
      have k0 := kk hnL ls hR hl
      obtain ⟨t, ht, hb1 | hb1⟩ := zz_br_ok h1
      · obtain ⟨hb1, rfl⟩ := hb1
        cases op <;> simp only [zz_if, decide_eq_true_eq, Bool.not_eq_true', decide_eq_false_iff_not] at hb1
        · exact lv_if_eq hx hb hd ht (fun _ => k0) (fun q => absurd hb1 q)
        · exact lv_if_ne hx hb hd ht (fun _ => k0) (fun q => absurd q hb1)
        · exact lv_if_lt hx hb hd ht (fun _ => k0) (fun q => absurd hb1 q)
        · exact lv_if_ge hx hb hd ht (fun _ => k0) (fun q => absurd hb1 q)
        · exact lv_if_gt hx hb hd ht (fun _ => k0) (fun q => absurd hb1 q)
        · exact lv_if_le hx hb hd ht (fun _ => k0) (fun q => absurd hb1 q)
      · obtain ⟨hb1, rfl⟩ := hb1
        cases op <;> simp only [zz_if, decide_eq_false_iff_not, Bool.not_eq_false', decide_eq_true_eq] at hb1
        · exact lv_if_eq hx hb hd ht (fun q => absurd q hb1) (fun _ => k0)
        · exact lv_if_ne hx hb hd ht (fun q => absurd hb1 q) (fun _ => k0)
        · exact lv_if_lt hx hb hd ht (fun q => absurd q hb1) (fun _ => k0)
        · exact lv_if_ge hx hb hd ht (fun q => absurd q hb1) (fun _ => k0)
        · exact lv_if_gt hx hb hd ht (fun q => absurd q hb1) (fun _ => k0)
        · exact lv_if_le hx hb hd ht (fun q => absurd q hb1) (fun _ => k0)
    · cases h
  | if_icmp op off =>
    cases lenO _ hlen
    simp only [zz_da] at h
    split at h
    · rename_i y x r
      obtain ⟨h1, rfl, rfl⟩ := zz_go_ok h
      have k0 := kk hnL ls hR hl
      obtain ⟨t, ht, hb1 | hb1⟩ := zz_br_ok h1
      · obtain ⟨hb1, rfl⟩ := hb1
        cases op <;> simp only [zz_ic, decide_eq_true_eq, Bool.not_eq_true', decide_eq_false_iff_not] at hb1
        · exact lv_icmp_eq hx hb hd ht (fun _ => k0) (fun q => absurd hb1 q)
        · exact lv_icmp_ne hx hb hd ht (fun _ => k0) (fun q => absurd q hb1)
        · exact lv_icmp_lt hx hb hd ht (fun _ => k0) (fun q => absurd hb1 q)
        · exact lv_icmp_ge hx hb hd ht (fun _ => k0) (fun q => absurd hb1 q)
        · exact lv_icmp_gt hx hb hd ht (fun _ => k0) (fun q => absurd hb1 q)
        · exact lv_icmp_le hx hb hd ht (fun _ => k0) (fun q => absurd hb1 q)
      · obtain ⟨hb1, rfl⟩ := hb1
        cases op <;> simp only [zz_ic, decide_eq_false_iff_not, Bool.not_eq_false', decide_eq_true_eq] at hb1
        · exact lv_icmp_eq hx hb hd ht (fun q => absurd q hb1) (fun _ => k0)
        · exact lv_icmp_ne hx hb hd ht (fun q => absurd hb1 q) (fun _ => k0)
        · exact lv_icmp_lt hx hb hd ht (fun q => absurd q hb1) (fun _ => k0)
        · exact lv_icmp_ge hx hb hd ht (fun q => absurd q hb1) (fun _ => k0)
        · exact lv_icmp_gt hx hb hd ht (fun q => absurd q hb1) (fun _ => k0)
        · exact lv_icmp_le hx hb hd ht (fun q => absurd q hb1) (fun _ => k0)
    · cases h
  | tableswitch dflt lo hi offs =>
    simp only [zz_da] at h
    split at h
    · rename_i x r
      split at h
      · rename_i hc
        obtain ⟨h1, rfl, rfl⟩ := zz_go_ok h
        exact lv_tableOut hx hb hd hc (zz_tg_eq h1) (kk hnL ls hR hl)
      · rename_i hc
        split at h
        · rename_i off ho
          obtain ⟨h1, rfl, rfl⟩ := zz_go_ok h
          exact lv_tableIn hx hb hd (fun q => hc (Or.inl q)) (fun q => hc (Or.inr q)) ho (zz_tg_eq h1) (kk hnL ls hR hl)
        · cases h
    · cases h
  | lookupswitch dflt ps =>
    simp only [zz_da] at h
    split at h
    · rename_i x r
      split at h
      · rename_i hc
        obtain ⟨h1, rfl, rfl⟩ := zz_go_ok h
        exact lv_lookup hx hb hd hc rfl (zz_tg_eq h1) (kk hnL ls hR hl)
      · cases h
    · cases h
  | _ => exact absurd (show (none : zz_O) = some _ from h) (by simp)
end ZZ1
end
section
/-! one step of the pure machine on cells -/
noncomputable def zz_ok (U : State) : Prop := ∀ w ∈ lw_tbl, zz_good w = true → ∀ a : Array Value, w.before a U = true
theorem zz_aoA {t : FieldType} {u U : State} (hvm : u.vm.Alike U.vm) (h : (Jvm.Cond.arrayOver (.array t)).before #[] u = true) (a : Array Value) : (Jvm.Cond.arrayOver (.array t)).before a U = true := by
  obtain ⟨comp, c, k, h1, h2, h3, h4, h5⟩ := arrayOverA_spec h
  obtain ⟨k', hk', he⟩ := hvm.2.2 _ _ h3
  have hb : U.vm.bare = u.vm.bare := by first | exact hvm.bare_eq | exact hvm.bare_eq.symm
  have h9 := va_idx_bare U.vm comp
  rw [hb] at h9
  have hi := h9.symm.trans ((va_idx_bare u.vm comp).trans h2)
  have hkind : k'.kind = .array comp (.array t) := by rw [he]; exact h4
  have f1 : U.vm.findClass (FieldType.array t).toString = some comp := by rw [hvm.findClass]; exact h1
  have f2 : U.vm.findClass ("[" ++ (FieldType.array t).toString) = some c := by rw [hvm.findClass]; exact h5
  unfold Jvm.Cond.before Jvm.Cond.holds
  simp only [Jvm.Cond.value]
  rw [f1, Option.bind_some]
  refine (congrArg (fun o : Option Nat => (o.bind (fun c => (U.vm.classes[c]?).map fun (k : Class) => match k.kind with | .array _ ty => decide (ty = FieldType.array t) && decide (U.vm.findClass ("[" ++ (FieldType.array t).toString) = some c) | _ => false) == some true)) hi).trans ?_
  simp [hk', hkind, f2]
theorem zz_word {w : Jvm.Cond} {s U : State} (hg : zz_good w = true) (hW : s.WarmedH U.vm) (h : ∀ a : Array Value, w.before a s = true) (a : Array Value) : w.before a U = true := by
  cases w with
  | arrayClass ty => exact word_at hW (Or.inr ⟨_, rfl⟩) (h a)
  | castable x y => exact va_Nw.use rfl (va_Nw.warmC hW (h #[]))
  | fieldLinkNest x i b n d y => exact va_Nw.use rfl (va_Nw.warmF hW (h #[]))
  | methodLinkNest x i b y => exact va_Nw.use rfl (va_Nw.warmM hW (h #[]))
  | arrayOver t => cases t with
    | object C => exact va_AO.use (va_AO.moved hW.alike (h #[]))
    | array C => exact zz_aoA hW.alike (h #[]) a
    | _ => exact word_at hW (Or.inl hg) (h a)
  | _ => exact word_at hW (Or.inl hg) (h a)
theorem zz_ok.warm {s U : State} (hW : s.WarmedH U.vm) (h : zz_ok s) : zz_ok U := fun w hw hg => zz_word hg hW (h w hw hg)
theorem zz_wd_ok {i : Nat} {w : Jvm.Cond} (h : zz_wd i w = true) {U : State} (hU : zz_ok U) (a : Array Value) : w.before a U = true := by
  unfold zz_wd at h
  split at h
  · rename_i v hv
    simp only [Bool.and_eq_true, decide_eq_true_eq] at h
    exact hU w (h.1 ▸ List.mem_of_getElem? (zz_look_ok hv)) h.2 a
  · cases h
theorem zz_cok_all (ci : Nat) (q : vw_C) (h : classes[ci]? = some q) : zz_cok q = true := List.all_eq_true.mp zz_cok_l q (List.mem_of_getElem? h)
theorem zz_cok_at {q : vw_C} (h : zz_cok q = true) {k : Nat} (hk : k < q.2.2) : (parseFieldDescriptor (q.2.1 k).2.2.1).isSome = true ∧ (∀ j, j < q.2.2 → k ≠ j → (q.2.1 k).2.1 ≠ (q.2.1 j).2.1) ∧ u_lay q.1 q.2.1 k ∈ lw_tbl ∧ zz_good (u_lay q.1 q.2.1 k) = true := by
  have h1 := List.all_eq_true.mp h k (List.mem_range.mpr hk)
  simp only [Bool.and_eq_true, decide_eq_true_eq] at h1
  refine ⟨h1.1, fun j hj hne => ?_, h1.2.2⟩
  have h2 := List.all_eq_true.mp h1.2.1 j (List.mem_range.mpr hj)
  simp only [Bool.or_eq_true, decide_eq_true_eq, Bool.not_eq_true', decide_eq_false_iff_not] at h2
  exact h2.resolve_left hne
theorem zz_cts {q : vw_C} (h : zz_cok q = true) {U : State} (hU : zz_ok U) (a : Array Value) : ∀ w ∈ u_ws q.1 q.2.1 q.2.2, w.before a U = true := by
  intro w hw
  obtain ⟨k, hk, rfl⟩ := List.mem_map.mp hw
  obtain ⟨-, -, h1, h2⟩ := zz_cok_at h (List.mem_range.mp hk)
  exact hU _ h1 h2 a
theorem zz_fty {q : vw_C} (h : zz_cok q = true) {k : Nat} (hk : k < q.2.2) : parseFieldDescriptor (q.2.1 k).2.2.1 = some (zz_ft q k) := by
  have h1 := (zz_cok_at h hk).1
  unfold zz_ft
  cases hq : parseFieldDescriptor (q.2.1 k).2.2.1 with
  | none => rw [hq] at h1; cases h1
  | some t => rfl
theorem zz_fits {tc : Nat} {ty : FieldType} {v : Value} (g : zz_G) (h1 : zz_tc tc ty = true) (h2 : zz_fit tc v = true) : narrow ty (zz_tr g v) = zz_tr g v ∧ fits ty (zz_tr g v) = true := by
  unfold zz_tc at h1
  split at h1
  · simp only [decide_eq_true_eq] at h1
    subst h1
    simp only [zz_fit] at h2
    split at h2
    · exact ⟨rfl, rfl⟩
    · cases h2
  · simp only [decide_eq_true_eq] at h1
    subst h1
    simp only [zz_fit] at h2
    split at h2
    · simp only [Bool.or_eq_true, decide_eq_true_eq] at h2
      rcases h2 with rfl | rfl
      · exact ⟨rfl, rfl⟩
      · exact ⟨rfl, rfl⟩
    · cases h2
  · simp only [zz_fit] at h2
    cases ty <;> first | (cases h1; done) | skip
    all_goals
      split at h2
      · exact ⟨rfl, rfl⟩
      · exact ⟨rfl, rfl⟩
      · cases h2
  · simp only [decide_eq_true_eq] at h1
    subst h1
    simp only [zz_fit] at h2
    split at h2
    · exact ⟨rfl, rfl⟩
    · cases h2
  · cases h1
-- cells in the heap
theorem zz_at.kept {g : zz_G} {i : Nat} {c : zz_C} {H H1 : Heap} (h : zz_at g i c H) (hq : H1[zz_ad g i]? = H[zz_ad g i]?) : zz_at g i c H1 := by
  unfold zz_at at h ⊢
  split
  · exact hq.trans h
  · exact hq.trans h
  · obtain ⟨r, h1, h2⟩ := h
    exact ⟨r, h1, h2.kept hq⟩
theorem zz_ad_pos (g : zz_G) {i : Nat} (h : 0 < i) : zz_ad g i = g.1 + i := by
  unfold zz_ad
  rw [if_neg (by omega)]
theorem zz_ad_ne (g : zz_G) {i j : Nat} (h : 0 < i) (h2 : 0 < j) (hne : i ≠ j) : zz_ad g i ≠ zz_ad g j := by
  rw [zz_ad_pos g h, zz_ad_pos g h2]
  omega
theorem zz_P.set {g : zz_G} {cs : zz_W} {H H1 : Heap} {i : Nat} {c0 c : zz_C} (h : zz_P g cs H) (hi : cs[i]? = some (some c0)) (hz : H1.size = H.size) (hq : ∀ q, q ≠ zz_ad g i → H1[q]? = H[q]?) (hc : zz_at g i c H1) : zz_P g (cs.set i (some c)) H1 := by
  refine ⟨by rw [hz, List.length_set]; exact h.1, fun j d hj => ?_⟩
  have hl : i < cs.length := (List.getElem?_eq_some_iff.mp hi).1
  by_cases hij : i = j
  · subst hij
    rw [List.getElem?_set_self hl] at hj
    cases hj
    exact ⟨(h.2 i c0 hi).1, hc⟩
  · rw [List.getElem?_set_ne hij] at hj
    obtain ⟨h1, h2⟩ := h.2 j d hj
    exact ⟨h1, h2.kept (hq _ (zz_ad_ne g h1 (h.2 i c0 hi).1 (Ne.symm hij)))⟩
theorem zz_R.set {g : zz_G} {s : State} {b0 cs : zz_W} {H H1 : Heap} {locs : List Loc} {i k : Nat} {c0 c : zz_C} (h : zz_R g s b0 cs H locs) (hi : cs[i]? = some (some c0)) (hz : H1.size = H.size) (hq : ∀ q, q ≠ zz_ad g i → H1[q]? = H[q]?) (hc : zz_at g i c H1) : zz_R g s b0 (cs.set i (some c)) H1 (locs ++ [⟨zz_ad g i, k⟩]) := by
  obtain ⟨h1, h2, h3, h4, h5⟩ := h
  have hp := (h1.2 i c0 hi).1
  have ha := zz_ad_pos g hp
  refine ⟨h1.set hi hz hq hc, by omega, fun q hq1 => (hq q (by omega)).trans (h3 q hq1), fun q hq1 => ?_, fun j hj => ?_⟩
  · rcases List.mem_append.mp hq1 with h5 | h5
    · exact h4 q h5
    · rw [List.mem_singleton.mp h5]
      show g.1 < zz_ad g i
      omega
  · obtain ⟨h6, h7⟩ := h5 j hj
    have hij : i ≠ j := fun e => by
      subst e
      rw [hi] at h6
      cases h6
    exact ⟨by rw [List.getElem?_set_ne hij]; exact h6, (hq _ (by omega)).trans h7⟩
theorem zz_R.push {g : zz_G} {s : State} {b0 cs : zz_W} {H H1 : Heap} {locs : List Loc} {c : zz_C} (h : zz_R g s b0 cs H locs) (h0 : 0 < cs.length) (hz : H1.size = H.size + 1) (hq : ∀ q, q < H.size → H1[q]? = H[q]?) (hc : zz_at g cs.length c H1) : zz_R g s b0 (cs ++ [some c]) H1 locs := by
  obtain ⟨h1, h2, h3, h4, h8⟩ := h
  have hsz := h1.1
  refine ⟨⟨by rw [hz, List.length_append, hsz]; rfl, fun j d hj => ?_⟩, by omega, fun q hq1 => (hq q (by omega)).trans (h3 q hq1), h4, fun j hj => ?_⟩
  · by_cases hl : j < cs.length
    · rw [List.getElem?_append_left hl] at hj
      obtain ⟨h5, h6⟩ := h1.2 j d hj
      exact ⟨h5, h6.kept (hq _ (by rw [zz_ad_pos g h5]; omega))⟩
    · rw [List.getElem?_append_right (by omega)] at hj
      have hz1 : j - cs.length < 1 := (List.getElem?_eq_some_iff.mp hj).1
      have hj0 : j = cs.length := by omega
      subst hj0
      rw [Nat.sub_self] at hj
      cases hj
      exact ⟨h0, hc⟩
  · obtain ⟨h6, h7⟩ := h8 j hj
    have hl : j < cs.length := (List.getElem?_eq_some_iff.mp h6).1
    exact ⟨by rw [List.getElem?_append_left hl]; exact h6, (hq _ (by omega)).trans h7⟩
theorem zz_cell_eq {cs : zz_W} {i : Nat} {c : zz_C} (h : zz_cell cs i = some c) : cs[i]? = some (some c) := by
  unfold zz_cell at h
  split at h
  · rename_i d hd
    cases h
    exact hd
  · cases h
theorem zz_rt_ok {t : Nat} (h : zz_rt t = true) : ∃ ty, zz_ty[t]? = some ty ∧ ty.isReference = true := by
  unfold zz_rt at h
  split at h
  · rename_i ty hty
    exact ⟨ty, hty, h⟩
  · cases h
theorem zz_ix_ok {j : Int32} {n : Nat} (h : zz_ix j n = true) : ¬ j < 0 ∧ j.toNatClampNeg < n := by
  unfold zz_ix at h
  simp only [Bool.and_eq_true, Bool.not_eq_true', decide_eq_false_iff_not, decide_eq_true_eq] at h
  exact h
section ZZ2
variable {g : zz_G} {p : Program} {l : Launch} {e : Env} {R : Room} {s : State} {m : MethodId} {args : Array Value} {below : List Frame} {meth : Method} {c : Code} {Q : State → Prop} {cc : ByteArray} {nL pc pc' n cu su : Nat} {L L' : List (Option Value)} {st st' : List Value} {c0 cs cs' : zz_W}
theorem zz_get (hx : p.tables.exec = Jvm.exec) (hb : c.code = cc) {own : String} (hown : s.vm.findClass own = some m.cls) (hT : zz_ok s) (hK : zz_K g s) {idx ci k w i : Nat} {q : vw_C} (hq : classes[ci]? = some q) (hcok : zz_cok q = true) (hk : k < q.2.2) (hlk : zz_lk own idx w (q.2.1 k) = true)
    {H : Heap} {locs : List Loc} {ls : Array Slot} {rest : List Value} {fs : List Value} {v : Value} (hat : zz_at g i (.inr (.inr (ci, fs))) H) (hv : fs[k]? = some v) (hd : decode cc pc = .ok (.getfield idx, 3))
    (kk : W p l e R s m args below meth c H locs cu su Q (F0 m (pc + 3) ls (zz_tr g v :: rest))) : W p l e R s m args below meth c H locs cu su Q (F0 m pc ls (.ref (zz_ad g i) :: rest)) := by
  obtain ⟨r, h1, cell, q1, q2, q3, q4⟩ := hat
  cases hq.symm.trans h1
  obtain ⟨hS, hfc, kC, hkC, hkind⟩ := hK.1 ci q hq
  obtain ⟨cf, kf, fi, f, hi, hsl⟩ := hS k hk
  have hst := (u_facts hfc hkC (u_lays (args := args) (zz_cts hcok hT args) (fun _ h => h) hk) hi).1
  have hval : cell.slots[f.slot]? = some (zz_tr g v) := by
    rw [hsl, q4 k hk]
    simp [vp_V, hv]
  simp only [zz_lk, Bool.or_eq_true] at hlk
  rcases hlk with h | h
  · exact W.getf hx hb hown (zz_wd_ok h hT args) hi hst q1 (by rw [q3]; exact fun h => by cases h) hval rfl rfl hd kk
  · exact va_Wgetf hx hb hown (zz_wd_ok h hT args) hi hst q1 (by rw [q3]; exact fun h => by cases h) hval rfl rfl hd kk
theorem zz_put (hx : p.tables.exec = Jvm.exec) (hb : c.code = cc) {own : String} (hown : s.vm.findClass own = some m.cls) (hT : zz_ok s) (hK : zz_K g s) {idx ci k w i tc : Nat} {q : vw_C} (hq : classes[ci]? = some q) (hcok : zz_cok q = true) (hk : k < q.2.2) (htc : zz_tc tc (zz_ft q k) = true)
    {nm : String} (hnm0 : nm = "<init>" → meth.name = "<init>") (hlk : (if (q.2.1 k).2.2.2 = true then zz_wd w (.fieldLink own idx (q.2.1 k).1 (q.2.1 k).2.1 (q.2.1 k).2.2.1) && (decide ((q.2.1 k).1 = own) && decide (nm = "<init>")) else zz_lk own idx w (q.2.1 k)) = true)
    {H : Heap} {locs : List Loc} {ls : Array Slot} {rest : List Value} {fs : List Value} {v : Value} (hR : zz_R g s c0 cs H locs) (hi0 : cs[i]? = some (some (.inr (.inr (ci, fs))))) (hkl : k < fs.length) (hfit : zz_fit tc v = true) (hd : decode cc pc = .ok (.putfield idx, 3))
    (kk : ∀ (H1 : Heap) (locs1 : List Loc), zz_R g s c0 (cs.set i (some (.inr (.inr (ci, fs.set k v))))) H1 locs1 → W p l e R s m args below meth c H1 locs1 cu su Q (F0 m (pc + 3) ls rest)) : W p l e R s m args below meth c H locs cu su Q (F0 m pc ls (zz_tr g v :: .ref (zz_ad g i) :: rest)) := by
  obtain ⟨hp0, hat⟩ := hR.1.2 i _ hi0
  obtain ⟨r, h1, cell, q1, q2, q3, q4⟩ := hat
  cases hq.symm.trans h1
  have hts := zz_cts hcok hT args
  have hap := va_apart (own := own) (D := g.2.2.2) (cl := classes) (tys := []) (s := s) (args := args) (ci := ci) hts (fun _ h => h) (zz_ft q) (fun k hk => zz_fty hcok hk) (fun a ha b hb hne => (zz_cok_at hcok ha).2.1 b hb hne) ⟨hK.1, fun k q h => by simp at h⟩ hq
  obtain ⟨hS, hfc, kC, hkC, hkind⟩ := hK.1 ci q hq
  obtain ⟨cf, kf, fi, f, hi, hsl⟩ := hS k hk
  obtain ⟨hn, hft⟩ := zz_fits g htc hfit
  have hst := (u_facts hfc hkC (u_lays (args := args) hts (fun _ h => h) hk) hi).1
  have hfin : ∀ H1 : Heap, H1[zz_ad g i]? = some (cell.setSlot f.slot (zz_tr g v)) → zz_at g i (.inr (.inr (ci, fs.set k v))) H1 := by
    intro H1 e1
    refine ⟨q, hq, t_OB.to (V := updV (vp_V (fs.map (zz_tr g))) k (zz_tr g v)) ⟨_, e1, q2, q3, ?_⟩ (fun j _ => ?_)⟩
    · rw [hsl]
      exact t_set q4 hap hk _
    · rw [List.map_set]
      exact vp_updV_set (by rw [List.length_map]; exact hkl) _ j
  split at hlk
  · rename_i hF
    simp only [Bool.and_eq_true, decide_eq_true_eq] at hlk
    obtain ⟨hw, hdecl, hnm⟩ := hlk
    have hlay := hts _ (u_in_lay hk)
    unfold u_lay at hlay
    rw [if_pos hF] at hlay
    have hcf : m.cls = cf := by
      obtain ⟨_, _, c', _, _, _, -, -, hf', -, -, -, hown2, -⟩ := Cond.laysFinal_spec hlay
      have e1 : c' = cf := by have := hi.symm.trans hf'; simp at this; exact this.1.symm
      rw [hdecl] at hown2
      rw [← e1]; exact Option.some.inj (hown.symm.trans hown2)
    have h6 := u_fits hfc hkC hkind (Or.inr hlay) hi (zz_fty hcok hk) hn hft
    exact W.putFinK hx hb hown (zz_wd_ok hw hT args) hi hst hcf (hnm0 hnm) (by rw [q2]; exact h6) q1 q3 (by rw [hsl]; exact k2_hasslot (q4 k hk)) rfl rfl hd fun H' e1 e2 e3 => kk H' _ (hR.set hi0 e2 e3 (hfin H' e1))
  · rename_i hF
    have hlay := hts _ (u_in_lay hk)
    unfold u_lay at hlay
    rw [if_neg hF] at hlay
    have h6 := u_store hfc hkC hkind hlay hi (zz_fty hcok hk) hn hft
    simp only [zz_lk, Bool.or_eq_true] at hlk
    rcases hlk with h | h
    · exact W.putK hx hb (f := f) ⟨hown, zz_wd_ok h hT args, ⟨_, _, _, hi⟩, hst⟩ (by rw [q2]; exact h6) q1 q3 (by rw [hsl]; exact k2_hasslot (q4 k hk)) rfl rfl hd fun H' e1 e2 e3 => kk H' _ (hR.set hi0 e2 e3 (hfin H' e1))
    · exact va_WputK hx hb (f := f) hown (zz_wd_ok h hT args) hi hst (by rw [q2]; exact h6) q1 q3 (by rw [hsl]; exact k2_hasslot (q4 k hk)) rfl rfl hd fun H' e1 e2 e3 => kk H' _ (hR.set hi0 e2 e3 (hfin H' e1))
theorem zz_nin {j : Int32} {n : Nat} (h : ¬ j < 0 ∧ j.toNatClampNeg < n) : ¬ (j < 0 ∨ n ≤ j.toNatClampNeg) := fun q => q.elim h.1 (fun z => by omega)
theorem zz_iast_cell {cA : ClassId} {xs : List Int32} {j : Nat} {x : Int32} (hj : j < xs.length) : (arrV cA xs.length (fun k => .int (xs.getD k 0))).setSlot j (.int x) = arrV cA (xs.set j x).length (fun k => .int ((xs.set j x).getD k 0)) := by
  rw [arrV_store, List.length_set]
  congr 1
  funext k
  unfold updV
  rw [set_getD x hj]
  split <;> rfl
theorem zz_aast_cell {g : zz_G} {cA : ClassId} {rs : List (Option Nat)} {j v : Nat} (hj : j < rs.length) : (arrV cA rs.length (fun k => zz_tr g (va_rf (rs.getD k none)))).setSlot j (.ref (zz_ad g v)) = arrV cA (rs.set j (some v)).length (fun k => zz_tr g (va_rf ((rs.set j (some v)).getD k none))) := by
  rw [arrV_store, List.length_set]
  congr 1
  funext k
  unfold updV
  by_cases hk : k = j
  · subst hk
    rw [if_pos rfl, List.getD_eq_getElem?_getD, List.getElem?_set_self hj]
    rfl
  · rw [if_neg hk]
    show zz_tr g (va_rf (rs.getD k none)) = _
    rw [List.getD_eq_getElem?_getD, List.getD_eq_getElem?_getD, List.getElem?_set_ne (Ne.symm hk)]
set_option maxHeartbeats 4000000 in
theorem zz_db_ok (hx : p.tables.exec = Jvm.exec) (hb : c.code = cc) {own : String} (hown : s.vm.findClass own = some m.cls) (hT : zz_ok s) (hK : zz_K g s) {ins : Instr} {len : Nat} {r : List Nat} {v0 : Value} (hd : decode cc pc = .ok (ins, len)) (hlen : zz_len ins = 0 ∨ len = zz_len ins) {nm : String} (hnm0 : nm = "<init>" → meth.name = "<init>") (htb : zz_tb own nm ins r v0 = true) (h : zz_db ins r v0 pc L st cs = some (pc', L', st', cs'))
    (kk : zz_Z g c0 p l e R s m args below meth c Q nL pc' L' st' cs' cu su) : zz_Z g c0 p l e R s m args below meth c Q nL pc L st cs cu su := by
  intro hnL H locs ls hR hl
  have lenO : ∀ k : Nat, (k + 1 = 0 ∨ len = k + 1) → len = k + 1 := fun k q => q.resolve_left (by omega)
  cases ins with
  | getfield idx =>
    cases lenO _ hlen
    simp only [zz_db] at h
    split at h <;> try (cases h; done)
    split at h <;> try (cases h; done)
    split at h <;> try (cases h; done)
    split at h <;> try (cases h; done)
    split at h <;> try (cases h; done)
    rename_i ci k w _ i rest _ cj fs hcell hcj _ v hv
    cases h
    subst hcj
    simp only [zz_tb] at htb
    split at htb
    · rename_i q hq
      simp only [Bool.and_eq_true, decide_eq_true_eq] at htb
      exact zz_get hx hb hown hT hK hq (zz_cok_all cj q hq) htb.1 htb.2 (hR.1.2 i _ (zz_cell_eq hcell)).2 hv hd (kk hnL H locs ls hR hl)
    · cases htb
  | putfield idx =>
    cases lenO _ hlen
    simp only [zz_db] at h
    split at h <;> try (cases h; done)
    split at h <;> try (cases h; done)
    split at h <;> try (cases h; done)
    split at h <;> try (cases h; done)
    rename_i ci k w tc _ v i rest _ cj fs hcell hc
    cases h
    obtain ⟨hcj, hkl, hfit⟩ := hc
    subst hcj
    simp only [zz_tb] at htb
    split at htb
    · rename_i q hq
      simp only [Bool.and_eq_true] at htb
      obtain ⟨t1, t2, t3⟩ := htb
      exact zz_put hx hb hown hT hK hq (zz_cok_all cj q hq) (of_decide_eq_true t1) t2 hnm0 t3 hR (zz_cell_eq hcell) hkl hfit hd (fun H1 locs1 hR1 => kk hnL H1 locs1 ls hR1 hl)
    · cases htb
  | iaload =>
    cases lenO _ hlen
    simp only [zz_db] at h
    split at h <;> try (cases h; done)
    split at h <;> try (cases h; done)
    split at h <;> try (cases h; done)
    rename_i j i rest _ xs hcell hix
    cases h
    have hix := zz_ix_ok hix
    have hat := (hR.1.2 i _ (zz_cell_eq hcell)).2
    refine W.iald (v := .int (xs.getD j.toNatClampNeg 0)) hx hb hat ((hK.2 0 .int zz_ty0).1 _ _) (fun q => by cases q) (by rw [arrV_size]; exact zz_nin hix) (by rw [arrV_read _ _ hix.2]) rfl rfl hd (kk hnL H locs ls hR hl)
  | iastore =>
    cases lenO _ hlen
    simp only [zz_db] at h
    split at h <;> try (cases h; done)
    split at h <;> try (cases h; done)
    split at h <;> try (cases h; done)
    rename_i x j i rest _ xs hcell hix
    cases h
    have hix := zz_ix_ok hix
    have hat := (hR.1.2 i _ (zz_cell_eq hcell)).2
    exact W.iast hx hb hat ((hK.2 0 .int zz_ty0).1 _ _) (fun q => by cases q) (by rw [arrV_size]; exact zz_nin hix) rfl rfl hd fun H1 e1 z1 o1 => kk hnL H1 _ ls (hR.set (zz_cell_eq hcell) z1 o1 (by
      show H1[zz_ad g i]? = _
      rw [e1, zz_iast_cell hix.2])) hl
  | aaload =>
    cases lenO _ hlen
    simp only [zz_db] at h
    split at h <;> try (cases h; done)
    split at h <;> try (cases h; done)
    split at h <;> try (cases h; done)
    rename_i j i rest _ t rs hcell hix
    cases h
    obtain ⟨ty, hty, href⟩ := zz_rt_ok hix.2
    have hix := zz_ix_ok hix.1
    have hat := (hR.1.2 i _ (zz_cell_eq hcell)).2
    exact W.aald (v := zz_tr g (va_rf (rs.getD j.toNatClampNeg none))) (ty := ty) hx hb hat ((hK.2 t ty hty).1 _ _) href (fun q => by cases q) (by rw [arrV_size]; exact zz_nin hix) (by rw [arrV_read _ _ hix.2]) rfl rfl hd (kk hnL H locs ls hR hl)
  | aastore =>
    cases lenO _ hlen
    simp only [zz_db] at h
    split at h <;> try (cases h; done)
    split at h <;> try (cases h; done)
    split at h <;> try (cases h; done)
    split at h <;> try (cases h; done)
    split at h <;> try (cases h; done)
    rename_i t ci w _ v j i rest _ u rs hcell _ cj fs hcv hc
    cases h
    obtain ⟨hu, hcj, hix⟩ := hc
    subst hu
    subst hcj
    have hix := zz_ix_ok hix
    have hat := (hR.1.2 i _ (zz_cell_eq hcell)).2
    obtain ⟨r, hr, cellV, g1, g2, g3, -⟩ := (hR.1.2 v _ (zz_cell_eq hcv)).2
    simp only [zz_tb] at htb
    split at htb <;> try (cases htb; done)
    rename_i q hq
    split at htb <;> try (cases htb; done)
    rename_i E hE
    cases hr.symm.trans hq
    obtain ⟨kA, comp, k1, k2, k3, -⟩ := (hK.2 u _ hE).2
    obtain ⟨kE, hkE, -⟩ := Vm.findClass_spec k3
    have hcls := (hK.1 cj _ hq).2
    obtain ⟨kC, hkC, -⟩ := hcls.2
    have hasg : s.vm.assignable (g.2.2.2.1 cj) comp = true := by
      simp only [Bool.or_eq_true, decide_eq_true_eq] at htb
      rcases htb with h | h
      · subst h
        cases k3.symm.trans hcls.1
        exact va_assign hcls
      · obtain ⟨c0, t1, f1, f2, f3⟩ := Cond.castable_spec (zz_wd_ok h hT args)
        cases hcls.1.symm.trans f1
        cases k3.symm.trans f2
        exact f3
    exact W.aast hx hb hat (fun q h => by cases h) (fun h => by cases h) k1 k2 rfl hkE ⟨hix.1, by rw [arrV_size]; exact hix.2⟩ g1 (fun q h => by rw [g3] at h; cases h) (by rw [g2]; exact hkC) (by rw [g2]; exact hasg) rfl rfl hd fun H1 e1 z1 o1 => kk hnL H1 _ ls (hR.set (zz_cell_eq hcell) z1 o1 (by
      show H1[zz_ad g i]? = _
      rw [e1, zz_aast_cell hix.2])) hl
  | arraylength =>
    cases lenO _ hlen
    simp only [zz_db] at h
    split at h <;> try (cases h; done)
    split at h <;> try (cases h; done)
    · rename_i i rest _ xs hcell
      cases h
      have hat := (hR.1.2 i _ (zz_cell_eq hcell)).2
      exact W.alen (n := Int32.ofNat xs.length) hx hb hat ((hK.2 0 .int zz_ty0).1 _ _) (by rw [arrV_size] <;> rfl) rfl rfl hd (kk hnL H locs ls hR hl)
    · split at h <;> try (cases h; done)
      rename_i i rest _ t rs hcell hrt
      cases h
      obtain ⟨ty, hty, href⟩ := zz_rt_ok hrt
      have hat := (hR.1.2 i _ (zz_cell_eq hcell)).2
      exact W.alen (n := Int32.ofNat rs.length) hx hb hat ((hK.2 t ty hty).1 _ _) (by rw [arrV_size] <;> rfl) rfl rfl hd (kk hnL H locs ls hR hl)
  | ldc idx =>
    cases lenO _ hlen
    cases h
    simp only [zz_tb] at htb
    split at htb <;> try (cases htb; done)
    split at htb <;> try (cases htb; done)
    exact lv_ldc hx hb hown (zz_wd_ok htb hT args) hd (kk hnL H locs ls hR hl)
  | ldc_w idx =>
    cases lenO _ hlen
    cases h
    simp only [zz_tb] at htb
    split at htb <;> try (cases htb; done)
    split at htb <;> try (cases htb; done)
    exact lv_ldcw hx hb hown (zz_wd_ok htb hT args) hd (kk hnL H locs ls hR hl)
  | ldc2_w idx =>
    cases lenO _ hlen
    cases h
    simp only [zz_tb] at htb
    split at htb <;> try (cases htb; done)
    split at htb <;> try (cases htb; done)
    exact lv_ldc2 hx hb hown (zz_wd_ok htb hT args) hd (kk hnL H locs ls hR hl)
  | _ => exact absurd (show (none : zz_O2) = some _ from h) (by simp)
end ZZ2
end
section
/-! things that are made, calls of members that the kit knows, calls of the system's own methods, returns -/
noncomputable def zz_rm (q : Nat × Nat × Nat × Nat) : Room := { frames := q.2.2.1, cells := q.1, slots := q.2.1, locals := q.2.2.2 }
noncomputable def zz_Pc (g : zz_G) (as : List Value) (cs : zz_W) : Array Value → State → Prop := fun v U => v = (as.map (zz_tr g)).toArray ∧ zz_P g cs U.heap ∧ zz_K g U ∧ zz_ok U
noncomputable def zz_Qc (g : zz_G) (c0 : zz_W) (P : Option Value → zz_W → Prop) : Array Value → State → Outcome → State → Prop := fun _ st o t => ∃ (v : Option Value) (cs' : zz_W), o = .returned (v.map (zz_tr g)) ∧ P v cs' ∧ zz_P g cs' t.heap ∧ st.heap.size ≤ t.heap.size ∧ (∀ q : Nat, q ≤ g.1 → t.heap[q]? = st.heap[q]?) ∧ ∀ i : Nat, c0[i]? = some none → cs'[i]? = some none ∧ t.heap[g.1 + i]? = st.heap[g.1 + i]?
/-- a method's contract: it is called with 'as' over the cells cs -/
noncomputable def zz_Met (l : Launch) (g : zz_G) (mi : zz_Mi) (as : List Value) (cs : zz_W) (P : Option Value → zz_W → Prop) : Prop :=
  Met l mi.1 [.code mi.1 mi.2.1 mi.2.2.1 mi.2.2.2.1] (zz_rm mi.2.2.2.2.2.2.1) (zz_Pc g as cs) (zz_Qc g cs P) mi.2.2.2.2.2.2.1.1 mi.2.2.2.2.2.2.1.2.1 (fun q => g.1 < q)
theorem zz_K.moved {g : zz_G} {u U : State} (hvm : u.vm.Alike U.vm) (h : zz_K g u) : zz_K g U := ⟨fun c q hq => u_Kn_moved hvm (h.1 c q hq), fun t ty ht => ⟨arrOfT_moved hvm (h.2 t ty ht).1, (h.2 t ty ht).2.moved hvm⟩⟩
theorem zz_blind (g : zz_G) (as : List Value) (cs : zz_W) : FrameBlind (zz_Pc g as cs) := fun _ U gf mk h => ⟨h.1, h.2.1, zz_K.moved (u := U) (U := U.calling gf mk _) (Vm.Alike.refl U.vm) h.2.2.1, zz_ok.warm (s := U) (U := U.calling gf mk _) (State.WarmedH.refl U) h.2.2.2⟩
theorem zz_ss_tr (g : zz_G) (st : List Value) : ((st.map (zz_tr g)).map fun v => v.category).sum = zz_ss st := by
  unfold zz_ss
  rw [List.map_map]
  congr 1
  exact List.map_congr_left fun v _ => zz_tr_cat g v
theorem zz_sub1 {s : State} {c d : ClassId} {k kd : Class} (hk : s.vm.classes[c]? = some k) (hs : k.super = some d) (hd : s.vm.classes[d]? = some kd) : s.vm.isSubclass c d = true := by
  have hl : d < s.vm.classes.size := (Array.getElem?_eq_some_iff.mp hd).1
  unfold Vm.isSubclass
  obtain ⟨n, hn⟩ : ∃ n : Nat, s.vm.classes.size = n + 1 := Nat.exists_eq_add_one_of_ne_zero (Nat.ne_of_gt (Nat.lt_of_le_of_lt (Nat.zero_le _) hl))
  rw [hn]
  simp [Vm.isSubclassAux, hk, hs]
section ZZ3
variable {g : zz_G} {p : Program} {l : Launch} {e : Env} {R : Room} {s : State} {m : MethodId} {args : Array Value} {below : List Frame} {meth : Method} {c : Code} {Q : State → Prop} {cc : ByteArray} {nL pc pc' n cu su : Nat} {L L' : List (Option Value)} {st st' : List Value} {c0 cs cs' : zz_W}
theorem zz_after {mc ms : Nat} {P : Option Value → zz_W → Prop} {H : Heap} {locs : List Loc} {ls : Array Slot} {st0 : List Value} {rest : List Value} {a : Array Value} (hrun : va_Run p l e R s m args below meth c H locs cu su mc ms (F0 m pc ls st0) (rest.map (zz_tr g)) (zz_Qc g cs P a) (fun q => g.1 < q)) (hR : zz_R g s c0 cs H locs)
    (kk : ∀ (v : Option Value) (cs' : zz_W) (H1 : Heap) (locs1 : List Loc), P v cs' → zz_R g s c0 cs' H1 locs1 → W p l e R s m args below meth c H1 locs1 (cu + mc) (su + ms) Q (F0 m (pc + 3) ls ((v.toList ++ rest).map (zz_tr g)))) : W p l e R s m args below meth c H locs cu su Q (F0 m pc ls st0) := by
  intro T hT X
  obtain ⟨v', st₀, t, T', Lx, h0, X', hL, e1, e2, ⟨v, cs', hv, hP, hPP, hsz, hfr, hun⟩, go⟩ := hrun T hT X
  cases hv
  obtain ⟨t2, a1, b1⟩ := kk v cs' t.heap (locs ++ Lx) hP ⟨hPP, by rw [h0] at hsz; exact Nat.le_trans hR.2.1 hsz, fun q hq => by rw [hfr q hq, h0]; exact hR.2.2.1 q hq, fun q hq => (List.mem_append.mp hq).elim (hR.2.2.2.1 q) (hL q), fun i hi => by
    obtain ⟨u1, u2⟩ := hR.2.2.2.2 i hi
    obtain ⟨u3, u4⟩ := hun i u1
    exact ⟨u3, by rw [u4, h0]; exact u2⟩⟩ T' e1 X'
  refine ⟨t2, go t2 ?_, b1⟩
  have e3 : (v.toList ++ rest).map (zz_tr g) = (v.map (zz_tr g)).toList ++ rest.map (zz_tr g) := by cases v <;> rfl
  rw [e3] at a1
  exact a1
theorem zz_split {n : Nat} {rest : List Value} (h : st.drop n = rest) : st.map (zz_tr g) = (((st.take n).reverse).map (zz_tr g)).reverse ++ rest.map (zz_tr g) := by
  rw [List.map_reverse, List.reverse_reverse, ← h, ← List.map_append, List.take_append_drop]
theorem zz_pc {as : List Value} (hK : zz_K g s) (hT : zz_ok s) {H : Heap} {locs : List Loc} (hR : zz_R g s c0 cs H locs) (U : State) (hU : U.heap = H) (hW : s.WarmedH U.vm) : zz_Pc g as cs (as.map (zz_tr g)).toArray U := ⟨rfl, by rw [hU]; exact hR.1, zz_K.moved hW.alike hK, zz_ok.warm hW hT⟩
variable {y : MethodName} {b : ByteArray} {mL mc ms fr lo w0 w1 w2 idx w w' i ci : Nat} {ret : Option FieldType} {stt : Bool} {code : List (List zz_I)} {own : String} {H : Heap} {locs : List Loc} {ls : Array Slot} {as rest : List Value} {P : Option Value → zz_W → Prop}
/-- what every call of a method of the system asks -/
noncomputable def zz_cb (R : Room) (s : State) (args : Array Value) (y : MethodName) (b : ByteArray) (mL : Nat) (ret : Option FieldType) (mc ms fr lo n : Nat) : Prop :=
  ((zz_rm (mc, ms, fr, lo)).cells = mc ∧ (zz_rm (mc, ms, fr, lo)).slots = ms ∧ (zz_rm (mc, ms, fr, lo)).frames + 1 ≤ R.frames ∧ 8 + (mL + 11) + (zz_rm (mc, ms, fr, lo)).locals ≤ R.locals ∧ (∀ w ∈ [Jvm.Cond.code y b mL ret], ∀ (a' : Array Value) (U : State), s.WarmedH U.vm → w.before a' U = true) ∧ Jvm.Cond.code y b mL ret ∈ [Jvm.Cond.code y b mL ret]) ∧
  (Jvm.Cond.code y b mL ret).before args s = true ∧ (Jvm.Cond.initialized y.cls).before args s = true ∧ (y.cls ≠ "java/lang/invoke/MethodHandle" ∧ y.cls ≠ "java/lang/invoke/VarHandle") ∧ (∀ sig, parseMethodDescriptor y.desc = some sig → n = sig.parameters.length)
theorem zz_cb_of (hT : zz_ok s) (hcw : zz_mcw (y, b, mL, ret, n, stt, (mc, ms, fr, lo), (w0, w1, w2), code)) (h : zz_mok (y, b, mL, ret, n, stt, (mc, ms, fr, lo), (w0, w1, w2), code) = true) (hR : fr + 1 ≤ R.frames ∧ 8 + (mL + 11) + lo ≤ R.locals) : zz_cb R s args y b mL ret mc ms fr lo n ∧ (stt = false → (Jvm.Cond.instanceMethod y).before args s = true) ∧ (stt = true → (Jvm.Cond.static y).before args s = true) := by
  simp only [zz_mok, Bool.and_eq_true, decide_eq_true_eq, zz_nm, Bool.not_eq_true', decide_eq_false_iff_not] at h
  obtain ⟨h2, h3, h4, h5, h7⟩ := h
  have h1 : ∀ U : State, zz_ok U → ∀ a : Array Value, (Jvm.Cond.code y b mL ret).before a U = true := fun U hU a => hU _ (List.mem_of_getElem? hcw) rfl a
  refine ⟨⟨⟨rfl, rfl, hR.1, hR.2, ?_, List.mem_singleton.mpr rfl⟩, h1 s hT args, zz_wd_ok h2 hT args, h4, ?_⟩, ?_, ?_⟩
  · intro w hw a' U hW
    rw [List.mem_singleton.mp hw]
    exact h1 U (hT.warm hW) a'
  · intro sig hs
    rw [hs] at h7
    exact (Option.some.inj h7).symm
  · intro q
    subst q
    exact zz_wd_ok h3 hT args
  · intro q
    subst q
    exact zz_wd_ok h3 hT args
theorem zz_recv {fs : List Value} {q : vw_C} (hK : zz_K g s) (hR : zz_R g s c0 cs H locs) (hq : classes[ci]? = some q) (hi : zz_cell cs i = some (.inr (.inr (ci, fs)))) : ∃ cell : Cell, H[zz_ad g i]? = some cell ∧ cell.vm.isStatics = false ∧ s.vm.findClass q.1 = some cell.cls := by
  obtain ⟨r, h1, cell, q1, q2, q3, q4⟩ := (hR.1.2 i _ (zz_cell_eq hi)).2
  cases hq.symm.trans h1
  exact ⟨cell, q1, by rw [q3]; rfl, by rw [q2]; exact (hK.1 ci q hq).2.1⟩
theorem zz_runV (hx : p.tables.exec = Jvm.exec) (hb : c.code = cc) (hml : c.maxLocals = nL) (hown : s.vm.findClass own = some m.cls) (hT : zz_ok s) (hK : zz_K g s) (hcw : zz_mcw (y, b, mL, ret, n, stt, (mc, ms, fr, lo), (w0, w1, w2), code)) (hmok : zz_mok (y, b, mL, ret, n, stt, (mc, ms, fr, lo), (w0, w1, w2), code) = true) (hstt : stt = false) (hM : zz_Met l g (y, b, mL, ret, n, stt, (mc, ms, fr, lo), (w0, w1, w2), code) (.ref i :: as) cs P) (hlink : zz_wd w (.methodLink own idx y) = true) (hsel : zz_wd w' (.selects y.cls y y) = true) {fs : List Value} {q : vw_C} (hq : classes[ci]? = some q) (hi : zz_cell cs i = some (.inr (.inr (ci, fs)))) (hqc : q.1 = y.cls) (hd : decode cc pc = .ok (.invokevirtual idx, 3)) (hR9 : fr + 1 ≤ R.frames ∧ 8 + (mL + 11) + lo ≤ R.locals) (hsum : zz_ss rest ≤ 8) (hf : cu + mc ≤ R.cells ∧ su + ms ≤ R.slots) (hlen : as.length = n) (hls : ls.size = nL) (hR : zz_R g s c0 cs H locs) :
    va_Run p l e R s m args below meth c H locs cu su mc ms (F0 m pc ls ((as.map (zz_tr g)).reverse ++ .ref (zz_ad g i) :: rest.map (zz_tr g))) (rest.map (zz_tr g)) (zz_Qc g cs P ((Value.ref i :: as).map (zz_tr g)).toArray) (fun q => g.1 < q) := by
  obtain ⟨cb, hin, hst⟩ := zz_cb_of (args := args) (R := R) hT hcw hmok hR9
  have hin := hin hstt
  obtain ⟨⟨c1, c2, c3, c4, c5, c6⟩, c7, c8, c9, c10⟩ := cb
  exact va_runV (Ts := []) ⟨hx, hb, hml, hown, fun _ h => by cases h⟩ hM ⟨⟨c1, c2, c3, c4, c5, c6, c7, c8, c9, c10, zz_wd_ok hlink hT args⟩, hin, zz_wd_ok hsel hT args⟩ (by have z : PreV s H q.1 (zz_ad g i) (zz_Pc g (.ref i :: as) cs) (as.map (zz_tr g)) := ⟨zz_blind g _ cs, zz_recv hK hR hq hi, fun U hU hW => zz_pc (as := .ref i :: as) hK hT hR U hU hW⟩; rw [hqc] at z; exact z) rfl ((List.length_map _).trans hlen) hls rfl (lv_room (by rw [zz_ss_tr]; exact hsum)) hd hf
theorem zz_runVN (hx : p.tables.exec = Jvm.exec) (hb : c.code = cc) (hml : c.maxLocals = nL) (hown : s.vm.findClass own = some m.cls) (hT : zz_ok s) (hK : zz_K g s) (hcw : zz_mcw (y, b, mL, ret, n, stt, (mc, ms, fr, lo), (w0, w1, w2), code)) (hmok : zz_mok (y, b, mL, ret, n, stt, (mc, ms, fr, lo), (w0, w1, w2), code) = true) (hstt : stt = false) (hM : zz_Met l g (y, b, mL, ret, n, stt, (mc, ms, fr, lo), (w0, w1, w2), code) (.ref i :: as) cs P) (hlink : zz_wd w (.methodLinkNest own idx y zz_host) = true) (hsel : zz_wd w' (.selects y.cls y y) = true) {fs : List Value} {q : vw_C} (hq : classes[ci]? = some q) (hi : zz_cell cs i = some (.inr (.inr (ci, fs)))) (hqc : q.1 = y.cls) (hd : decode cc pc = .ok (.invokevirtual idx, 3)) (hR9 : fr + 1 ≤ R.frames ∧ 8 + (mL + 11) + lo ≤ R.locals) (hsum : zz_ss rest ≤ 8) (hf : cu + mc ≤ R.cells ∧ su + ms ≤ R.slots) (hlen : as.length = n) (hls : ls.size = nL) (hR : zz_R g s c0 cs H locs) :
    va_Run p l e R s m args below meth c H locs cu su mc ms (F0 m pc ls ((as.map (zz_tr g)).reverse ++ .ref (zz_ad g i) :: rest.map (zz_tr g))) (rest.map (zz_tr g)) (zz_Qc g cs P ((Value.ref i :: as).map (zz_tr g)).toArray) (fun q => g.1 < q) := by
  obtain ⟨cb, hin, hst⟩ := zz_cb_of (args := args) (R := R) hT hcw hmok hR9
  have hin := hin hstt
  obtain ⟨⟨c1, c2, c3, c4, c5, c6⟩, c7, c8, c9, c10⟩ := cb
  exact va_runVN (Ts := []) ⟨hx, hb, hml, hown, fun _ h => by cases h⟩ hM ⟨⟨⟨c1, c2, c3, c4, c5, c6⟩, c7, c8, c9, c10, zz_wd_ok hlink hT args⟩, hin, zz_wd_ok hsel hT args⟩ (by have z : PreV s H q.1 (zz_ad g i) (zz_Pc g (.ref i :: as) cs) (as.map (zz_tr g)) := ⟨zz_blind g _ cs, zz_recv hK hR hq hi, fun U hU hW => zz_pc (as := .ref i :: as) hK hT hR U hU hW⟩; rw [hqc] at z; exact z) rfl ((List.length_map _).trans hlen) hls rfl (lv_room (by rw [zz_ss_tr]; exact hsum)) hd hf
theorem zz_runS (hx : p.tables.exec = Jvm.exec) (hb : c.code = cc) (hml : c.maxLocals = nL) (hown : s.vm.findClass own = some m.cls) (hT : zz_ok s) (hK : zz_K g s) (hcw : zz_mcw (y, b, mL, ret, n, stt, (mc, ms, fr, lo), (w0, w1, w2), code)) (hmok : zz_mok (y, b, mL, ret, n, stt, (mc, ms, fr, lo), (w0, w1, w2), code) = true) (hstt : stt = true) (hM : zz_Met l g (y, b, mL, ret, n, stt, (mc, ms, fr, lo), (w0, w1, w2), code) as cs P) (hlink : zz_wd w (.methodLink own idx y) = true) (hd : decode cc pc = .ok (.invokestatic idx, 3)) (hR9 : fr + 1 ≤ R.frames ∧ 8 + (mL + 11) + lo ≤ R.locals) (hsum : zz_ss rest ≤ 8) (hf : cu + mc ≤ R.cells ∧ su + ms ≤ R.slots) (hlen : as.length = n) (hls : ls.size = nL) (hR : zz_R g s c0 cs H locs) :
    va_Run p l e R s m args below meth c H locs cu su mc ms (F0 m pc ls ((as.map (zz_tr g)).reverse ++ rest.map (zz_tr g))) (rest.map (zz_tr g)) (zz_Qc g cs P (as.map (zz_tr g)).toArray) (fun q => g.1 < q) := by
  obtain ⟨cb, hin, hst⟩ := zz_cb_of (args := args) (R := R) hT hcw hmok hR9
  have hin := hst hstt
  obtain ⟨⟨c1, c2, c3, c4, c5, c6⟩, c7, c8, c9, c10⟩ := cb
  exact va_runS (Ts := []) ⟨hx, hb, hml, hown, fun _ h => by cases h⟩ hM ⟨⟨c1, c2, c3, c4, c5, c6, c7, c8, c9, c10, zz_wd_ok hlink hT args⟩, hin⟩ ⟨zz_blind g _ cs, fun U hU hW => zz_pc hK hT hR U hU hW⟩ rfl ((List.length_map _).trans hlen) hls rfl (lv_room (by rw [zz_ss_tr]; exact hsum)) hd hf
theorem zz_runSN (hx : p.tables.exec = Jvm.exec) (hb : c.code = cc) (hml : c.maxLocals = nL) (hown : s.vm.findClass own = some m.cls) (hT : zz_ok s) (hK : zz_K g s) (hcw : zz_mcw (y, b, mL, ret, n, stt, (mc, ms, fr, lo), (w0, w1, w2), code)) (hmok : zz_mok (y, b, mL, ret, n, stt, (mc, ms, fr, lo), (w0, w1, w2), code) = true) (hstt : stt = true) (hM : zz_Met l g (y, b, mL, ret, n, stt, (mc, ms, fr, lo), (w0, w1, w2), code) as cs P) (hlink : zz_wd w (.methodLinkNest own idx y zz_host) = true) (hd : decode cc pc = .ok (.invokestatic idx, 3)) (hR9 : fr + 1 ≤ R.frames ∧ 8 + (mL + 11) + lo ≤ R.locals) (hsum : zz_ss rest ≤ 8) (hf : cu + mc ≤ R.cells ∧ su + ms ≤ R.slots) (hlen : as.length = n) (hls : ls.size = nL) (hR : zz_R g s c0 cs H locs) :
    va_Run p l e R s m args below meth c H locs cu su mc ms (F0 m pc ls ((as.map (zz_tr g)).reverse ++ rest.map (zz_tr g))) (rest.map (zz_tr g)) (zz_Qc g cs P (as.map (zz_tr g)).toArray) (fun q => g.1 < q) := by
  obtain ⟨cb, hin, hst⟩ := zz_cb_of (args := args) (R := R) hT hcw hmok hR9
  have hin := hst hstt
  obtain ⟨⟨c1, c2, c3, c4, c5, c6⟩, c7, c8, c9, c10⟩ := cb
  exact va_runSN (Ts := []) ⟨hx, hb, hml, hown, fun _ h => by cases h⟩ hM ⟨⟨⟨c1, c2, c3, c4, c5, c6⟩, c7, c8, c9, c10, zz_wd_ok hlink hT args⟩, hin, trivial⟩ ⟨zz_blind g _ cs, fun U hU hW => zz_pc hK hT hR U hU hW⟩ rfl ((List.length_map _).trans hlen) hls rfl (lv_room (by rw [zz_ss_tr]; exact hsum)) hd hf
theorem zz_runI (hx : p.tables.exec = Jvm.exec) (hb : c.code = cc) (hml : c.maxLocals = nL) (hown : s.vm.findClass own = some m.cls) (hT : zz_ok s) (hK : zz_K g s) (hcw : zz_mcw (y, b, mL, ret, n, stt, (mc, ms, fr, lo), (w0, w1, w2), code)) (hmok : zz_mok (y, b, mL, ret, n, stt, (mc, ms, fr, lo), (w0, w1, w2), code) = true) (hstt : stt = false) (hM : zz_Met l g (y, b, mL, ret, n, stt, (mc, ms, fr, lo), (w0, w1, w2), code) (.ref i :: as) cs P) (hret : ret = none) (hy1 : y.name = "<init>") (hlink : zz_wd w (.methodLink own idx y) = true) (hd : decode cc pc = .ok (.invokespecial idx, 3)) (hR9 : fr + 1 ≤ R.frames ∧ 8 + (mL + 11) + lo ≤ R.locals) (hsum : zz_ss rest ≤ 8) (hf : cu + mc ≤ R.cells ∧ su + ms ≤ R.slots) (hlen : as.length = n) (hls : ls.size = nL) (hR : zz_R g s c0 cs H locs) :
    va_Run p l e R s m args below meth c H locs cu su mc ms (F0 m pc ls ((as.map (zz_tr g)).reverse ++ .ref (zz_ad g i) :: rest.map (zz_tr g))) (rest.map (zz_tr g)) (zz_Qc g cs P ((Value.ref i :: as).map (zz_tr g)).toArray) (fun q => g.1 < q) := by
  obtain ⟨cb, hin, hst⟩ := zz_cb_of (args := args) (R := R) hT hcw hmok hR9
  have hin := hin hstt
  obtain ⟨⟨c1, c2, c3, c4, c5, c6⟩, c7, c8, c9, c10⟩ := cb
  subst hret
  exact va_runI (Ts := []) ⟨hx, hb, hml, hown, fun _ h => by cases h⟩ hM ⟨⟨c1, c2, c3, c4, c5, c6, c7, c8, c9, c10, zz_wd_ok hlink hT args⟩, hy1, hin⟩ ⟨zz_blind g _ cs, fun U hU hW => zz_pc (as := .ref i :: as) hK hT hR U hU hW⟩ rfl ((List.length_map _).trans hlen) hls rfl (lv_room (by rw [zz_ss_tr]; exact hsum)) hd hf
theorem zz_runIN (hx : p.tables.exec = Jvm.exec) (hb : c.code = cc) (hml : c.maxLocals = nL) (hown : s.vm.findClass own = some m.cls) (hT : zz_ok s) (hK : zz_K g s) (hcw : zz_mcw (y, b, mL, ret, n, stt, (mc, ms, fr, lo), (w0, w1, w2), code)) (hmok : zz_mok (y, b, mL, ret, n, stt, (mc, ms, fr, lo), (w0, w1, w2), code) = true) (hstt : stt = false) (hM : zz_Met l g (y, b, mL, ret, n, stt, (mc, ms, fr, lo), (w0, w1, w2), code) (.ref i :: as) cs P) (hret : ret = none) (hy1 : y.name = "<init>") (hlink : zz_wd w (.methodLinkNest own idx y zz_host) = true) (hd : decode cc pc = .ok (.invokespecial idx, 3)) (hR9 : fr + 1 ≤ R.frames ∧ 8 + (mL + 11) + lo ≤ R.locals) (hsum : zz_ss rest ≤ 8) (hf : cu + mc ≤ R.cells ∧ su + ms ≤ R.slots) (hlen : as.length = n) (hls : ls.size = nL) (hR : zz_R g s c0 cs H locs) :
    va_Run p l e R s m args below meth c H locs cu su mc ms (F0 m pc ls ((as.map (zz_tr g)).reverse ++ .ref (zz_ad g i) :: rest.map (zz_tr g))) (rest.map (zz_tr g)) (zz_Qc g cs P ((Value.ref i :: as).map (zz_tr g)).toArray) (fun q => g.1 < q) := by
  obtain ⟨cb, hin, hst⟩ := zz_cb_of (args := args) (R := R) hT hcw hmok hR9
  have hin := hin hstt
  obtain ⟨⟨c1, c2, c3, c4, c5, c6⟩, c7, c8, c9, c10⟩ := cb
  subst hret
  exact va_runIN (Ts := []) ⟨hx, hb, hml, hown, fun _ h => by cases h⟩ hM ⟨⟨⟨c1, c2, c3, c4, c5, c6⟩, c7, c8, c9, c10, zz_wd_ok hlink hT args⟩, hy1, hin⟩ ⟨zz_blind g _ cs, fun U hU hW => zz_pc (as := .ref i :: as) hK hT hR U hU hW⟩ rfl ((List.length_map _).trans hlen) hls rfl (lv_room (by rw [zz_ss_tr]; exact hsum)) hd hf
theorem zz_runSU (hx : p.tables.exec = Jvm.exec) (hb : c.code = cc) (hml : c.maxLocals = nL) (hown : s.vm.findClass own = some m.cls) (hT : zz_ok s) (hK : zz_K g s) (hcw : zz_mcw (y, b, mL, ret, n, stt, (mc, ms, fr, lo), (w0, w1, w2), code)) (hmok : zz_mok (y, b, mL, ret, n, stt, (mc, ms, fr, lo), (w0, w1, w2), code) = true) (hstt : stt = false) (hM : zz_Met l g (y, b, mL, ret, n, stt, (mc, ms, fr, lo), (w0, w1, w2), code) (.ref i :: as) cs P) {wm wu : Nat} (hno : y.name ≠ "<init>") (hlink : zz_wd w (.methodLink own idx y) = true) (hsame : zz_wd wm (.sameMethod y.cls y.cls y.name y.desc) = true) (hsup : zz_wd wu (.superclass own y.cls) = true) {fs : List Value} {q : vw_C} (hq : classes[ci]? = some q) (hi : zz_cell cs i = some (.inr (.inr (ci, fs)))) (hd : decode cc pc = .ok (.invokespecial idx, 3)) (hR9 : fr + 1 ≤ R.frames ∧ 8 + (mL + 11) + lo ≤ R.locals) (hsum : zz_ss rest ≤ 8) (hf : cu + mc ≤ R.cells ∧ su + ms ≤ R.slots) (hlen : as.length = n) (hls : ls.size = nL) (hR : zz_R g s c0 cs H locs) :
    va_Run p l e R s m args below meth c H locs cu su mc ms (F0 m pc ls ((as.map (zz_tr g)).reverse ++ .ref (zz_ad g i) :: rest.map (zz_tr g))) (rest.map (zz_tr g)) (zz_Qc g cs P ((Value.ref i :: as).map (zz_tr g)).toArray) (fun q => g.1 < q) := by
  obtain ⟨cb, hin, hst⟩ := zz_cb_of (args := args) (R := R) hT hcw hmok hR9
  have hin := hin hstt
  obtain ⟨⟨c1, c2, c3, c4, c5, c6⟩, c7, c8, c9, c10⟩ := cb
  exact va_runSU (hK.1 ci q hq).2 (Ts := []) ⟨hx, hb, hml, hown, fun _ h => by cases h⟩ hM ⟨⟨c1, c2, c3, c4, c5, c6⟩, zz_wd_ok hlink hT args, zz_wd_ok hsame hT args, zz_wd_ok hsup hT args, hin, c8, c7, hno, c10⟩ ⟨zz_blind g _ cs, zz_recv hK hR hq hi, fun U hU hW => zz_pc (as := .ref i :: as) hK hT hR U hU hW⟩ rfl ((List.length_map _).trans hlen) hls rfl (lv_room (by rw [zz_ss_tr]; exact hsum)) hd hf
theorem zz_runSU2 (hx : p.tables.exec = Jvm.exec) (hb : c.code = cc) (hml : c.maxLocals = nL) (hown : s.vm.findClass own = some m.cls) (hT : zz_ok s) (hK : zz_K g s) (hcw : zz_mcw (y, b, mL, ret, n, stt, (mc, ms, fr, lo), (w0, w1, w2), code)) (hmok : zz_mok (y, b, mL, ret, n, stt, (mc, ms, fr, lo), (w0, w1, w2), code) = true) (hstt : stt = false) (hM : zz_Met l g (y, b, mL, ret, n, stt, (mc, ms, fr, lo), (w0, w1, w2), code) (.ref i :: as) cs P) {wm wu wv : Nat} {x : String} (hno : y.name ≠ "<init>") (hlink : zz_wd w (.methodLink own idx ⟨x, y.name, y.desc⟩) = true) (hsame : zz_wd wm (.sameMethod x y.cls y.name y.desc) = true) (hsup : zz_wd wu (.superclass own x) = true) (hsup2 : zz_wd wv (.superclass x y.cls) = true) {fs : List Value} {q : vw_C} (hq : classes[ci]? = some q) (hi : zz_cell cs i = some (.inr (.inr (ci, fs)))) (hd : decode cc pc = .ok (.invokespecial idx, 3)) (hR9 : fr + 1 ≤ R.frames ∧ 8 + (mL + 11) + lo ≤ R.locals) (hsum : zz_ss rest ≤ 8) (hf : cu + mc ≤ R.cells ∧ su + ms ≤ R.slots) (hlen : as.length = n) (hls : ls.size = nL) (hR : zz_R g s c0 cs H locs) :
    va_Run p l e R s m args below meth c H locs cu su mc ms (F0 m pc ls ((as.map (zz_tr g)).reverse ++ .ref (zz_ad g i) :: rest.map (zz_tr g))) (rest.map (zz_tr g)) (zz_Qc g cs P ((Value.ref i :: as).map (zz_tr g)).toArray) (fun q => g.1 < q) := by
  obtain ⟨cb, hin, hst⟩ := zz_cb_of (args := args) (R := R) hT hcw hmok hR9
  have hin := hin hstt
  obtain ⟨⟨c1, c2, c3, c4, c5, c6⟩, c7, c8, c9, c10⟩ := cb
  have hKb : Back l R p e below s args y 3 8 (PreOf R mc ms (zz_Pc g (.ref i :: as) cs)) (PostOf (zz_Qc g cs P) mc ms (fun q => g.1 < q)) := back_of (bytes := b) (maxL := mL) (ret := ret) hM (zz_blind g _ cs) c1 c2 c3 c4 c5 c6 (fun a' U hW => word_at hW (Or.inl (by first | rfl | simp [Jvm.Cond.onTables, Jvm.Cond.keeps, Jvm.Cond.steady])) c8)
  obtain ⟨mk, methM, hnamed, hmethM, hstM, habM⟩ := Cond.instanceMethod_spec hin
  obtain ⟨methM', cM, hmethM', -, -, -, -, -, -, hsigM⟩ := Cond.code_spec hnamed c7
  cases hmethM.symm.trans hmethM'
  obtain ⟨ps, dk, kp, hps, hdk, hkp, hsuper, -, -, hnid⟩ := Cond.superclass_spec hown (zz_wd_ok hsup hT args)
  obtain ⟨ps2, dk2, kp2, hps2, hdk2, hkp2, hsuper2, -, -, -⟩ := Cond.superclass_spec hps (zz_wd_ok hsup2 hT args)
  have hpm : ps2 = mk.cls := Option.some.inj (hps2.symm.trans (findClass_of_methodNamed hnamed))
  have hsub : s.vm.isSubclass ps mk.cls = true := by
    rw [← hpm]
    exact zz_sub1 hdk2 hsuper2 hkp2
  obtain ⟨cellB, hcB, hoB, hclB⟩ := zz_recv hK hR hq hi
  obtain ⟨-, kB, hkB, -⟩ := (hK.1 ci q hq).2
  have hkB2 : s.vm.classes[cellB.cls]? = some kB := by
    rw [← Option.some.inj ((hK.1 ci q hq).2.1.symm.trans hclB)]
    exact hkB
  intro T hTT X
  obtain ⟨vm₀, X₁, hstep₁⟩ := X.invokespecialUp hx hown (x := ⟨x, y.name, y.desc⟩) (owner := y.cls) (zz_wd_ok hlink hT args) (zz_wd_ok hsame hT args) hnamed hmethM hstM habM hno hdk hnid hps hsuper hsub (a := zz_ad g i) (cell := cellB) (by rw [hTT]; exact hcB)
    (fun z h => by rw [h] at hoB; cases hoB) hkB2 (g := F0 m pc ls ((as.map (zz_tr g)).reverse ++ .ref (zz_ad g i) :: rest.map (zz_tr g))) rfl (argsL := as.map (zz_tr g)) (rest := rest.map (zz_tr g)) (((List.length_map _).trans hlen).trans (c10 _ hsigM)) rfl (by rw [hb]; exact hd)
  obtain ⟨v, ⟨U', l2, c2', s2⟩, X', ⟨g', mk', t, Lx, e1, e2, hq', h1, hL, h2, h3⟩, hsteps⟩ := hKb m meth c ⟨T.setVm vm₀, locs, cu, su⟩ (F0 m pc ls (rest.map (zz_tr g))) (.invokespecial idx) mk ((Value.ref i :: as).map (zz_tr g)).toArray X₁ rfl (hls.trans hml.symm) (by rw [hb]; exact hd) (lv_room (by rw [zz_ss_tr]; exact hsum)) (X₁.named hnamed) ⟨hf.1, hf.2, zz_pc (as := .ref i :: as) hK hT hR (T.setVm vm₀) hTT X₁.warmed⟩
  dsimp only [Pt.U, Pt.locs, Pt.cells, Pt.slots] at X' e1 e2 h1 h2 h3 hsteps
  subst h1; subst h2; subst h3
  exact ⟨v, (T.setVm vm₀).calling g' mk' ((Value.ref i :: as).map (zz_tr g)).toArray, t, U', Lx, hTT, X', hL, e1, e2, hq', fun target h => hstep₁ _ (by rw [doInvoke_state]; exact hsteps.trans h)⟩
theorem zz_runU (hx : p.tables.exec = Jvm.exec) (hb : c.code = cc) (hml : c.maxLocals = nL) (hown : s.vm.findClass own = some m.cls) (hT : zz_ok s) (hK : zz_K g s) (hcw : zz_mcw (y, b, mL, ret, n, stt, (mc, ms, fr, lo), (w0, w1, w2), code)) (hmok : zz_mok (y, b, mL, ret, n, stt, (mc, ms, fr, lo), (w0, w1, w2), code) = true) (hstt : stt = false) (hM : zz_Met l g (y, b, mL, ret, n, stt, (mc, ms, fr, lo), (w0, w1, w2), code) (.ref i :: as) cs P) {wm wi oL : Nat} {x : MethodName} {owner : String} {ob : ByteArray} {oret : Option FieldType} (hxn : (parseMethodDescriptor x.desc).map (fun d => d.parameters.length) = some n) (how : owner ≠ "java/lang/invoke/MethodHandle" ∧ owner ≠ "java/lang/invoke/VarHandle") (hlink : zz_wd w (.methodLink own idx x) = true) (hsame : zz_wd wm (.sameMethod x.cls owner x.name x.desc) = true) (hoi : zz_wd wi (.instanceMethod ⟨owner, x.name, x.desc⟩) = true) (hoc : (Jvm.Cond.code ⟨owner, x.name, x.desc⟩ ob oL oret).before args s = true) {fs : List Value} {q : vw_C} (hq : classes[ci]? = some q) (hi : zz_cell cs i = some (.inr (.inr (ci, fs)))) (hsel : zz_wd w' (.selects q.1 x y) = true) (hd : decode cc pc = .ok (.invokevirtual idx, 3)) (hR9 : fr + 1 ≤ R.frames ∧ 8 + (mL + 11) + lo ≤ R.locals) (hsum : zz_ss rest ≤ 8) (hf : cu + mc ≤ R.cells ∧ su + ms ≤ R.slots) (hlen : as.length = n) (hls : ls.size = nL) (hR : zz_R g s c0 cs H locs) :
    va_Run p l e R s m args below meth c H locs cu su mc ms (F0 m pc ls ((as.map (zz_tr g)).reverse ++ .ref (zz_ad g i) :: rest.map (zz_tr g))) (rest.map (zz_tr g)) (zz_Qc g cs P ((Value.ref i :: as).map (zz_tr g)).toArray) (fun q => g.1 < q) := by
  obtain ⟨cb, hin, hst⟩ := zz_cb_of (args := args) (R := R) hT hcw hmok hR9
  have hin := hin hstt
  obtain ⟨⟨c1, c2, c3, c4, c5, c6⟩, c7, c8, c9, c10⟩ := cb
  exact va_runU (owner := owner) (x := x) (Ts := []) ⟨hx, hb, hml, hown, fun _ h => by cases h⟩ hM ⟨⟨c1, c2, c3, c4, c5, c6⟩, c7, c8, how, (fun sig hs => by rw [hs] at hxn; exact (Option.some.inj hxn).symm), zz_wd_ok hlink hT args, zz_wd_ok hsame hT args, va_Decl.of (zz_wd_ok hoi hT args) hoc, zz_wd_ok hsel hT args, hin⟩ ⟨zz_blind g _ cs, zz_recv hK hR hq hi, fun U hU hW => zz_pc (as := .ref i :: as) hK hT hR U hU hW⟩ rfl ((List.length_map _).trans hlen) hls rfl (lv_room (by rw [zz_ss_tr]; exact hsum)) hd hf
end ZZ3
end
section
/-! what is made, and the members that the kit knows -/
theorem zz_getD_rep {α : Type} (n : Nat) (a : α) (j : Nat) : (List.replicate n a).getD j a = a := by
  rw [List.getD_eq_getElem?_getD, List.getElem?_replicate]
  split <;> rfl
section ZZ4
variable {g : zz_G} {p : Program} {l : Launch} {e : Env} {R : Room} {s : State} {m : MethodId} {args : Array Value} {below : List Frame} {meth : Method} {c : Code} {Q : State → Prop} {cc : ByteArray} {nL pc pc' n cu su cu' su' d : Nat} {L L' : List (Option Value)} {st st' : List Value} {c0 cs cs' : zz_W}
theorem zz_outer (c : ClassId) (N h0 : Nat) : ∀ i : Nat, Jvm.Free.Multi.outerC c N h0 i = arrV c N (fun j => va_rf (if j < i then some (h0 + 1 + j) else none))
  | 0 => by
    show ({ cls := c, slots := Array.replicate N .null, vm := .none } : Cell) = _
    rw [arrV_new]
    refine congrArg (arrV c N) (funext fun j => ?_)
    simp [va_rf]
  | i + 1 => by
    show (Jvm.Free.Multi.outerC c N h0 i).setSlot i (.ref (h0 + 1 + i)) = _
    rw [zz_outer c N h0 i, arrV_store]
    refine congrArg (arrV c N) (funext fun j => ?_)
    by_cases e : j = i
    · subst e
      simp [updV, va_rf]
    · by_cases h : j < i
      · simp [updV, e, h, Nat.lt_succ_of_lt h]
      · simp [updV, e, h, show ¬ j < i + 1 by omega]
theorem zz_R.pushes {g : zz_G} {s : State} {b0 cs add : zz_W} {H H1 : Heap} {locs : List Loc} (h : zz_R g s b0 cs H locs) (h0 : 0 < cs.length) (hz : H1.size = H.size + add.length) (hq : ∀ q, q < H.size → H1[q]? = H[q]?) (hc : ∀ (i : Nat) (c : zz_C), add[i]? = some (some c) → zz_at g (cs.length + i) c H1) : zz_R g s b0 (cs ++ add) H1 locs := by
  obtain ⟨h1, h2, h3, h4, h8⟩ := h
  have hsz := h1.1
  refine ⟨⟨by rw [hz, List.length_append, hsz]; omega, fun j d hj => ?_⟩, by omega, fun q hq1 => (hq q (by omega)).trans (h3 q hq1), h4, fun j hj => ?_⟩
  · by_cases hl : j < cs.length
    · rw [List.getElem?_append_left hl] at hj
      obtain ⟨h5, h6⟩ := h1.2 j d hj
      exact ⟨h5, h6.kept (hq _ (by rw [zz_ad_pos g h5]; omega))⟩
    · rw [List.getElem?_append_right (by omega)] at hj
      have h5 := hc _ d hj
      rw [show cs.length + (j - cs.length) = j by omega] at h5
      exact ⟨by omega, h5⟩
  · obtain ⟨h6, h7⟩ := h8 j hj
    have hl : j < cs.length := (List.getElem?_eq_some_iff.mp h6).1
    exact ⟨by rw [List.getElem?_append_left hl]; exact h6, (hq _ (by omega)).trans h7⟩
theorem zz_dv_tr (g : zz_G) (q : vw_C) {j : Nat} (hj : j < q.2.2) : vp_V ((zz_dv q).map (zz_tr g)) j = defaultValue (zz_ft q j) := by
  unfold vp_V zz_dv
  rw [List.getD_eq_getElem?_getD, List.map_map, List.getElem?_map, List.getElem?_range hj]
  show zz_tr g (defaultValue (zz_ft q j)) = _
  cases zz_ft q j <;> rfl
set_option maxHeartbeats 4000000 in
theorem zz_al_ok (hx : p.tables.exec = Jvm.exec) (hb : c.code = cc) {own : String} (hown : s.vm.findClass own = some m.cls) (hT : zz_ok s) (hK : zz_K g s) {ins : Instr} {len : Nat} {r : List Nat} (hd : decode cc pc = .ok (ins, len)) (hlen : zz_len ins = 0 ∨ len = zz_len ins) (htb : zz_at3 own ins r = true) (h : zz_al ins r R.cells R.slots pc L st cs cu su = some (pc', L', st', cs', cu', su'))
    (kk : zz_Z g c0 p l e R s m args below meth c Q nL pc' L' st' cs' cu' su') : zz_Z g c0 p l e R s m args below meth c Q nL pc L st cs cu su := by
  intro hnL H locs ls hR hl
  have lenO : ∀ k : Nat, (k + 1 = 0 ∨ len = k + 1) → len = k + 1 := fun k q => q.resolve_left (by omega)
  cases ins with
  | new idx =>
    cases lenO _ hlen
    simp only [zz_al] at h
    split at h <;> try (cases h; done)
    split at h <;> try (cases h; done)
    split at h <;> try (cases h; done)
    rename_i ci w1 w2 w3 _ q hq hc
    cases h
    simp only [zz_at3, hq, Bool.and_eq_true] at htb
    have hKn := hK.1 ci q hq
    have had : zz_ad g cs.length = H.size := by rw [zz_ad_pos g hc.2.2]; exact hR.1.1.symm
    refine W.newcK hx hb hown (zz_wd_ok htb.1 hT args) (zz_wd_ok htb.2.1 hT args) (zz_wd_ok htb.2.2 hT args) rfl hd hc.1 hc.2.1 hKn.2.1 rfl fun H1 kC hkC e1 z1 o1 => ?_
    have k1 := kk hnL H1 locs ls (hR.push hc.2.2 z1 o1 ⟨q, hq, by
      rw [had]
      exact (u_born (zz_ft q) (zz_cts (zz_cok_all ci q hq) hT args) (fun _ h => h) hKn hkC e1 (fun k hk => zz_fty (zz_cok_all ci q hq) hk)).to (fun j hj => (zz_dv_tr g q hj).symm)⟩) hl
    have e2 : zz_tr g (.ref cs.length) = .ref H.size := by show Value.ref (zz_ad g cs.length) = _; rw [had]
    rw [List.map_cons, e2] at k1
    exact k1
  | newarray aty =>
    cases lenO _ hlen
    simp only [zz_al] at h
    split at h <;> try (cases h; done)
    split at h <;> try (cases h; done)
    rename_i n rest hc
    cases h
    obtain ⟨hn, hN, hc1, hc2, h0⟩ := hc
    simp only [zz_at3] at htb
    split at htb <;> try (cases htb; done)
    simp only [Bool.and_eq_true, decide_eq_true_eq] at htb
    obtain ⟨rfl, hw⟩ := htb
    have had : zz_ad g cs.length = H.size := by rw [zz_ad_pos g h0]; exact hR.1.1.symm
    refine va_newaK (atype := .int) hx hb (zz_wd_ok hw hT args) rfl hd rfl hn rfl (by show n.toNatClampNeg * 4 ≤ 536870912; omega) hc1 hc2 rfl fun H1 cA e1 z1 o1 hAr hNm => ?_
    have hcA : cA = g.2.2.1 0 := Option.some.inj (hNm.symm.trans (hK.2 0 .int zz_ty0).2)
    subst hcA
    have k1 := kk hnL H1 locs ls (hR.push (c := .inl (List.replicate n.toNatClampNeg 0)) h0 z1 o1 (by
      show H1[zz_ad g cs.length]? = _
      rw [had, e1, List.length_replicate]
      congr 2
      funext j
      rw [zz_getD_rep]
      rfl)) hl
    have e2 : zz_tr g (.ref cs.length) = .ref H.size := by show Value.ref (zz_ad g cs.length) = _; rw [had]
    rw [List.map_cons, e2] at k1
    exact k1
  | anewarray idx =>
    cases lenO _ hlen
    simp only [zz_al] at h
    split at h <;> try (cases h; done)
    split at h <;> try (cases h; done)
    split at h <;> try (cases h; done)
    rename_i t w1 w2 _ n rest hc
    cases h
    obtain ⟨hn, hN, hc1, hc2, h0⟩ := hc
    simp only [zz_at3] at htb
    split at htb <;> try (cases htb; done)
    rename_i C hC
    simp only [Bool.and_eq_true] at htb
    have had : zz_ad g cs.length = H.size := by rw [zz_ad_pos g h0]; exact hR.1.1.symm
    refine W.anew hx hb hown (zz_wd_ok htb.1 hT args) (zz_wd_ok htb.2 hT args) rfl hd rfl hn (by omega) hc1 hc2 fun cA kA comp f1 f2 f3 f4 => ?_
    obtain ⟨kA', comp', k1, k2, k3, k4⟩ := (hK.2 t _ hC).2
    have hcA : cA = g.2.2.1 t := Option.some.inj (f1.symm.trans k4)
    subst hcA
    generalize hH1 : H.push ({ cls := g.2.2.1 t, slots := Array.replicate n.toNatClampNeg .null, vm := .none } : Cell) = H1
    have z1 : H1.size = H.size + 1 := by rw [← hH1, Array.size_push]
    have e1 : H1[H.size]? = some (arrV (g.2.2.1 t) n.toNatClampNeg (fun _ => .null)) := by rw [← hH1, Array.getElem?_push_size, ← arrV_new]
    have o1 : ∀ q : Nat, q < H.size → H1[q]? = H[q]? := fun q hq => by rw [← hH1, Array.getElem?_push, if_neg (Nat.ne_of_lt hq)]
    have k1 := kk hnL H1 locs ls (hR.push (c := .inr (.inl (t, List.replicate n.toNatClampNeg none))) h0 z1 o1 (by
      show H1[zz_ad g cs.length]? = _
      rw [had, e1, List.length_replicate]
      congr 2
      funext j
      rw [zz_getD_rep]
      rfl)) hl
    have e2 : zz_tr g (.ref cs.length) = .ref H.size := by show Value.ref (zz_ad g cs.length) = _; rw [had]
    rw [List.map_cons, e2] at k1
    exact k1
  | multianewarray idx dims =>
    cases lenO _ hlen
    simp only [zz_al] at h
    split at h <;> try (cases h; done)
    split at h <;> try (cases h; done)
    split at h <;> try (cases h; done)
    rename_i t w1 w2 w3 _ k n rest hc
    cases h
    obtain ⟨rfl, hty, hn, hk, hN, hK2, hc1, hc2, h0⟩ := hc
    simp only [zz_at3, Bool.and_eq_true] at htb
    have had : zz_ad g cs.length = H.size := by rw [zz_ad_pos g h0]; exact hR.1.1.symm
    intro T hTT X
    obtain ⟨vm₁, cA, comp, -, fA, fC, -, -, X', step⟩ := X.multianewarray2F hx (ty := .int) hown (zz_wd_ok htb.1 hT args) (zz_wd_ok htb.2.1 hT args) (zz_wd_ok htb.2.2 hT args) (g := F0 m pc ls ((Value.int k :: .int n :: rest).map (zz_tr g))) rfl (by rw [hb]; exact hd) rfl hn hk (by omega) (by show k.toNatClampNeg * 4 ≤ 536870912; omega) (by omega) rfl rfl hc1 hc2
    have hcA : cA = g.2.2.1 t := Option.some.inj (fA.symm.trans (hK.2 t _ hty).2)
    have hcB : comp = g.2.2.1 0 := Option.some.inj (fC.symm.trans (hK.2 0 .int zz_ty0).2)
    subst hcA
    subst hcB
    generalize hF : Jvm.Free.Multi.fill (T.setVm vm₁) (g.2.2.1 t) (g.2.2.1 0) n.toNatClampNeg k.toNatClampNeg (defaultValue .int) n.toNatClampNeg = F at X' step
    have hTh : (T.setVm vm₁).heap = H := hTT
    obtain ⟨f1, f2, -, -⟩ := Jvm.Free.Multi.fill_facts (T.setVm vm₁) (g.2.2.1 t) (g.2.2.1 0) n.toNatClampNeg k.toNatClampNeg (defaultValue .int) n.toNatClampNeg
    rw [hF, hTh] at f1 f2
    have hold : ∀ x : Nat, x < H.size → F.heap[x]? = H[x]? := fun x hx => by
      have := Jvm.Free.Multi.fill_old (T.setVm vm₁) (g.2.2.1 t) (g.2.2.1 0) n.toNatClampNeg k.toNatClampNeg (defaultValue .int) (a := x) (by rw [hTh]; exact hx) n.toNatClampNeg
      rw [hF, hTh] at this
      exact this
    have hrow : ∀ j : Nat, j < n.toNatClampNeg → F.heap[H.size + 1 + j]? = some (Jvm.Free.Multi.innerC (g.2.2.1 0) k.toNatClampNeg (defaultValue .int)) := fun j hj => by
      have := Jvm.Free.Multi.fill_inner (T.setVm vm₁) (g.2.2.1 t) (g.2.2.1 0) n.toNatClampNeg k.toNatClampNeg (defaultValue .int) n.toNatClampNeg j hj
      rw [hF, hTh] at this
      exact this
    have k1 := kk hnL F.heap locs ls (hR.pushes (add := some (.inr (.inl (t, (List.range n.toNatClampNeg).map (fun i => some (cs.length + 1 + i))))) :: List.replicate n.toNatClampNeg (some (.inl (List.replicate k.toNatClampNeg 0)))) h0 (by rw [f1, List.length_cons, List.length_replicate]; omega) hold (fun i c hi => by
      match i, hi with
      | 0, hi =>
        cases hi
        show F.heap[zz_ad g cs.length]? = _
        rw [had, f2, zz_outer, List.length_map, List.length_range]
        congr 1
        unfold arrV
        congr 1
        refine congrArg Array.ofFn (funext fun j => ?_)
        have hj := j.isLt
        dsimp only
        rw [if_pos hj, List.getD_eq_getElem?_getD, List.getElem?_map, List.getElem?_range hj]
        show Value.ref (H.size + 1 + j.val) = Value.ref (zz_ad g (cs.length + 1 + j.val))
        rw [zz_ad_pos g (show 0 < cs.length + 1 + j.val by omega)]
        have hs := hR.1.1
        exact congrArg Value.ref (show (H.size + 1 + j.val : Nat) = g.1 + (cs.length + 1 + j.val) by omega)
      | i + 1, hi =>
        rw [List.getElem?_cons_succ, List.getElem?_replicate] at hi
        split at hi <;> try (cases hi; done)
        rename_i hin
        cases hi
        show F.heap[zz_ad g (cs.length + (i + 1))]? = _
        rw [zz_ad_pos g (show 0 < cs.length + (i + 1) by omega), show g.1 + (cs.length + (i + 1)) = H.size + 1 + i by rw [hR.1.1]; omega, hrow i hin, List.length_replicate]
        show some ({ cls := g.2.2.1 0, slots := Array.replicate k.toNatClampNeg (defaultValue .int), vm := .none } : Cell) = _
        rw [arrV_new]
        congr 2
        funext j
        rw [zz_getD_rep]
        rfl)) hl
    have e2 : zz_tr g (.ref cs.length) = .ref H.size := by show Value.ref (zz_ad g cs.length) = _; rw [had]
    rw [List.map_cons, e2] at k1
    obtain ⟨t1, a1, b1⟩ := k1 F rfl X'
    rw [← hTT] at a1
    exact ⟨t1, step t1 a1, b1⟩
  | _ => exact absurd (show (none : zz_O3) = some _ from h) (by simp)
theorem zz_getD_take {xs ys : List Int32} {n : Nat} (h1 : n ≤ xs.length) (h2 : n ≤ ys.length) (k : Nat) : (xs.take n ++ ys.drop n).getD k 0 = if k < n then xs.getD k 0 else ys.getD k 0 := by
  simp only [List.getD_eq_getElem?_getD]
  by_cases hk : k < n
  · rw [if_pos hk, List.getElem?_append_left (by rw [List.length_take]; omega), List.getElem?_take_of_lt hk]
  · rw [if_neg hk, List.getElem?_append_right (by rw [List.length_take]; omega), List.getElem?_drop, List.length_take]
    congr 2
    omega
set_option maxHeartbeats 4000000 in
theorem zz_copy (hx : p.tables.exec = Jvm.exec) (hb : c.code = cc) (hml : c.maxLocals = nL) {own : String} (hown : s.vm.findClass own = some m.cls) (hK : zz_K g s) {idx i j : Nat} (hlink : (Jvm.Cond.methodLink own idx arraycopyName).before args s = true) (hnat : (Jvm.Cond.native arraycopyName).before args s = true) (hstat : (Jvm.Cond.static arraycopyName).before args s = true) (hini : (Jvm.Cond.initialized "java/lang/System").before args s = true)
    {H : Heap} {locs : List Loc} {ls : Array Slot} {rest : List Value} {xs ys : List Int32} {n : Int32} (hR : zz_R g s c0 cs H locs) (hi : cs[i]? = some (some (.inl xs))) (hj : cs[j]? = some (some (.inl ys))) (hn : ¬ n < 0) (h4 : n.toNatClampNeg ≤ xs.length) (h5 : n.toNatClampNeg ≤ ys.length) (hls : ls.size = nL)
    (hframes : 1 ≤ R.frames) (hlocals : (rest.map fun v => v.category).sum + (nativeFrameWords "java/lang/System" "arraycopy" 5 + 11) ≤ R.locals) (hd : decode cc pc = .ok (.invokestatic idx, 3))
    (kk : ∀ (H1 : Heap) (locs1 : List Loc), zz_R g s c0 (cs.set j (some (.inl (xs.take n.toNatClampNeg ++ ys.drop n.toNatClampNeg)))) H1 locs1 → W p l e R s m args below meth c H1 locs1 cu su Q (F0 m (pc + 3) ls rest)) : W p l e R s m args below meth c H locs cu su Q (F0 m pc ls (.int n :: .int 0 :: .ref (zz_ad g j) :: .int 0 :: .ref (zz_ad g i) :: rest)) := by
  have nn : n.toInt = (n.toNatClampNeg : Int) := by
    have hz0 : (0 : Int) ≤ n.toInt := by
      have := Int32.not_lt.mp hn
      simpa using Int32.le_iff_toInt_le.mp this
    show n.toInt = ((n.toInt.toNat : Nat) : Int)
    omega
  intro T hT X
  have hc0 : H[zz_ad g i]? = some (vp_cell (g.2.2.1 0) (xs.length, .inl (fun k => xs.getD k 0))) := (hR.1.2 i _ hi).2
  have hc1 : H[zz_ad g j]? = some (vp_cell (g.2.2.1 0) (ys.length, .inl (fun k => ys.getD k 0))) := (hR.1.2 j _ hj).2
  obtain ⟨-, k0, hk0, cm0, hkk0⟩ := (hK.2 0 .int zz_ty0).1 xs.length (fun k => .int (xs.getD k 0))
  obtain ⟨-, k1, hk1, cm1, hkk1⟩ := (hK.2 0 .int zz_ty0).1 ys.length (fun k => .int (ys.getD k 0))
  have z0 : (0 : Int32).toNatClampNeg = 0 := rfl
  obtain ⟨vm', X', step⟩ := X.arraycopy hx hown hlink hnat hstat hini (src := zz_ad g i) (dst := zz_ad g j) (cs := vp_cell (g.2.2.1 0) (xs.length, .inl (fun k => xs.getD k 0))) (cd := vp_cell (g.2.2.1 0) (ys.length, .inl (fun k => ys.getD k 0))) (srcPos := 0) (destPos := 0) (n := n) (by rw [hT]; exact hc0) (by rw [hT]; exact hc1)
    (fun _ h => by cases h) (fun _ h => by cases h) (fun h => by cases h) (fun h => by cases h) hk0 hk1 hkk0 hkk1 (by simp [refKind]) (by decide) (by decide) hn
    (by show ¬ (0 : Int32).toInt + n.toInt > ((arrV (g.2.2.1 0) xs.length (fun k => .int (xs.getD k 0))).slots.size : Int); rw [arrV_size, nn]; have : (0 : Int32).toInt = 0 := rfl; omega)
    (by show ¬ (0 : Int32).toInt + n.toInt > ((arrV (g.2.2.1 0) ys.length (fun k => .int (ys.getD k 0))).slots.size : Int); rw [arrV_size, nn]; have : (0 : Int32).toInt = 0 := rfl; omega)
    (fun vm₁ _ k hk => by
      have e : (vp_cell (g.2.2.1 0) (xs.length, .inl (fun k => xs.getD k 0))).slots.getD ((0 : Int32).toNatClampNeg + k) .null = .int (xs.getD k 0) := by
        show (arrV (g.2.2.1 0) xs.length (fun k => .int (xs.getD k 0))).slots.getD _ _ = _
        rw [z0, Nat.zero_add, Array.getD_eq_getD_getElem?, arrV_read _ _ (by omega)]
        rfl
      rw [e]
      exact ⟨rfl, trivial⟩)
    (g := F0 m pc ls (.int n :: .int 0 :: .ref (zz_ad g j) :: .int 0 :: .ref (zz_ad g i) :: rest)) rfl (by rw [hml]; exact hls) (rest := rest) rfl (by rw [hb]; exact hd) hframes (by show 2 * 0 + _ + _ ≤ _; omega)
  have e1 : copied (vp_cell (g.2.2.1 0) (xs.length, .inl (fun k => xs.getD k 0))) (vp_cell (g.2.2.1 0) (ys.length, .inl (fun k => ys.getD k 0))) 0 0 n = vp_cell (g.2.2.1 0) (ys.length, .inl (va_cpy (fun k => xs.getD k 0) (fun k => ys.getD k 0) (0 : Int32).toNatClampNeg (0 : Int32).toNatClampNeg n.toNatClampNeg)) := va_copied (fun z => .int z) (g.2.2.1 0) (g.2.2.1 0) (fun k => xs.getD k 0) (fun k => ys.getD k 0) (by rw [z0]; omega)
  rw [e1] at X' step
  have hl : zz_ad g j < H.size := (Array.getElem?_eq_some_iff.mp hc1).1
  generalize hc2 : vp_cell (g.2.2.1 0) (ys.length, .inl (va_cpy (fun k => xs.getD k 0) (fun k => ys.getD k 0) (0 : Int32).toNatClampNeg (0 : Int32).toNatClampNeg n.toNatClampNeg)) = cell2 at X' step
  have hheap : ((T.setVm vm').setCell (zz_ad g j) cell2).heap = H.setIfInBounds (zz_ad g j) cell2 := by rw [← hT]; rfl
  have oq : ∀ q : Nat, q ≠ zz_ad g j → (H.setIfInBounds (zz_ad g j) cell2)[q]? = H[q]? := fun q hq => by simp [Array.getElem?_setIfInBounds, Ne.symm hq]
  obtain ⟨h1, h2, h3, h6, h9⟩ := hR
  have hp := (h1.2 j _ hj).1
  have ha := zz_ad_pos g hp
  obtain ⟨t, a1, b1⟩ := kk (H.setIfInBounds (zz_ad g j) cell2) _ ⟨h1.set hj (by simp) oq (by
      show (H.setIfInBounds (zz_ad g j) cell2)[zz_ad g j]? = _
      simp only [Array.getElem?_setIfInBounds, hl, if_true, ← hc2]
      have hlen : (xs.take n.toNatClampNeg ++ ys.drop n.toNatClampNeg).length = ys.length := by
        rw [List.length_append, List.length_take, List.length_drop]
        omega
      rw [hlen]
      rw [vp_cell_i]
      congr 2
      funext k
      rw [zz_getD_take h4 h5]
      simp only [va_cpy, z0, Nat.zero_le, true_and, Nat.zero_add, Nat.sub_zero]
      ), by simp; exact h2, fun q hq => (oq q (by omega)).trans (h3 q hq), fun q hq => by
      rcases List.mem_append.mp hq with h | h
      · exact h6 q h
      · obtain ⟨z, -, hz⟩ := List.mem_map.mp h
        rw [← hz]
        show g.1 < zz_ad g j
        omega, fun k hk => by
      obtain ⟨u1, u2⟩ := h9 k hk
      have hjk : j ≠ k := fun e => by
        subst e
        rw [hj] at u1
        cases u1
      exact ⟨by rw [List.getElem?_set_ne hjk]; exact u1, (oq _ (by omega)).trans u2⟩⟩ _ hheap X'
  exact ⟨t, step t a1, b1⟩
end ZZ4
end
section
/-! the evaluator: whole walks of the pure machine, calls and all, and their contracts -/
theorem zz_fnd_ok {pc : Nat} : ∀ {ch : List zz_I} {e : zz_I}, zz_fnd pc ch = some e → e ∈ ch ∧ e.1 = pc
  | [], _, h => by cases h
  | e :: r, e', h => by
    unfold zz_fnd at h
    split at h
    · rename_i hb
      cases h
      exact ⟨List.mem_cons_self, Nat.eq_of_beq_eq_true hb⟩
    · obtain ⟨h1, h2⟩ := zz_fnd_ok h
      exact ⟨List.mem_cons_of_mem _ h1, h2⟩
theorem zz_fetch_ok {code : List (List zz_I)} {pc : Nat} {e : zz_I} (h : zz_fetch code pc = some e) : (∃ ch ∈ code, e ∈ ch) ∧ e.1 = pc := by
  unfold zz_fetch at h
  split at h
  · rename_i ch hch
    obtain ⟨h1, h2⟩ := zz_fnd_ok h
    exact ⟨⟨ch, List.mem_of_getElem? hch, h1⟩, h2⟩
  · cases h
theorem zz_alts_ok {C : Nat → Option String} {x : MethodName} {ci k w : Nat} : ∀ {r : List Nat}, zz_alts C x r = true → zz_alt ci r = some (k, w) → ∃ q mi, classes[ci]? = some q ∧ zz_mts[k]? = some mi ∧ mi.2.2.2.2.2.1 = false ∧ zz_wd w (.selects q.1 x mi.1) = true
  | [], _, h => by cases h
  | [_], _, h => by cases h
  | [_, _], _, h => by cases h
  | a :: k' :: w' :: r, h1, h2 => by
    unfold zz_alts at h1
    unfold zz_alt at h2
    simp only [Bool.and_eq_true] at h1
    split at h2
    · rename_i hb
      cases h2
      have ha := Nat.eq_of_beq_eq_true hb
      subst ha
      have h3 := h1.1
      split at h3
      · rename_i q hq
        split at h3
        · rename_i y _ _ _ _ stt _ _ _ hm
          simp only [Bool.and_eq_true, Bool.not_eq_true'] at h3
          exact ⟨q, _, hq, hm, h3.1, h3.2⟩
        · cases h3
      · cases h3
    · exact zz_alts_ok h1.2 h2
theorem zz_chk_of {mi : zz_Mi} (h : zz_cdk mi = true) {pc : Nat} {e : zz_I} (hf : zz_fetch mi.2.2.2.2.2.2.2.2 pc = some e) : e.1 = pc ∧ decode mi.2.1 pc = .ok (e.2.1, e.2.2.1) ∧ (zz_len e.2.1 = 0 ∨ e.2.2.1 = zz_len e.2.1) ∧ zz_tb mi.1.cls mi.1.name e.2.1 e.2.2.2.1 e.2.2.2.2 = true ∧ zz_at3 mi.1.cls e.2.1 e.2.2.2.1 = true ∧ zz_tn mi.1.cls e.2.1 e.2.2.2.1 = true ∧ zz_tc2 mi.1.cls e.2.1 e.2.2.2.1 = true := by
  obtain ⟨⟨ch, h1, h2⟩, rfl⟩ := zz_fetch_ok hf
  have h3 := List.all_eq_true.mp (List.all_eq_true.mp h ch h1) e h2
  obtain ⟨pc, ins, len, r, v0⟩ := e
  simp only [zz_chk, Bool.and_eq_true, decide_eq_true_eq, Bool.or_eq_true] at h3
  exact ⟨rfl, h3.1, h3.2.1, h3.2.2.1, h3.2.2.2.1, h3.2.2.2.2.1, h3.2.2.2.2.2⟩
end
section
/-! the real machine follows the pure one -/
section ZZ5
variable {g : zz_G} {p : Program} {l : Launch} {e : Env} {R : Room} {s : State} {m : MethodId} {args : Array Value} {below : List Frame} {meth : Method} {c : Code} {Q : State → Prop} {pc pc' n cu su cu' su' : Nat} {L L' : List (Option Value)} {st st' : List Value} {c0 cs cs' : zz_W} {mi : zz_Mi}
/-- where a method stands -/
noncomputable def zz_X (g : zz_G) (p : Program) (R : Room) (s : State) (m : MethodId) (meth : Method) (c : Code) (mi : zz_Mi) : Prop :=
  p.tables.exec = Jvm.exec ∧ c.code = mi.2.1 ∧ c.maxLocals = mi.2.2.1 ∧ s.vm.findClass mi.1.cls = some m.cls ∧ zz_ok s ∧ zz_K g s ∧ (mi.1.name = "<init>" → meth.name = "<init>") ∧ R = zz_rm mi.2.2.2.2.2.2.1 ∧ zz_cdk mi = true
theorem zz_na_ok {cc : ByteArray} {nL : Nat} (hx : p.tables.exec = Jvm.exec) (hb : c.code = cc) (hml : c.maxLocals = nL) {own : String} (hown : s.vm.findClass own = some m.cls) (hT : zz_ok s) (hK : zz_K g s) (hB : cu ≤ R.cells ∧ su ≤ R.slots) {ins : Instr} {len : Nat} {r : List Nat} (hd : decode cc pc = .ok (ins, len)) (hlen : zz_len ins = 0 ∨ len = zz_len ins) (htb : zz_tn own ins r = true) (h : zz_na ins r R.frames R.locals pc L st cs = some (pc', L', st', cs'))
    (kk : zz_Z g c0 p l e R s m args below meth c Q nL pc' L' st' cs' cu su) : zz_Z g c0 p l e R s m args below meth c Q nL pc L st cs cu su := by
  intro hnL H locs ls hR hl
  have lenO : ∀ k : Nat, (k + 1 = 0 ∨ len = k + 1) → len = k + 1 := fun k q => q.resolve_left (by omega)
  cases ins with
  | invokespecial idx =>
    cases lenO _ hlen
    simp only [zz_na] at h
    split at h <;> try (cases h; done)
    split at h <;> try (cases h; done)
    split at h <;> try (cases h; done)
    rename_i w1 w2 w3 _ i rest hs
    cases h
    simp only [zz_tn, Bool.and_eq_true] at htb
    refine W.objInit hx hb hown (zz_wd_ok htb.1 hT args) (zz_wd_ok htb.2.1 hT args) (zz_wd_ok htb.2.2 hT args) rfl (hl.1.trans hml.symm) rfl hd hs.1 ?_ (kk hnL H locs ls hR hl)
    rw [zz_ss_tr]
    show 2 * 0 + _ + 12 ≤ R.locals
    have h9 := hs.2
    omega
  | invokestatic idx =>
    cases lenO _ hlen
    simp only [zz_na] at h
    split at h <;> try (cases h; done)
    · split at h <;> try (cases h; done)
      split at h <;> try (cases h; done)
      rename_i w1 w2 w3 w4 _ y x rest hs
      cases h
      simp only [zz_tn, Bool.and_eq_true] at htb
      exact va_mmax hx hb (hml.trans hl.1.symm) hown (zz_wd_ok htb.1 hT args) (zz_wd_ok htb.2.1 hT args) (zz_wd_ok htb.2.2.1 hT args) (zz_wd_ok htb.2.2.2 hT args) hs.1 (by rw [zz_ss_tr]; exact hs.2) hB.1 hB.2 hd (kk hnL H locs ls hR hl)
    · split at h <;> try (cases h; done)
      split at h <;> try (cases h; done)
      rename_i w1 w2 w3 w4 _ y x rest hs
      cases h
      simp only [zz_tn, Bool.and_eq_true] at htb
      exact va_mmin hx hb (hml.trans hl.1.symm) hown (zz_wd_ok htb.1 hT args) (zz_wd_ok htb.2.1 hT args) (zz_wd_ok htb.2.2.1 hT args) (zz_wd_ok htb.2.2.2 hT args) hs.1 (by rw [zz_ss_tr]; exact hs.2) hB.1 hB.2 hd (kk hnL H locs ls hR hl)
    · split at h <;> try (cases h; done)
      split at h <;> try (cases h; done)
      split at h <;> try (cases h; done)
      split at h <;> try (cases h; done)
      rename_i w1 w2 w3 w4 _ n dp j sp i rest _ xs hi _ ys hj hs
      cases h
      obtain ⟨hf, hs, rfl, rfl, hn, h4, h5⟩ := hs
      simp only [zz_tn, Bool.and_eq_true] at htb
      exact zz_copy hx hb hml hown hK (zz_wd_ok htb.1 hT args) (zz_wd_ok htb.2.1 hT args) (zz_wd_ok htb.2.2.1 hT args) (zz_wd_ok htb.2.2.2 hT args) hR (zz_cell_eq hi) (zz_cell_eq hj) hn h4 h5 hl.1 hf (by
        have z : nativeFrameWords "java/lang/System" "arraycopy" 5 = 7 := by decide
        rw [zz_ss_tr, z]; omega) hd (fun H1 locs1 hR1 => kk hnL H1 locs1 ls hR1 hl)
  | _ => exact absurd (show (none : zz_O2) = some _ from h) (by simp)
theorem zz_al_le {Bc Bs : Nat} {ins : Instr} {r : List Nat} (h : zz_al ins r Bc Bs pc L st cs cu su = some (pc', L', st', cs', cu', su')) : cu' ≤ Bc ∧ su' ≤ Bs := by
  cases ins with
  | new idx =>
    simp only [zz_al] at h
    split at h <;> try (cases h; done)
    split at h <;> try (cases h; done)
    split at h <;> try (cases h; done)
    rename_i hc
    cases h
    exact ⟨hc.1, hc.2.1⟩
  | newarray idx =>
    simp only [zz_al] at h
    split at h <;> try (cases h; done)
    split at h <;> try (cases h; done)
    rename_i hc
    cases h
    exact ⟨hc.2.2.1, hc.2.2.2.1⟩
  | anewarray idx =>
    simp only [zz_al] at h
    split at h <;> try (cases h; done)
    split at h <;> try (cases h; done)
    split at h <;> try (cases h; done)
    rename_i hc
    cases h
    exact ⟨hc.2.2.1, hc.2.2.2.1⟩
  | multianewarray idx dims =>
    simp only [zz_al] at h
    split at h <;> try (cases h; done)
    split at h <;> try (cases h; done)
    split at h <;> try (cases h; done)
    rename_i hc
    cases h
    exact ⟨by have := hc.2.2.2.2.2.2.1; omega, by have := hc.2.2.2.2.2.2.2.1; omega⟩
  | _ => exact absurd (show (none : zz_O3) = some _ from h) (by simp)
/-- one step -/
theorem zz_step (X : zz_X g p R s m meth c mi) {en : zz_I} (hB : cu ≤ R.cells ∧ su ≤ R.slots) (hf : zz_fetch mi.2.2.2.2.2.2.2.2 pc = some en) (h : zz_one mi.2.2.2.2.2.2.1 en (pc, L, st, cs, cu, su) = some (pc', L', st', cs', cu', su'))
    (kk : cu' ≤ R.cells ∧ su' ≤ R.slots → zz_Z g c0 p l e R s m args below meth c Q mi.2.2.1 pc' L' st' cs' cu' su') : zz_Z g c0 p l e R s m args below meth c Q mi.2.2.1 pc L st cs cu su := by
  obtain ⟨hx, hb, hml, hown, hT, hK, hnm, rfl, hcd⟩ := X
  obtain ⟨-, hd, hlen, t1, t2, t3, -⟩ := zz_chk_of hcd hf
  simp only [zz_one] at h
  split at h
  · rename_i h1
    cases h
    exact zz_da_ok hx hb hd hlen h1 (kk hB)
  · split at h
    · rename_i h1
      cases h
      exact zz_db_ok hx hb hown hT hK hd hlen hnm t1 h1 (kk hB)
    · split at h
      · rename_i h1
        cases h
        exact zz_al_ok hx hb hown hT hK hd hlen t2 h1 (kk (zz_al_le h1))
      · split at h
        · rename_i h1
          cases h
          exact zz_na_ok hx hb hml hown hT hK hB hd hlen t3 h1 (kk hB)
        · cases h
theorem zz_rc_ok {n ci : Nat} (h : zz_rc n st cs = some ci) : ∃ i fs, st[n]? = some (.ref i) ∧ zz_cell cs i = some (.inr (.inr (ci, fs))) := by
  unfold zz_rc at h
  split at h
  · rename_i i hi
    split at h
    · rename_i cj fs hc
      cases h
      exact ⟨i, fs, hi, hc⟩
    · cases h
  · cases h
theorem zz_takeI {n : Nat} {v : Value} (h : st[n]? = some v) : st = st.take n ++ v :: st.drop (n + 1) ∧ (st.take (n + 1)).reverse = v :: (st.take n).reverse := by
  have hl : n < st.length := (List.getElem?_eq_some_iff.mp h).1
  have h2 : st[n] = v := (List.getElem?_eq_some_iff.mp h).2
  refine ⟨?_, ?_⟩
  · rw [← h2, List.getElem_cons_drop, List.take_append_drop]
  · rw [List.take_succ, h, Option.toList_some, List.reverse_append]
    rfl
theorem zz_cls {ci i : Nat} {fs : List Value} {H : Heap} {locs : List Loc} (hR : zz_R g s c0 cs H locs) (hi : zz_cell cs i = some (.inr (.inr (ci, fs)))) : ∃ q, classes[ci]? = some q := by
  obtain ⟨r, h1, -⟩ := (hR.1.2 i _ (zz_cell_eq hi)).2
  exact ⟨r, h1⟩
/-- a call of a method of the system, by its contract -/
theorem zz_call (X : zz_X g p R s m meth c mi) {en : zz_I} {mk : zz_Mi} (hf : zz_fetch mi.2.2.2.2.2.2.2.2 pc = some en) (hc : zz_ca en.2.1 en.2.2.2.1 st cs = some mk) (hlen : zz_cn mk ≤ st.length) (hsum : zz_ss (st.drop (zz_cn mk)) ≤ 8) (hBc : cu + mk.2.2.2.2.2.2.1.1 ≤ R.cells ∧ su + mk.2.2.2.2.2.2.1.2.1 ≤ R.slots) (hFr : mk.2.2.2.2.2.2.1.2.2.1 + 1 ≤ R.frames ∧ 8 + (mk.2.2.1 + 11) + mk.2.2.2.2.2.2.1.2.2.2 ≤ R.locals) {P : Option Value → zz_W → Prop} (hM : zz_Met l g mk (st.take (zz_cn mk)).reverse cs P)
    (kk : ∀ (v : Option Value) (cs' : zz_W), P v cs' → zz_Z g c0 p l e R s m args below meth c Q mi.2.2.1 (pc + 3) L (v.toList ++ st.drop (zz_cn mk)) cs' (cu + mk.2.2.2.2.2.2.1.1) (su + mk.2.2.2.2.2.2.1.2.1)) : zz_Z g c0 p l e R s m args below meth c Q mi.2.2.1 pc L st cs cu su := by
  intro hnL H locs ls hR hl
  obtain ⟨hx, hb, hml, hown, hT, hK, hnm, rfl, hcd⟩ := X
  obtain ⟨-, hd, hle, -, -, -, t4⟩ := zz_chk_of hcd hf
  obtain ⟨pc0, ins, len, r, v0⟩ := en
  dsimp only at hc hd hle t4
  have lenO : ∀ k : Nat, (k + 1 = 0 ∨ len = k + 1) → len = k + 1 := fun k q => q.resolve_left (by omega)
  have hls : ls.size = mi.2.2.1 := hl.1
  have fin : ∀ {st0 : List Value} {a : Array Value}, st0 = st.map (zz_tr g) → va_Run p l e (zz_rm mi.2.2.2.2.2.2.1) s m args below meth c H locs cu su mk.2.2.2.2.2.2.1.1 mk.2.2.2.2.2.2.1.2.1 (F0 m pc ls st0) ((st.drop (zz_cn mk)).map (zz_tr g)) (zz_Qc g cs P a) (fun q => g.1 < q) → W p l e (zz_rm mi.2.2.2.2.2.2.1) s m args below meth c H locs cu su Q (F0 m pc ls (st.map (zz_tr g))) := by
    intro st0 a h0 hrun
    subst h0
    exact zz_after hrun hR (fun v cs' H1 locs1 hP hR1 => kk v cs' hP hnL H1 locs1 ls hR1 hl)
  cases ins with
  | invokestatic idx =>
    cases lenO _ hle
    simp only [zz_ca] at hc
    split at hc <;> try (cases hc; done)
    · rename_i k w
      have hmok := zz_mok_all k mk hc
      have hcw := zz_mcw_all k mk hc
      simp only [zz_tc2, hc, Bool.and_eq_true] at t4
      obtain ⟨y, b, mL, ret, n, stt, ⟨mc, ms, fr, lo⟩, ⟨w0, w1, w2⟩, code⟩ := mk
      obtain ⟨t5, t6⟩ := t4
      try dsimp only at t5 t6
      subst t5
      exact fin (zz_split rfl).symm (zz_runS hx hb hml hown hT hK hcw hmok rfl hM t6 hd hFr hsum hBc (by rw [List.length_reverse, List.length_take]; exact Nat.min_eq_left hlen) hls hR)
    · rename_i k w
      have hmok := zz_mok_all k mk hc
      have hcw := zz_mcw_all k mk hc
      simp only [zz_tc2, hc, Bool.and_eq_true] at t4
      obtain ⟨y, b, mL, ret, n, stt, ⟨mc, ms, fr, lo⟩, ⟨w0, w1, w2⟩, code⟩ := mk
      obtain ⟨t5, t6⟩ := t4
      try dsimp only at t5 t6
      subst t5
      exact fin (zz_split rfl).symm (zz_runSN hx hb hml hown hT hK hcw hmok rfl hM t6 hd hFr hsum hBc (by rw [List.length_reverse, List.length_take]; exact Nat.min_eq_left hlen) hls hR)
  | invokespecial idx =>
    cases lenO _ hle
    simp only [zz_ca] at hc
    split at hc <;> try (cases hc; done)
    · split at hc <;> try (cases hc; done)
      rename_i mk' hmk
      split at hc <;> try (cases hc; done)
      rename_i cj hrc
      cases hc
      have hmok := zz_mok_all _ _ hmk
      have hcw := zz_mcw_all _ _ hmk
      obtain ⟨y, b, mL, ret, n, stt, ⟨mc, ms, fr, lo⟩, ⟨w0, w1, w2⟩, code⟩ := mk
      obtain ⟨i, fs, hi, hcell⟩ := zz_rc_ok hrc
      obtain ⟨hs1, hs2⟩ := zz_takeI hi
      simp only [zz_tc2, hmk] at t4
      simp only [Bool.and_eq_true, Bool.not_eq_true', decide_eq_true_eq, decide_eq_false_iff_not] at t4
      obtain ⟨t5, t6, t7, t8⟩ := t4
      try dsimp only at t5 t6 t7 t8
      subst t5
      have hM2 : zz_Met l g (y, b, mL, ret, n, false, (mc, ms, fr, lo), (w0, w1, w2), code) (.ref i :: (st.take n).reverse) cs P := by rw [← hs2]; exact hM
      refine fin (st0 := ((st.take n).reverse.map (zz_tr g)).reverse ++ .ref (zz_ad g i) :: (st.drop (n + 1)).map (zz_tr g)) ?_ (zz_runI hx hb hml hown hT hK hcw hmok rfl hM2 t7 t8 t6 hd hFr hsum hBc (by rw [List.length_reverse, List.length_take]; exact Nat.min_eq_left (by have z : n + 1 ≤ st.length := hlen; omega)) hls hR)
      rw [List.map_reverse, List.reverse_reverse]
      conv => rhs; rw [hs1]
      rw [List.map_append]
      rfl
    · split at hc <;> try (cases hc; done)
      rename_i mk' hmk
      split at hc <;> try (cases hc; done)
      rename_i cj hrc
      cases hc
      have hmok := zz_mok_all _ _ hmk
      have hcw := zz_mcw_all _ _ hmk
      obtain ⟨y, b, mL, ret, n, stt, ⟨mc, ms, fr, lo⟩, ⟨w0, w1, w2⟩, code⟩ := mk
      obtain ⟨i, fs, hi, hcell⟩ := zz_rc_ok hrc
      obtain ⟨hs1, hs2⟩ := zz_takeI hi
      simp only [zz_tc2, hmk] at t4
      simp only [Bool.and_eq_true, Bool.not_eq_true', decide_eq_true_eq, decide_eq_false_iff_not] at t4
      obtain ⟨t5, t6, t7, t8⟩ := t4
      try dsimp only at t5 t6 t7 t8
      subst t5
      have hM2 : zz_Met l g (y, b, mL, ret, n, false, (mc, ms, fr, lo), (w0, w1, w2), code) (.ref i :: (st.take n).reverse) cs P := by rw [← hs2]; exact hM
      refine fin (st0 := ((st.take n).reverse.map (zz_tr g)).reverse ++ .ref (zz_ad g i) :: (st.drop (n + 1)).map (zz_tr g)) ?_ (zz_runIN hx hb hml hown hT hK hcw hmok rfl hM2 t7 t8 t6 hd hFr hsum hBc (by rw [List.length_reverse, List.length_take]; exact Nat.min_eq_left (by have z : n + 1 ≤ st.length := hlen; omega)) hls hR)
      rw [List.map_reverse, List.reverse_reverse]
      conv => rhs; rw [hs1]
      rw [List.map_append]
      rfl
    · split at hc <;> try (cases hc; done)
      rename_i mk' hmk
      split at hc <;> try (cases hc; done)
      rename_i cj hrc
      cases hc
      have hmok := zz_mok_all _ _ hmk
      have hcw := zz_mcw_all _ _ hmk
      obtain ⟨y, b, mL, ret, n, stt, ⟨mc, ms, fr, lo⟩, ⟨w0, w1, w2⟩, code⟩ := mk
      obtain ⟨i, fs, hi, hcell⟩ := zz_rc_ok hrc
      obtain ⟨hs1, hs2⟩ := zz_takeI hi
      simp only [zz_tc2, hmk] at t4
      split at t4 <;> try (cases t4; done)
      simp only [Bool.and_eq_true, Bool.not_eq_true', decide_eq_true_eq, decide_eq_false_iff_not] at t4
      obtain ⟨t5, t6, t7, t8, t10, t9⟩ := t4
      try dsimp only at t5 t6 t7 t8 t10 t9
      subst t5
      have hM2 : zz_Met l g (y, b, mL, ret, n, false, (mc, ms, fr, lo), (w0, w1, w2), code) (.ref i :: (st.take n).reverse) cs P := by rw [← hs2]; exact hM
      refine fin (st0 := ((st.take n).reverse.map (zz_tr g)).reverse ++ .ref (zz_ad g i) :: (st.drop (n + 1)).map (zz_tr g)) ?_ (zz_runSU2 hx hb hml hown hT hK hcw hmok rfl hM2 t9 t6 t7 t8 t10 (zz_cls hR hcell).choose_spec hcell hd hFr hsum hBc (by rw [List.length_reverse, List.length_take]; exact Nat.min_eq_left (by have z : n + 1 ≤ st.length := hlen; omega)) hls hR)
      rw [List.map_reverse, List.reverse_reverse]
      conv => rhs; rw [hs1]
      rw [List.map_append]
      rfl
    · split at hc <;> try (cases hc; done)
      rename_i mk' hmk
      split at hc <;> try (cases hc; done)
      rename_i cj hrc
      cases hc
      have hmok := zz_mok_all _ _ hmk
      have hcw := zz_mcw_all _ _ hmk
      obtain ⟨y, b, mL, ret, n, stt, ⟨mc, ms, fr, lo⟩, ⟨w0, w1, w2⟩, code⟩ := mk
      obtain ⟨i, fs, hi, hcell⟩ := zz_rc_ok hrc
      obtain ⟨hs1, hs2⟩ := zz_takeI hi
      simp only [zz_tc2, hmk] at t4
      simp only [Bool.and_eq_true, Bool.not_eq_true', decide_eq_true_eq, decide_eq_false_iff_not] at t4
      obtain ⟨t5, t6, t7, t8, t9⟩ := t4
      try dsimp only at t5 t6 t7 t8 t9
      subst t5
      have hM2 : zz_Met l g (y, b, mL, ret, n, false, (mc, ms, fr, lo), (w0, w1, w2), code) (.ref i :: (st.take n).reverse) cs P := by rw [← hs2]; exact hM
      refine fin (st0 := ((st.take n).reverse.map (zz_tr g)).reverse ++ .ref (zz_ad g i) :: (st.drop (n + 1)).map (zz_tr g)) ?_ (zz_runSU hx hb hml hown hT hK hcw hmok rfl hM2 t9 t6 t7 t8 (zz_cls hR hcell).choose_spec hcell hd hFr hsum hBc (by rw [List.length_reverse, List.length_take]; exact Nat.min_eq_left (by have z : n + 1 ≤ st.length := hlen; omega)) hls hR)
      rw [List.map_reverse, List.reverse_reverse]
      conv => rhs; rw [hs1]
      rw [List.map_append]
      rfl
  | invokevirtual idx =>
    cases lenO _ hle
    simp only [zz_ca] at hc
    split at hc <;> try (cases hc; done)
    · split at hc <;> try (cases hc; done)
      rename_i mk' hmk
      split at hc <;> try (cases hc; done)
      rename_i cj hrc
      split at hc <;> try (cases hc; done)
      rename_i hcj
      cases hc
      have hmok := zz_mok_all _ _ hmk
      have hcw := zz_mcw_all _ _ hmk
      obtain ⟨y, b, mL, ret, n, stt, ⟨mc, ms, fr, lo⟩, ⟨w0, w1, w2⟩, code⟩ := mk
      obtain ⟨i, fs, hi, hcell⟩ := zz_rc_ok hrc
      obtain ⟨hs1, hs2⟩ := zz_takeI hi
      subst hcj
      simp only [zz_tc2, hmk] at t4
      split at t4 <;> try (cases t4; done)
      rename_i q hq
      simp only [Bool.and_eq_true, Bool.not_eq_true', decide_eq_true_eq, decide_eq_false_iff_not] at t4
      obtain ⟨t5, t6, t7, t8⟩ := t4
      try dsimp only at t5 t6 t7 t8
      subst t5
      have hM2 : zz_Met l g (y, b, mL, ret, n, false, (mc, ms, fr, lo), (w0, w1, w2), code) (.ref i :: (st.take n).reverse) cs P := by rw [← hs2]; exact hM
      refine fin (st0 := ((st.take n).reverse.map (zz_tr g)).reverse ++ .ref (zz_ad g i) :: (st.drop (n + 1)).map (zz_tr g)) ?_ (zz_runV hx hb hml hown hT hK hcw hmok rfl hM2 t6 t7 hq hcell t8 hd hFr hsum hBc (by rw [List.length_reverse, List.length_take]; exact Nat.min_eq_left (by have z : n + 1 ≤ st.length := hlen; omega)) hls hR)
      rw [List.map_reverse, List.reverse_reverse]
      conv => rhs; rw [hs1]
      rw [List.map_append]
      rfl
    · split at hc <;> try (cases hc; done)
      rename_i mk' hmk
      split at hc <;> try (cases hc; done)
      rename_i cj hrc
      split at hc <;> try (cases hc; done)
      rename_i hcj
      cases hc
      have hmok := zz_mok_all _ _ hmk
      have hcw := zz_mcw_all _ _ hmk
      obtain ⟨y, b, mL, ret, n, stt, ⟨mc, ms, fr, lo⟩, ⟨w0, w1, w2⟩, code⟩ := mk
      obtain ⟨i, fs, hi, hcell⟩ := zz_rc_ok hrc
      obtain ⟨hs1, hs2⟩ := zz_takeI hi
      subst hcj
      simp only [zz_tc2, hmk] at t4
      split at t4 <;> try (cases t4; done)
      rename_i q hq
      simp only [Bool.and_eq_true, Bool.not_eq_true', decide_eq_true_eq, decide_eq_false_iff_not] at t4
      obtain ⟨t5, t6, t7, t8⟩ := t4
      try dsimp only at t5 t6 t7 t8
      subst t5
      have hM2 : zz_Met l g (y, b, mL, ret, n, false, (mc, ms, fr, lo), (w0, w1, w2), code) (.ref i :: (st.take n).reverse) cs P := by rw [← hs2]; exact hM
      refine fin (st0 := ((st.take n).reverse.map (zz_tr g)).reverse ++ .ref (zz_ad g i) :: (st.drop (n + 1)).map (zz_tr g)) ?_ (zz_runVN hx hb hml hown hT hK hcw hmok rfl hM2 t6 t7 hq hcell t8 hd hFr hsum hBc (by rw [List.length_reverse, List.length_take]; exact Nat.min_eq_left (by have z : n + 1 ≤ st.length := hlen; omega)) hls hR)
      rw [List.map_reverse, List.reverse_reverse]
      conv => rhs; rw [hs1]
      rw [List.map_append]
      rfl
    · split at hc <;> try (cases hc; done)
      rename_i mx hmx
      split at hc <;> try (cases hc; done)
      rename_i cj hrc
      split at hc <;> try (cases hc; done)
      rename_i k' wsel halt
      split at hc <;> try (cases hc; done)
      rename_i mk' hmk
      split at hc <;> try (cases hc; done)
      rename_i hnn
      cases hc
      have hmok := zz_mok_all _ _ hmk
      have hcw := zz_mcw_all _ _ hmk
      have hmokx := zz_mok_all _ _ hmx
      have hcwx := zz_mcw_all _ _ hmx
      simp only [zz_tc2, hmx, Bool.and_eq_true, Bool.not_eq_true'] at t4
      obtain ⟨u1, u2, u3, u4⟩ := t4
      obtain ⟨q, mi2, hq, hmi2, hst2, hsel⟩ := zz_alts_ok u4 halt
      cases hmk.symm.trans hmi2
      obtain ⟨y, b, mL, ret, n, stt, ⟨mc, ms, fr, lo⟩, ⟨w0, w1, w2⟩, code⟩ := mk
      obtain ⟨yx, bx, mLx, retx, nx, sttx, ⟨mcx, msx, frx, lox⟩, ⟨w0x, w1x, w2x⟩, codex⟩ := mx
      try dsimp only at u1 u2 u3 hst2 hnn hsel hrc
      subst u1
      subst hst2
      subst hnn
      simp only [zz_mok, Bool.and_eq_true, decide_eq_true_eq, zz_nm, Bool.not_eq_true', decide_eq_false_iff_not] at hmokx
      obtain ⟨-, x3, x4, -, x7⟩ := hmokx
      obtain ⟨i, fs, hi, hcell⟩ := zz_rc_ok hrc
      obtain ⟨hs1, hs2⟩ := zz_takeI hi
      have hM2 : zz_Met l g (y, b, mL, ret, n, false, (mc, ms, fr, lo), (w0, w1, w2), code) (.ref i :: (st.take n).reverse) cs P := by rw [← hs2]; exact hM
      refine fin (st0 := ((st.take n).reverse.map (zz_tr g)).reverse ++ .ref (zz_ad g i) :: (st.drop (n + 1)).map (zz_tr g)) ?_ (zz_runU hx hb hml hown hT hK hcw hmok rfl hM2 (x := yx) (owner := yx.cls) (ob := bx) (oL := mLx) (oret := retx) x7 x4 u2 u3 x3 (hT _ (List.mem_of_getElem? hcwx) rfl args) hq hcell hsel hd hFr hsum hBc (by rw [List.length_reverse, List.length_take]; exact Nat.min_eq_left (by have z : n + 1 ≤ st.length := hlen; omega)) hls hR)
      rw [List.map_reverse, List.reverse_reverse]
      conv => rhs; rw [hs1]
      rw [List.map_append]
      rfl
  | _ => exact absurd (show (none : Option zz_Mi) = some _ from hc) (by simp)
/-- what a walk to the end gives -/
noncomputable def zz_Q1 (g : zz_G) (c0 : zz_W) (below : List Frame) (args : Array Value) (s : State) (mi : zz_Mi) (P : Option Value → zz_W → Prop) : State → Prop := MQ below (zz_Qc g c0 P) args s mi.2.2.2.2.2.2.1.1 mi.2.2.2.2.2.2.1.2.1 (fun q => g.1 < q)
theorem zz_end (X : zz_X g p R s m meth c mi) (hr : meth.sig.returnType = mi.2.2.2.1) (hlk : meth.locks = false) {en : zz_I} {v : Option Value} {P : Option Value → zz_W → Prop} (hP : P v cs) (hB : cu ≤ mi.2.2.2.2.2.2.1.1 ∧ su ≤ mi.2.2.2.2.2.2.1.2.1) (hf : zz_fetch mi.2.2.2.2.2.2.2.2 pc = some en) (h : zz_rt1 en.2.1 mi.2.2.2.1 st = some v) : zz_Z g c0 p l e R s m args below meth c (zz_Q1 g c0 below args s mi P) mi.2.2.1 pc L st cs cu su := by
  intro hnL H locs ls hR hl
  obtain ⟨hx, hb, hml, hown, hT, hK, hnm, rfl, hcd⟩ := X
  obtain ⟨-, hd, hle, -, -, -, -⟩ := zz_chk_of hcd hf
  obtain ⟨pc0, ins, len, r, v0⟩ := en
  dsimp only at h hd hle
  have lenO : ∀ k : Nat, (k + 1 = 0 ∨ len = k + 1) → len = k + 1 := fun k q => q.resolve_left (by omega)
  have hq : ∀ t : State, t.heap = H → s.WarmedH t.vm → zz_Qc g c0 P args s (.returned (v.map (zz_tr g))) t := fun t ht _ => ⟨v, cs, rfl, hP, by rw [ht]; exact hR.1, by rw [ht]; exact hR.2.1, fun q hq => by rw [ht]; exact hR.2.2.1 q hq, fun i hi => by rw [ht]; exact hR.2.2.2.2 i hi⟩
  refine W.widen hB.1 hB.2 ?_
  cases ins with
  | ireturn =>
    cases lenO _ hle
    simp only [zz_rt1] at h
    split at h <;> try (cases h; done)
    split at h <;> try (cases h; done)
    · rename_i hret
      cases h
      rw [hret] at hr
      exact W.iret hx hb hr hq hR.2.2.2.1 hd hlk
    · rename_i hret
      split at h <;> try (cases h; done)
      rename_i hv
      cases h
      rw [hret] at hr
      exact W.zret hx hb hr (by rcases hv with rfl | rfl <;> rfl) hq hR.2.2.2.1 hd hlk
  | lreturn =>
    cases lenO _ hle
    simp only [zz_rt1] at h
    split at h <;> try (cases h; done)
    split at h <;> try (cases h; done)
    rename_i hret
    cases h
    rw [hret] at hr
    exact W.lret hx hb hr hq hR.2.2.2.1 hd hlk
  | return_ =>
    cases lenO _ hle
    simp only [zz_rt1] at h
    split at h <;> try (cases h; done)
    split at h <;> try (cases h; done)
    rename_i hret
    cases h
    rw [hret] at hr
    exact W.vret hx hb hr hq hR.2.2.2.1 hd hlk
  | _ => exact absurd (show (none : Option (Option Value)) = some _ from h) (by simp)
end ZZ5
end
section
section ZZ6
variable {g : zz_G} {l : Launch}
theorem zz_en_mem {i : Nat} {v : Value} : ∀ (as : List Value) (j : Nat), (zz_en as)[i]? = some (some v) → (j + i, zz_tr g v) ∈ lv_args j (as.map (zz_tr g))
  | [], _, h => by simp [zz_en] at h
  | w :: as, j, h => by
    unfold zz_en at h
    rw [List.map_cons]
    unfold lv_args
    rw [zz_tr_cat]
    split at h
    · rename_i hc
      rw [if_pos hc]
      match i, h with
      | 0, h =>
        cases h
        exact List.mem_cons_self
      | 1, h => cases h
      | i + 2, h =>
        have := zz_en_mem as (j + 2) (show (zz_en as)[i]? = some (some v) from h)
        rw [show j + (i + 2) = j + 2 + i by omega]
        exact List.mem_cons_of_mem _ this
    · rename_i hc
      rw [if_neg hc]
      match i, h with
      | 0, h =>
        cases h
        exact List.mem_cons_self
      | i + 1, h =>
        have := zz_en_mem as (j + 1) (show (zz_en as)[i]? = some (some v) from h)
        rw [show j + (i + 1) = j + 1 + i by omega]
        exact List.mem_cons_of_mem _ this
theorem zz_en_len : ∀ (as : List Value), (lg_sl (as.map (zz_tr g))).length = (zz_en as).length
  | [] => rfl
  | w :: as => by
    have ih := zz_en_len as
    unfold lg_sl at ih ⊢
    rw [List.map_cons, List.flatMap_cons, List.length_append, ih, zz_tr_cat]
    rw [show zz_en (w :: as) = if w.category = 2 then some w :: none :: zz_en as else some w :: zz_en as from rfl]
    split
    · simp only [List.length_cons, List.length_nil]
      omega
    · simp only [List.length_cons, List.length_nil]
      omega
theorem zz_ent_as {nL i : Nat} {as : List Value} {v : Value} (h : (zz_ent nL as)[i]? = some (some v)) : (zz_en as)[i]? = some (some v) := by
  unfold zz_ent at h
  by_cases hl : i < (zz_en as).length
  · rwa [List.getElem?_append_left hl] at h
  · rw [List.getElem?_append_right (by omega), List.getElem?_replicate] at h
    split at h <;> cases h
/-- a contract out of a walk from the method's entry -/
theorem zz_Met_of {mi : zz_Mi} {as : List Value} {cs : zz_W} {P : Option Value → zz_W → Prop} (hmok : zz_mok mi = true) (hcd : zz_cdk mi = true) (hlen : (zz_en as).length ≤ mi.2.2.1)
    (body : ∀ (p : Program) (e : Env) (R : Room) (s : State) (m : MethodId) (args : Array Value) (below : List Frame) (meth : Method) (c : Code), zz_X g p R s m meth c mi → meth.sig.returnType = mi.2.2.2.1 → meth.locks = false → zz_Z g cs p l e R s m args below meth c (zz_Q1 g cs below args s mi P) mi.2.2.1 0 (zz_ent mi.2.2.1 as) [] cs 0 0) : zz_Met l g mi as cs P := by
  obtain ⟨y, b, mL, ret, n, stt, ⟨mc, ms, fr, lo⟩, ⟨w0, w1, w2⟩, code⟩ := mi
  have hm := hmok
  simp only [zz_mok, Bool.and_eq_true, decide_eq_true_eq] at hm
  refine Met.ofW (cc := b) (maxL := mL) (ret := ret) hm.2.2.2.1 rfl ?_
  intro p e s m args below meth c s₁ B hml hv
  obtain ⟨rfl, hP, hK, hT⟩ := hv
  have X : zz_X g p (zz_rm (mc, ms, fr, lo)) s m meth c (y, b, mL, ret, n, stt, (mc, ms, fr, lo), (w0, w1, w2), code) := ⟨B.exec, B.bytes, hml, findClass_of_methodNamed B.named, hT, hK, fun hn => ((name_of_methodNamed B.named B.method).1).trans hn, rfl, hcd⟩
  have hl := lv_entry (as.map (zz_tr g)) (n := mL) (by rw [zz_en_len]; exact hlen)
  rw [lg_entry_eq]
  refine body p e (zz_rm (mc, ms, fr, lo)) s m _ below meth c X B.returns B.notSynchronized ?_ s.heap [] _ ⟨hP, Nat.le_refl _, fun _ _ => rfl, fun q h => (by cases h), fun i hi => ⟨hi, rfl⟩⟩ ⟨hl.1, hl.2.1, fun q hq => ?_⟩
  · show (zz_ent mL as).length = mL
    unfold zz_ent
    rw [List.length_append, List.length_replicate]
    have hlen9 : (zz_en as).length ≤ mL := hlen
    omega
  · obtain ⟨v, hv, he⟩ := zz_as_of hq
    refine hl.2.2 q ?_
    have h1 := zz_en_mem (g := g) as 0 (zz_ent_as hv)
    rw [Nat.zero_add, ← he] at h1
    exact h1
theorem zz_ca_mem {ins : Instr} {r : List Nat} {st : List Value} {cs : zz_W} {mk : zz_Mi} (h : zz_ca ins r st cs = some mk) : mk ∈ zz_mts := by
  unfold zz_ca at h
  repeat' split at h
  all_goals first | (cases h; done) | (cases h; exact List.mem_of_getElem? (by assumption)) | exact List.mem_of_getElem? h
/-- the evaluator's walk is the machine's -/
theorem zz_ev_ok : ∀ (n : Nat) {c0 : zz_W} {mi : zz_Mi} {σ : zz_S} {v : Option Value} {cs' : zz_W} {P : Option Value → zz_W → Prop}, zz_ev n mi σ = some (v, cs') → P v cs' → ∀ (p : Program) (e : Env) (R : Room) (s : State) (m : MethodId) (args : Array Value) (below : List Frame) (meth : Method) (c : Code), zz_X g p R s m meth c mi → meth.sig.returnType = mi.2.2.2.1 → meth.locks = false → σ.2.2.2.2.1 ≤ mi.2.2.2.2.2.2.1.1 ∧ σ.2.2.2.2.2 ≤ mi.2.2.2.2.2.2.1.2.1 → zz_Z g c0 p l e R s m args below meth c (zz_Q1 g c0 below args s mi P) mi.2.2.1 σ.1 σ.2.1 σ.2.2.1 σ.2.2.2.1 σ.2.2.2.2.1 σ.2.2.2.2.2 := by
  intro n
  induction n with
  | zero => intro c0 mi σ v cs' P h; cases h
  | succ n ih =>
    intro c0 mi σ v cs' P h hP p e R s m args below meth c X hr hlk hB
    obtain ⟨pc, L, st, cs, cu, su⟩ := σ
    dsimp only at hB ⊢
    have hRr : R = zz_rm mi.2.2.2.2.2.2.1 := X.2.2.2.2.2.2.2.1
    unfold zz_ev at h
    dsimp only at h
    split at h
    · cases h
    · rename_i en hf
      split at h
      · rename_i σ' h1
        obtain ⟨pc', L', st', cs1, cu', su'⟩ := σ'
        exact zz_step X (by rw [hRr]; exact hB) hf h1 (fun hB' => ih h hP p e R s m args below meth c X hr hlk (by rw [hRr] at hB'; exact hB'))
      · split at h
        · rename_i v1 h1
          cases h
          exact zz_end X hr hlk hP hB hf h1
        · split at h
          · cases h
          · rename_i mk hcl
            split at h
            · cases h
            · rename_i hc
              simp only [zz_cok2, Bool.and_eq_true, decide_eq_true_eq] at hc
              obtain ⟨q1, q2, q3, q4, q5, q6, q7⟩ := hc
              split at h
              · cases h
              · rename_i v1 cs1 h1
                have hmem := zz_ca_mem hcl
                refine zz_call X hf hcl q1 q2 (by rw [hRr]; exact ⟨q3, q4⟩) (by rw [hRr]; exact ⟨q6, q7⟩) (P := fun v' cs' => v' = v1 ∧ cs' = cs1) (zz_Met_of (zz_mok_mem mk hmem) (zz_cdk_mem mk hmem) q5 (fun p e R s m args below meth c X hr hlk => ih h1 ⟨rfl, rfl⟩ p e R s m args below meth c X hr hlk ⟨Nat.zero_le _, Nat.zero_le _⟩)) ?_
                rintro v2 cs2 ⟨rfl, rfl⟩
                exact ih h hP p e R s m args below meth c X hr hlk ⟨q3, q4⟩
/-- a contract out of an evaluation -/
theorem zz_Met_ev (n : Nat) {mi : zz_Mi} {as : List Value} {cs cs' : zz_W} {v : Option Value} {P : Option Value → zz_W → Prop} (hmem : mi ∈ zz_mts) (hlen : (zz_en as).length ≤ mi.2.2.1) (h : zz_ev n mi (0, zz_ent mi.2.2.1 as, [], cs, 0, 0) = some (v, cs')) (hP : P v cs') : zz_Met l g mi as cs P :=
  zz_Met_of (zz_mok_mem mi hmem) (zz_cdk_mem mi hmem) hlen (fun p e R s m args below meth c X hr hlk => zz_ev_ok n h hP p e R s m args below meth c X hr hlk ⟨Nat.zero_le _, Nat.zero_le _⟩)
end ZZ6
/-! evaluations that the kernel decides -/
noncomputable def zz_eqC : Option zz_C → Option zz_C → Bool
  | none, none => true
  | some (.inl xs), some (.inl ys) => decide (xs = ys)
  | some (.inr (.inl (t, rs))), some (.inr (.inl (u, qs))) => decide (t = u) && decide (rs = qs)
  | some (.inr (.inr (c, fs))), some (.inr (.inr (d, gs))) => decide (c = d) && decide (fs = gs)
  | _, _ => false
theorem zz_eqC_ok : ∀ {a b : Option zz_C}, zz_eqC a b = true → a = b
  | none, none, _ => rfl
  | some (.inl xs), some (.inl ys), h => by
    simp only [zz_eqC, decide_eq_true_eq] at h
    rw [h]
  | some (.inr (.inl (t, rs))), some (.inr (.inl (u, qs))), h => by
    simp only [zz_eqC, Bool.and_eq_true, decide_eq_true_eq] at h
    rw [h.1, h.2]
  | some (.inr (.inr (c, fs))), some (.inr (.inr (d, gs))), h => by
    simp only [zz_eqC, Bool.and_eq_true, decide_eq_true_eq] at h
    rw [h.1, h.2]
  | none, some (.inl _), h => by cases h
  | none, some (.inr (.inl _)), h => by cases h
  | none, some (.inr (.inr _)), h => by cases h
  | some (.inl _), none, h => by cases h
  | some (.inr (.inl _)), none, h => by cases h
  | some (.inr (.inr _)), none, h => by cases h
  | some (.inl _), some (.inr (.inl _)), h => by cases h
  | some (.inl _), some (.inr (.inr _)), h => by cases h
  | some (.inr (.inl _)), some (.inl _), h => by cases h
  | some (.inr (.inr _)), some (.inl _), h => by cases h
  | some (.inr (.inl _)), some (.inr (.inr _)), h => by cases h
  | some (.inr (.inr _)), some (.inr (.inl _)), h => by cases h
noncomputable def zz_eqW : zz_W → zz_W → Bool
  | [], [] => true
  | a :: as, b :: bs => zz_eqC a b && zz_eqW as bs
  | _, _ => false
theorem zz_eqW_ok : ∀ {a b : zz_W}, zz_eqW a b = true → a = b
  | [], [], _ => rfl
  | a :: as, b :: bs, h => by
    simp only [zz_eqW, Bool.and_eq_true] at h
    rw [zz_eqC_ok h.1, zz_eqW_ok h.2]
  | [], _ :: _, h => by cases h
  | _ :: _, [], h => by cases h
noncomputable def zz_evc (n : Nat) (mi : zz_Mi) (σ : zz_S) (v : Option Value) (cs : zz_W) : Bool := match zz_ev n mi σ with
  | some (v1, cs1) => decide (v1 = v) && zz_eqW cs1 cs
  | none => false
theorem zz_evc_ok {n : Nat} {mi : zz_Mi} {σ : zz_S} {v : Option Value} {cs : zz_W} (h : zz_evc n mi σ v cs = true) : zz_ev n mi σ = some (v, cs) := by
  unfold zz_evc at h
  split at h
  · rename_i v1 cs1 h1
    simp only [Bool.and_eq_true, decide_eq_true_eq] at h
    rw [h1, h.1, zz_eqW_ok h.2]
  · cases h
end
section
/-! the two objects when they are new -/
noncomputable def zz_evcs (n : Nat) (mi : zz_Mi) (σ : zz_S) (v : Option Value) (cs : zz_W) : Bool := match zz_evs n mi σ with
  | some (v1, cs1) => decide (v1 = v) && zz_eqW cs1 cs
  | none => false
theorem zz_evcs_eq (n : Nat) (mi : zz_Mi) (σ : zz_S) (v : Option Value) (cs : zz_W) : zz_evcs n mi σ v cs = zz_evc n mi σ v cs := by
  unfold zz_evcs zz_evc
  rw [zz_evs_eq]
  all_goals rfl
noncomputable def zx_0 : zz_W := [none, some (.inr (.inr (0, [.null, .null, .null, .int 0, .null, .null, .null, .null, .int 0, .null])))]
noncomputable def zx_1 : zz_W := [none, some (.inr (.inr (0, [.ref 11, .ref 34, .ref 57, .int 0, .ref 80, .ref 266, .ref 268, .ref 2, .int 0, .ref 3]))), some (.inl (List.replicate 12 0)), some (.inl (List.replicate 7 0)), some (.inr (.inl (1, [some 5, some 6, some 7, some 8, some 9, some 10]))), some (.inr (.inr (1, []))), some (.inr (.inr (2, []))), some (.inr (.inr (3, []))), some (.inr (.inr (4, []))), some (.inr (.inr (5, []))), some (.inr (.inr (6, []))), some (.inr (.inr (7, [.ref 4, .int 0, .ref 12, .ref 13, .ref 14, .ref 15, .ref 16, .ref 17, .ref 18, .ref 19, .ref 20, .ref 28, .ref 29, .ref 30, .int 0, .int 0]))), some (.inl (List.replicate 7 0)), some (.inl (List.replicate 7 0)), some (.inl (List.replicate 7 0)), some (.inl (List.replicate 7 0)), some (.inl (List.replicate 7 0)), some (.inl (List.replicate 7 0)), some (.inl (List.replicate 7 0)), some (.inl (List.replicate 7 0)), some (.inr (.inl (2, [some 21, some 22, some 23, some 24, some 25, some 26, some 27]))), some (.inl (List.replicate 5 0)), some (.inl (List.replicate 5 0)), some (.inl (List.replicate 5 0)), some (.inl (List.replicate 5 0)), some (.inl (List.replicate 5 0)), some (.inl (List.replicate 5 0)), some (.inl (List.replicate 5 0)), some (.inl [2, 3, 4, 5, 6]), some (.inl (List.replicate 5 0)), some (.inr (.inl (3, [some 31, some 32, some 33]))), some (.inr (.inr (8, [.int 0, .int 0, .int 0, .int 0, .int 0]))), some (.inr (.inr (8, [.int 0, .int 0, .int 0, .int 0, .int 0]))), some (.inr (.inr (8, [.int 0, .int 0, .int 0, .int 0, .int 0]))), some (.inr (.inr (7, [.ref 4, .int 0, .ref 35, .ref 36, .ref 37, .ref 38, .ref 39, .ref 40, .ref 41, .ref 42, .ref 43, .ref 51, .ref 52, .ref 53, .int 0, .int 0]))), some (.inl (List.replicate 7 0)), some (.inl (List.replicate 7 0)), some (.inl (List.replicate 7 0)), some (.inl (List.replicate 7 0)), some (.inl (List.replicate 7 0)), some (.inl (List.replicate 7 0)), some (.inl (List.replicate 7 0)), some (.inl (List.replicate 7 0)), some (.inr (.inl (2, [some 44, some 45, some 46, some 47, some 48, some 49, some 50]))), some (.inl (List.replicate 5 0)), some (.inl (List.replicate 5 0)), some (.inl (List.replicate 5 0)), some (.inl (List.replicate 5 0)), some (.inl (List.replicate 5 0)), some (.inl (List.replicate 5 0)), some (.inl (List.replicate 5 0)), some (.inl [2, 3, 4, 5, 6]), some (.inl (List.replicate 5 0)), some (.inr (.inl (3, [some 54, some 55, some 56]))), some (.inr (.inr (8, [.int 0, .int 0, .int 0, .int 0, .int 0]))), some (.inr (.inr (8, [.int 0, .int 0, .int 0, .int 0, .int 0]))), some (.inr (.inr (8, [.int 0, .int 0, .int 0, .int 0, .int 0]))), some (.inr (.inr (7, [.ref 4, .int 0, .ref 58, .ref 59, .ref 60, .ref 61, .ref 62, .ref 63, .ref 64, .ref 65, .ref 66, .ref 74, .ref 75, .ref 76, .int 0, .int 0]))), some (.inl (List.replicate 7 0)), some (.inl (List.replicate 7 0)), some (.inl (List.replicate 7 0)), some (.inl (List.replicate 7 0)), some (.inl (List.replicate 7 0)), some (.inl (List.replicate 7 0)), some (.inl (List.replicate 7 0)), some (.inl (List.replicate 7 0)), some (.inr (.inl (2, [some 67, some 68, some 69, some 70, some 71, some 72, some 73]))), some (.inl (List.replicate 5 0)), some (.inl (List.replicate 5 0)), some (.inl (List.replicate 5 0)), some (.inl (List.replicate 5 0)), some (.inl (List.replicate 5 0)), some (.inl (List.replicate 5 0)), some (.inl (List.replicate 5 0)), some (.inl [2, 3, 4, 5, 6]), some (.inl (List.replicate 5 0)), some (.inr (.inl (3, [some 77, some 78, some 79]))), some (.inr (.inr (8, [.int 0, .int 0, .int 0, .int 0, .int 0]))), some (.inr (.inr (8, [.int 0, .int 0, .int 0, .int 0, .int 0]))), some (.inr (.inr (8, [.int 0, .int 0, .int 0, .int 0, .int 0]))), some (.inr (.inr (9, [.ref 81, .int 0, .int 0]))), some (.inr (.inl (4, [some 82, some 105, some 128, some 151, some 174, some 197, some 220, some 243]))), some (.inr (.inr (7, [.ref 4, .int 0, .ref 83, .ref 84, .ref 85, .ref 86, .ref 87, .ref 88, .ref 89, .ref 90, .ref 91, .ref 99, .ref 100, .ref 101, .int 0, .int 0]))), some (.inl (List.replicate 7 0)), some (.inl (List.replicate 7 0)), some (.inl (List.replicate 7 0)), some (.inl (List.replicate 7 0)), some (.inl (List.replicate 7 0)), some (.inl (List.replicate 7 0)), some (.inl (List.replicate 7 0)), some (.inl (List.replicate 7 0)), some (.inr (.inl (2, [some 92, some 93, some 94, some 95, some 96, some 97, some 98]))), some (.inl (List.replicate 5 0)), some (.inl (List.replicate 5 0)), some (.inl (List.replicate 5 0)), some (.inl (List.replicate 5 0)), some (.inl (List.replicate 5 0)), some (.inl (List.replicate 5 0)), some (.inl (List.replicate 5 0)), some (.inl [2, 3, 4, 5, 6]), some (.inl (List.replicate 5 0)), some (.inr (.inl (3, [some 102, some 103, some 104]))), some (.inr (.inr (8, [.int 0, .int 0, .int 0, .int 0, .int 0]))), some (.inr (.inr (8, [.int 0, .int 0, .int 0, .int 0, .int 0]))), some (.inr (.inr (8, [.int 0, .int 0, .int 0, .int 0, .int 0]))), some (.inr (.inr (7, [.ref 4, .int 0, .ref 106, .ref 107, .ref 108, .ref 109, .ref 110, .ref 111, .ref 112, .ref 113, .ref 114, .ref 122, .ref 123, .ref 124, .int 0, .int 0]))), some (.inl (List.replicate 7 0)), some (.inl (List.replicate 7 0)), some (.inl (List.replicate 7 0)), some (.inl (List.replicate 7 0)), some (.inl (List.replicate 7 0)), some (.inl (List.replicate 7 0)), some (.inl (List.replicate 7 0)), some (.inl (List.replicate 7 0)), some (.inr (.inl (2, [some 115, some 116, some 117, some 118, some 119, some 120, some 121]))), some (.inl (List.replicate 5 0)), some (.inl (List.replicate 5 0)), some (.inl (List.replicate 5 0)), some (.inl (List.replicate 5 0)), some (.inl (List.replicate 5 0)), some (.inl (List.replicate 5 0)), some (.inl (List.replicate 5 0)), some (.inl [2, 3, 4, 5, 6]), some (.inl (List.replicate 5 0)), some (.inr (.inl (3, [some 125, some 126, some 127]))), some (.inr (.inr (8, [.int 0, .int 0, .int 0, .int 0, .int 0]))), some (.inr (.inr (8, [.int 0, .int 0, .int 0, .int 0, .int 0]))), some (.inr (.inr (8, [.int 0, .int 0, .int 0, .int 0, .int 0]))), some (.inr (.inr (7, [.ref 4, .int 0, .ref 129, .ref 130, .ref 131, .ref 132, .ref 133, .ref 134, .ref 135, .ref 136, .ref 137, .ref 145, .ref 146, .ref 147, .int 0, .int 0]))), some (.inl (List.replicate 7 0)), some (.inl (List.replicate 7 0)), some (.inl (List.replicate 7 0)), some (.inl (List.replicate 7 0)), some (.inl (List.replicate 7 0)), some (.inl (List.replicate 7 0)), some (.inl (List.replicate 7 0)), some (.inl (List.replicate 7 0)), some (.inr (.inl (2, [some 138, some 139, some 140, some 141, some 142, some 143, some 144]))), some (.inl (List.replicate 5 0)), some (.inl (List.replicate 5 0)), some (.inl (List.replicate 5 0)), some (.inl (List.replicate 5 0)), some (.inl (List.replicate 5 0)), some (.inl (List.replicate 5 0)), some (.inl (List.replicate 5 0)), some (.inl [2, 3, 4, 5, 6]), some (.inl (List.replicate 5 0)), some (.inr (.inl (3, [some 148, some 149, some 150]))), some (.inr (.inr (8, [.int 0, .int 0, .int 0, .int 0, .int 0]))), some (.inr (.inr (8, [.int 0, .int 0, .int 0, .int 0, .int 0]))), some (.inr (.inr (8, [.int 0, .int 0, .int 0, .int 0, .int 0]))), some (.inr (.inr (7, [.ref 4, .int 0, .ref 152, .ref 153, .ref 154, .ref 155, .ref 156, .ref 157, .ref 158, .ref 159, .ref 160, .ref 168, .ref 169, .ref 170, .int 0, .int 0]))), some (.inl (List.replicate 7 0)), some (.inl (List.replicate 7 0)), some (.inl (List.replicate 7 0)), some (.inl (List.replicate 7 0)), some (.inl (List.replicate 7 0)), some (.inl (List.replicate 7 0)), some (.inl (List.replicate 7 0)), some (.inl (List.replicate 7 0)), some (.inr (.inl (2, [some 161, some 162, some 163, some 164, some 165, some 166, some 167]))), some (.inl (List.replicate 5 0)), some (.inl (List.replicate 5 0)), some (.inl (List.replicate 5 0)), some (.inl (List.replicate 5 0)), some (.inl (List.replicate 5 0)), some (.inl (List.replicate 5 0)), some (.inl (List.replicate 5 0)), some (.inl [2, 3, 4, 5, 6]), some (.inl (List.replicate 5 0)), some (.inr (.inl (3, [some 171, some 172, some 173]))), some (.inr (.inr (8, [.int 0, .int 0, .int 0, .int 0, .int 0]))), some (.inr (.inr (8, [.int 0, .int 0, .int 0, .int 0, .int 0]))), some (.inr (.inr (8, [.int 0, .int 0, .int 0, .int 0, .int 0]))), some (.inr (.inr (7, [.ref 4, .int 0, .ref 175, .ref 176, .ref 177, .ref 178, .ref 179, .ref 180, .ref 181, .ref 182, .ref 183, .ref 191, .ref 192, .ref 193, .int 0, .int 0]))), some (.inl (List.replicate 7 0)), some (.inl (List.replicate 7 0)), some (.inl (List.replicate 7 0)), some (.inl (List.replicate 7 0)), some (.inl (List.replicate 7 0)), some (.inl (List.replicate 7 0)), some (.inl (List.replicate 7 0)), some (.inl (List.replicate 7 0)), some (.inr (.inl (2, [some 184, some 185, some 186, some 187, some 188, some 189, some 190]))), some (.inl (List.replicate 5 0)), some (.inl (List.replicate 5 0)), some (.inl (List.replicate 5 0)), some (.inl (List.replicate 5 0)), some (.inl (List.replicate 5 0)), some (.inl (List.replicate 5 0)), some (.inl (List.replicate 5 0)), some (.inl [2, 3, 4, 5, 6]), some (.inl (List.replicate 5 0)), some (.inr (.inl (3, [some 194, some 195, some 196]))), some (.inr (.inr (8, [.int 0, .int 0, .int 0, .int 0, .int 0]))), some (.inr (.inr (8, [.int 0, .int 0, .int 0, .int 0, .int 0]))), some (.inr (.inr (8, [.int 0, .int 0, .int 0, .int 0, .int 0]))), some (.inr (.inr (7, [.ref 4, .int 0, .ref 198, .ref 199, .ref 200, .ref 201, .ref 202, .ref 203, .ref 204, .ref 205, .ref 206, .ref 214, .ref 215, .ref 216, .int 0, .int 0]))), some (.inl (List.replicate 7 0)), some (.inl (List.replicate 7 0)), some (.inl (List.replicate 7 0)), some (.inl (List.replicate 7 0)), some (.inl (List.replicate 7 0)), some (.inl (List.replicate 7 0)), some (.inl (List.replicate 7 0)), some (.inl (List.replicate 7 0)), some (.inr (.inl (2, [some 207, some 208, some 209, some 210, some 211, some 212, some 213]))), some (.inl (List.replicate 5 0)), some (.inl (List.replicate 5 0)), some (.inl (List.replicate 5 0)), some (.inl (List.replicate 5 0)), some (.inl (List.replicate 5 0)), some (.inl (List.replicate 5 0)), some (.inl (List.replicate 5 0)), some (.inl [2, 3, 4, 5, 6]), some (.inl (List.replicate 5 0)), some (.inr (.inl (3, [some 217, some 218, some 219]))), some (.inr (.inr (8, [.int 0, .int 0, .int 0, .int 0, .int 0]))), some (.inr (.inr (8, [.int 0, .int 0, .int 0, .int 0, .int 0]))), some (.inr (.inr (8, [.int 0, .int 0, .int 0, .int 0, .int 0]))), some (.inr (.inr (7, [.ref 4, .int 0, .ref 221, .ref 222, .ref 223, .ref 224, .ref 225, .ref 226, .ref 227, .ref 228, .ref 229, .ref 237, .ref 238, .ref 239, .int 0, .int 0]))), some (.inl (List.replicate 7 0)), some (.inl (List.replicate 7 0)), some (.inl (List.replicate 7 0)), some (.inl (List.replicate 7 0)), some (.inl (List.replicate 7 0)), some (.inl (List.replicate 7 0)), some (.inl (List.replicate 7 0)), some (.inl (List.replicate 7 0)), some (.inr (.inl (2, [some 230, some 231, some 232, some 233, some 234, some 235, some 236]))), some (.inl (List.replicate 5 0)), some (.inl (List.replicate 5 0)), some (.inl (List.replicate 5 0)), some (.inl (List.replicate 5 0)), some (.inl (List.replicate 5 0)), some (.inl (List.replicate 5 0)), some (.inl (List.replicate 5 0)), some (.inl [2, 3, 4, 5, 6]), some (.inl (List.replicate 5 0)), some (.inr (.inl (3, [some 240, some 241, some 242]))), some (.inr (.inr (8, [.int 0, .int 0, .int 0, .int 0, .int 0]))), some (.inr (.inr (8, [.int 0, .int 0, .int 0, .int 0, .int 0]))), some (.inr (.inr (8, [.int 0, .int 0, .int 0, .int 0, .int 0]))), some (.inr (.inr (7, [.ref 4, .int 0, .ref 244, .ref 245, .ref 246, .ref 247, .ref 248, .ref 249, .ref 250, .ref 251, .ref 252, .ref 260, .ref 261, .ref 262, .int 0, .int 0]))), some (.inl (List.replicate 7 0)), some (.inl (List.replicate 7 0)), some (.inl (List.replicate 7 0)), some (.inl (List.replicate 7 0)), some (.inl (List.replicate 7 0)), some (.inl (List.replicate 7 0)), some (.inl (List.replicate 7 0)), some (.inl (List.replicate 7 0)), some (.inr (.inl (2, [some 253, some 254, some 255, some 256, some 257, some 258, some 259]))), some (.inl (List.replicate 5 0)), some (.inl (List.replicate 5 0)), some (.inl (List.replicate 5 0)), some (.inl (List.replicate 5 0)), some (.inl (List.replicate 5 0)), some (.inl (List.replicate 5 0)), some (.inl (List.replicate 5 0)), some (.inl [2, 3, 4, 5, 6]), some (.inl (List.replicate 5 0)), some (.inr (.inl (3, [some 263, some 264, some 265]))), some (.inr (.inr (8, [.int 0, .int 0, .int 0, .int 0, .int 0]))), some (.inr (.inr (8, [.int 0, .int 0, .int 0, .int 0, .int 0]))), some (.inr (.inr (8, [.int 0, .int 0, .int 0, .int 0, .int 0]))), some (.inr (.inr (10, [.ref 267, .int 0]))), some (.inl (List.replicate 96 0)), some (.inr (.inr (11, [.ref 269, .ref 270, .int 0]))), some (.inl (List.replicate 7 0)), some (.inl (List.replicate 128 0))]
set_option maxRecDepth 1000000 in
theorem zx_new : zz_evc 2132 zm_0 (0, zz_ent 2 [.ref 1], [], zx_0, 0, 0) none zx_1 = true := by
  rw [← zz_evcs_eq]
  decide +kernel
noncomputable def zy_0 : zz_W := List.replicate 271 none ++ [some (.inr (.inr (12, [.int 0, .null, .null, .null, .null, .null, .null, .null, .null, .int 0, .null, .null, .null, .null, .null, .int 0, .int 0, .null, .null, .int 0, .int 0, .int 0, .int 0, .null, .null, .null, .null, .null, .int 0, .int 0, .int 0, .null, .null, .null, .int 0, .null, .null, .null, .int 0, .null, .int 0])))]
noncomputable def zy_c : zz_W := [some (.inr (.inr (12, [.int 0, .ref 272, .ref 273, .ref 274, .ref 275, .ref 276, .ref 277, .ref 278, .ref 279, .int 0, .ref 280, .ref 281, .ref 282, .ref 283, .ref 284, .int 0, .int 0, .ref 285, .ref 286, .int 0, .int 0, .int 0, .int 0, .ref 287, .ref 288, .ref 289, .ref 290, .ref 291, .int 0, .int 0, .int 0, .null, .ref 292, .ref 293, .int 0, .ref 294, .ref 295, .ref 296, .int 0, .ref 297, .int 0]))), some (.inl (List.replicate 7 0)), some (.inl (List.replicate 7 0)), some (.inl (List.replicate 7 0)), some (.inl (List.replicate 7 0)), some (.inl (List.replicate 7 0)), some (.inl (List.replicate 35 0)), some (.inl [2, 3, 4, 5, 6]), some (.inl (List.replicate 5 0)), some (.inl (List.replicate 6 0)), some (.inl (List.replicate 6 0)), some (.inl (List.replicate 6 0)), some (.inl (List.replicate 6 0)), some (.inl (List.replicate 6 0)), some (.inl (List.replicate 7 0)), some (.inl (List.replicate 96 0)), some (.inl (List.replicate 49 0)), some (.inl (List.replicate 49 0)), some (.inl (List.replicate 245 0)), some (.inl (List.replicate 113 0)), some (.inl (List.replicate 113 0)), some (.inl (List.replicate 904 0)), some (.inl (List.replicate 113 0)), some (.inl (List.replicate 1024 0)), some (.inl (List.replicate 7 0)), some (.inl (List.replicate 12 0)), some (.inl (List.replicate 8 0))]
noncomputable def zy_1 : zz_W := List.replicate 271 none ++ zy_c
set_option maxRecDepth 1000000 in
theorem zy_new : zz_evc 180 zm_149 (0, zz_ent 2 [.ref 271], [], zy_0, 0, 0) none zy_1 = true := by
  rw [← zz_evcs_eq]
  decide +kernel
end
section
/-! walks with conditions: both ways of a branch, the end under a predicate; what isn't known isn't touched -/
/-! what isn't known isn't touched -/
noncomputable def zz_le (a b : zz_W) : Prop := a.length = b.length ∧ ∀ (i : Nat) (c : zz_C), a[i]? = some (some c) → b[i]? = some (some c)
noncomputable def zz_F (a b a' b' : zz_W) : Prop := zz_le a' b' ∧ ∀ i : Nat, a[i]? = some none → a'[i]? = some none ∧ b'[i]? = b[i]?
theorem zz_le.cell {a b : zz_W} (h : zz_le a b) {i : Nat} {c : zz_C} (hc : zz_cell a i = some c) : zz_cell b i = some c := by
  have h1 := h.2 i c (zz_cell_eq hc)
  unfold zz_cell
  rw [h1]
theorem zz_F.rf {a b : zz_W} (h : zz_le a b) : zz_F a b a b := ⟨h, fun _ hi => ⟨hi, rfl⟩⟩
theorem zz_F.tr {a b a' b' a2 b2 : zz_W} (h : zz_F a b a' b') (h2 : zz_F a' b' a2 b2) : zz_F a b a2 b2 := ⟨h2.1, fun i hi => by
  obtain ⟨p1, p2⟩ := h.2 i hi
  obtain ⟨p3, p4⟩ := h2.2 i p1
  exact ⟨p3, p4.trans p2⟩⟩
theorem zz_F.set {a b : zz_W} (h : zz_le a b) {i : Nat} {c0 c : zz_C} (hc : zz_cell a i = some c0) : zz_F a b (a.set i (some c)) (b.set i (some c)) := by
  have h0 := zz_cell_eq hc
  have hl : i < a.length := (List.getElem?_eq_some_iff.mp h0).1
  refine ⟨⟨by rw [List.length_set, List.length_set]; exact h.1, fun j d hj => ?_⟩, fun j hj => ?_⟩
  · by_cases hij : i = j
    · subst hij
      rw [List.getElem?_set_self hl] at hj
      rw [List.getElem?_set_self (by rw [← h.1]; exact hl)]
      exact hj
    · rw [List.getElem?_set_ne hij] at hj ⊢
      exact h.2 j d hj
  · have hij : i ≠ j := fun e => by
      subst e
      rw [h0] at hj
      cases hj
    rw [List.getElem?_set_ne hij, List.getElem?_set_ne hij]
    exact ⟨hj, rfl⟩
theorem zz_F.app {a b add : zz_W} (h : zz_le a b) : zz_F a b (a ++ add) (b ++ add) := by
  refine ⟨⟨by rw [List.length_append, List.length_append, h.1], fun j d hj => ?_⟩, fun j hj => ?_⟩
  · by_cases hl : j < a.length
    · rw [List.getElem?_append_left hl] at hj
      rw [List.getElem?_append_left (by rw [← h.1]; exact hl)]
      exact h.2 j d hj
    · rw [List.getElem?_append_right (by omega)] at hj
      rw [List.getElem?_append_right (by rw [← h.1]; omega), ← h.1]
      exact hj
  · have hl : j < a.length := (List.getElem?_eq_some_iff.mp hj).1
    rw [List.getElem?_append_left hl, List.getElem?_append_left (by rw [← h.1]; exact hl)]
    exact ⟨hj, rfl⟩
end
section
/-! THE CLAIM OUT OF ONE WALK OF THE LAW'S BODY. Your part is whole_start (and what it stands on); all else here is the same for every law, but numbers. -/
noncomputable def R_law : String := "LostBetsLaw"
noncomputable def lw_P (b : Addr) (xs : List Int32) (args : Array Value) (s : State) : Prop := args = #[.ref b] ∧ s.IntsAt b xs ∧ xs.length ≤ 3072 ∧ (Jvm.Cond.and given_1 narrow_1).before args s = true
noncomputable def lw_Q (_ : Array Value) (s : State) (o : Outcome) (t : State) : Prop := o = .returned (some (.int 1)) ∧ Framed s o t [] 600000 7302250
noncomputable def lw_Z (below : List Frame) (a : Array Value) (s : State) : State → Prop := fun t => ∃ o, t.status = .running ∧ Ended t below o ∧ lw_Q a s o t
/-- the law's own end, with 1 on the stack, nothing written that was there before, its room as the claim has it -/
theorem lw_ret {p : Program} {l : Launch} {e : Env} {s : State} {m : MethodId} {below : List Frame} {meth : Method} {c : Code} {b : Nat} (hx : p.tables.exec = Jvm.exec) (hb : c.code = code) (hr : meth.sig.returnType = ret) (hlocks : meth.locks = false) {pc : Nat} {H : Heap} {ls : Array Slot} (hdg : decode code pc = .ok (.ireturn, 1)) : W p l e room_1 s m #[Value.ref b] below meth c H [] 600000 7302250 (lw_Z below #[Value.ref b] s) (F0 m pc ls [.int 1]) := by
  intro T hT X
  obtain ⟨fs, hret, hrun, hended, hW, hframe⟩ := X.leave (v := some (.int 1)) (hlocks := hlocks) (fun h => by rw [hr] at h; cases h)
  have hmeth' : T.vm.method? m = some meth := X.method'
  refine ⟨T.setFrames fs, ?_, .returned (some (.int 1)), hrun, hended, rfl, ⟨_, rfl⟩, hW, hframe⟩
  jvm_step X.here [X.here.top, hx, hb, hdg, hmeth', hr, ret, narrow_b1]
  (try refine ⟨rfl, ?_⟩); (try refine ⟨rfl, ?_⟩)
  first | (intro acts; rw [hret _ acts rfl rfl rfl]) | rw [hret _ _ rfl rfl rfl]
  exact Steps.refl _
/-- what holds at the law's entry: the machine, the code, the tables' words (any of lw_tbl by 'hts w (by decide +kernel)'), the script of L ints xs at the cell b, what the Statement gives of the start (any of its parts by flat_of_before) -/
noncomputable def lw_At (p : Program) (s : State) (m : MethodId) (meth : Method) (c : Code) (b L : Nat) (xs : Nat → Int32) : Prop :=
  p.tables.exec = Jvm.exec ∧ c.code = code ∧ meth.sig.returnType = ret ∧ c.maxLocals = 4 ∧ s.vm.findClass R_law = some m.cls ∧ (∀ w ∈ lw_tbl, w.before #[Value.ref b] s = true) ∧ va_X b L xs s s.heap ∧ b < s.heap.size ∧ meth.locks = false ∧ (Jvm.Cond.and given_1 narrow_1).before #[Value.ref b] s = true
end
section
/-! the law's start, its script, its end -/
theorem zz_any {w : Jvm.Cond} (hg : zz_good w = true) {A : Array Value} {s : State} (h : w.before A s = true) (a : Array Value) : w.before a s = true := by
  cases w with
  | arrayClass ty => exact word_at (State.WarmedH.refl s) (Or.inr ⟨_, rfl⟩) h
  | fieldLinkNest x i b n d y => exact va_tabs rfl rfl h
  | methodLinkNest x i b y => exact va_tabs rfl rfl h
  | castable x y => exact va_tabs rfl rfl h
  | arrayOver t => exact h
  | _ => exact word_at (State.WarmedH.refl s) (Or.inl hg) h
noncomputable def zz_cin (q : vw_C) : Bool := decide (Jvm.Cond.instantiable q.1 q.2.2 ∈ lw_tbl) && zz_good (Jvm.Cond.instantiable q.1 q.2.2)
theorem zz_cin_l : classes.all zz_cin = true := by decide +kernel
theorem zz_arrO {C : String} {s : State} (h : (Jvm.Cond.arrayOver (.object C)).before #[] s = true) : ∃ cA : ClassId, ArrOfT s cA (.object C) ∧ va_RA s cA (.object C) := by
  obtain ⟨comp, c, k, h1, h2, h3, h4, h5⟩ := Cond.arrayOver_spec h
  exact ⟨c, fun n z => ⟨fun k h => (by cases h), k, h3, comp, h4⟩, k, comp, h3, h4, h1, h5⟩
theorem zz_arrA {t : FieldType} {s : State} (h : (Jvm.Cond.arrayOver (.array t)).before #[] s = true) : ∃ cA : ClassId, ArrOfT s cA (.array t) ∧ va_RA s cA (.array t) := by
  obtain ⟨comp, c, k, h1, h2, h3, h4, h5⟩ := arrayOverA_spec h
  exact ⟨c, fun n z => ⟨fun k h => (by cases h), k, h3, comp, h4⟩, h5⟩
theorem zz_arrI {s : State} (h : (Jvm.Cond.arrayClass .int).before #[] s = true) : ∃ cA : ClassId, ArrOfT s cA .int ∧ va_RA s cA .int := by
  obtain ⟨c, k, comp, h1, h2, h3⟩ := Cond.arrayClass_spec h
  exact ⟨c, fun n z => ⟨fun k h => (by cases h), k, h2, comp, h3⟩, h1⟩
noncomputable def zz_tyk (t : Nat) : Bool := match zz_ty[t]? with
  | some .int => decide (Jvm.Cond.arrayClass .int ∈ lw_tbl)
  | some (.object C) => decide (Jvm.Cond.arrayOver (.object C) ∈ lw_tbl)
  | some (.array C) => decide (Jvm.Cond.arrayOver (.array C) ∈ lw_tbl)
  | some _ => false
  | none => true
theorem zz_tyk_l : (List.range 5).all zz_tyk = true := by decide +kernel
theorem zz_tyk_all (t : Nat) : zz_tyk t = true := by
  by_cases h : t < 5
  · exact List.all_eq_true.mp zz_tyk_l t (List.mem_range.mpr h)
  · unfold zz_tyk
    rw [List.getElem?_eq_none (by show 5 ≤ t; omega)]
theorem zz_known {s : State} (hT : zz_ok s) (b scr : Nat) : ∃ (aC dC : Nat → ClassId) (dI : Nat → Nat → Nat), zz_K (b, scr, aC, dC, dI) s := by
  have h1 : ∀ c : Nat, ∃ (cC : ClassId) (iS : Nat → Nat), ∀ q, classes[c]? = some q → u_Kn s q.1 q.2.1 q.2.2 cC iS := by
    intro c
    cases hq : classes[c]? with
    | none => exact ⟨0, fun _ => 0, fun q h => by cases h⟩
    | some q =>
      have h0 := List.all_eq_true.mp zz_cin_l q (List.mem_of_getElem? hq)
      simp only [zz_cin, Bool.and_eq_true, decide_eq_true_eq] at h0
      obtain ⟨cC, iS, hK⟩ := u_known (args := #[]) (zz_cts (zz_cok_all c q hq) hT #[]) (fun _ h => h) (hT _ h0.1 h0.2 #[])
      exact ⟨cC, iS, fun q' h => by cases h; exact hK⟩
  have h2 : ∀ t : Nat, ∃ cA : ClassId, ∀ ty, zz_ty[t]? = some ty → ArrOfT s cA ty ∧ va_RA s cA ty := by
    intro t
    have h0 := zz_tyk_all t
    unfold zz_tyk at h0
    split at h0
    · rename_i hq
      obtain ⟨cA, h3⟩ := zz_arrI (hT _ (of_decide_eq_true h0) rfl #[])
      exact ⟨cA, fun ty h => by cases hq.symm.trans h; exact h3⟩
    · rename_i C hq
      obtain ⟨cA, h3⟩ := zz_arrO (hT _ (of_decide_eq_true h0) rfl #[])
      exact ⟨cA, fun ty h => by cases hq.symm.trans h; exact h3⟩
    · rename_i C hq
      obtain ⟨cA, h3⟩ := zz_arrA (hT _ (of_decide_eq_true h0) rfl #[])
      exact ⟨cA, fun ty h => by cases hq.symm.trans h; exact h3⟩
    · cases h0
    · rename_i hq
      exact ⟨0, fun ty h => by rw [hq] at h; cases h⟩
  exact ⟨fun t => (h2 t).choose, fun c => (h1 c).choose, fun c => (h1 c).choose_spec.choose, fun c q hq => (h1 c).choose_spec.choose_spec q hq, fun t ty ht => (h2 t).choose_spec ty ht⟩
theorem zz_law0 {p : Program} {s : State} {m : MethodId} {meth : Method} {c : Code} {b L : Nat} {xs : Nat → Int32} (C0 : lw_At p s m meth c b L xs) : ∃ g : zz_G, zz_X g p room_1 s m meth c zz_law ∧ g.2.1 = b ∧ s.heap.size = g.1 + 1 ∧ b ≤ g.1 := by
  obtain ⟨hx, hb, hr, hml, hown, hts, hX, hbl, hlocks, hgv⟩ := id C0
  have hT : zz_ok s := fun w hw hg a => zz_any hg (hts w hw) a
  obtain ⟨aC, dC, dI, hK⟩ := zz_known hT (s.heap.size - 1) b
  exact ⟨(s.heap.size - 1, b, aC, dC, dI), ⟨hx, hb, hml, hown, hT, hK, fun h => absurd h (by decide), rfl, zd_law⟩, rfl, by show s.heap.size = s.heap.size - 1 + 1; omega, by show b ≤ s.heap.size - 1; omega⟩
section ZZ8
variable {g : zz_G} {p : Program} {l : Launch} {e : Env} {s : State} {m : MethodId} {below : List Frame} {meth : Method} {c : Code} {b L0 : Nat} {xs : Nat → Int32} {pc cu su : Nat} {L : List (Option Value)} {st : List Value} {cs : zz_W}
noncomputable abbrev zz_LZ (g : zz_G) (p : Program) (l : Launch) (e : Env) (s : State) (m : MethodId) (below : List Frame) (meth : Method) (c : Code) (b pc : Nat) (L : List (Option Value)) (st : List Value) (cs : zz_W) (cu su : Nat) : Prop := zz_Z g [none] p l e room_1 s m #[Value.ref b] below meth c (lw_Z below #[Value.ref b] s) 4 pc L st cs cu su
theorem zz_slen (X : zz_X g p room_1 s m meth c zz_law) (hX : va_X b L0 xs s s.heap) (hg : g.2.1 = b ∧ b ≤ g.1) (hd : decode code pc = .ok (.arraylength, 1)) (kk : zz_LZ g p l e s m below meth c b (pc + 1) L (.int (Int32.ofNat L0) :: st) cs cu su) : zz_LZ g p l e s m below meth c b pc L (.ref 0 :: st) cs cu su := by
  intro hnL H locs ls hR hl
  obtain ⟨hx, hb, -⟩ := X
  obtain ⟨scr, h1, h2, h3, h4, h5⟩ := hX
  have e0 : zz_tr g (.ref 0) = .ref b := by show Value.ref (zz_ad g 0) = _; unfold zz_ad; rw [if_pos rfl, hg.1]
  rw [List.map_cons, e0]
  exact W.alen (n := Int32.ofNat L0) hx hb (by rw [hR.2.2.1 b hg.2]; exact h1) h2 (by rw [h4] <;> rfl) rfl rfl hd (kk hnL H locs ls hR hl)
theorem zz_sld (X : zz_X g p room_1 s m meth c zz_law) (hX : va_X b L0 xs s s.heap) (hg : g.2.1 = b ∧ b ≤ g.1) {j : Int32} {v : Int32} (hj : vp_in j L0) (hv : xs j.toNatClampNeg = v) (hd : decode code pc = .ok (.iaload, 1)) (kk : zz_LZ g p l e s m below meth c b (pc + 1) L (.int v :: st) cs cu su) : zz_LZ g p l e s m below meth c b pc L (.int j :: .ref 0 :: st) cs cu su := by
  intro hnL H locs ls hR hl
  obtain ⟨hx, hb, -⟩ := X
  obtain ⟨scr, h1, h2, h3, h4, h5⟩ := hX
  subst hv
  have e0 : zz_tr g (.ref 0) = .ref b := by show Value.ref (zz_ad g 0) = _; unfold zz_ad; rw [if_pos rfl, hg.1]
  have hlt : j.toNatClampNeg < L0 := Nat.not_le.mp fun q => hj (Or.inr q)
  rw [List.map_cons, List.map_cons, e0]
  exact W.iald (v := .int (xs j.toNatClampNeg)) hx hb (by rw [hR.2.2.1 b hg.2]; exact h1) h2 h3 (by rw [h4]; exact hj) (h5 _ hlt) rfl rfl hd (kk hnL H locs ls hR hl)
theorem zz_lend (X : zz_X g p room_1 s m meth c zz_law) (hr : meth.sig.returnType = ret) (hlk : meth.locks = false) (hg : s.heap.size = g.1 + 1) (hB : cu ≤ 600000 ∧ su ≤ 7302250) (hd : decode code pc = .ok (.ireturn, 1)) : zz_LZ g p l e s m below meth c b pc L [.int 1] cs cu su := by
  intro hnL H locs ls hR hl
  obtain ⟨hx, hb, -⟩ := X
  refine va_forget (fun q hq => by have := hR.2.2.2.1 q hq; omega) (W.widen hB.1 hB.2 (lw_ret hx hb hr hlk hd))
noncomputable def zz_rn : Nat → zz_Mi → Nat → (List (Option Value) × List Value × zz_W × Nat × Nat) → Option zz_S
  | 0, _, pc, σ => some (pc, σ)
  | n + 1, mi, pc, σ => match zz_fetch mi.2.2.2.2.2.2.2.2 pc with
    | some e => match zz_one mi.2.2.2.2.2.2.1 e (pc, σ) with
      | some (pc', σ') => zz_rn n mi pc' σ'
      | none => none
    | none => none
theorem zz_runs {c0 : zz_W} {R : Room} {args : Array Value} {Q : State → Prop} {mi : zz_Mi} (X : zz_X g p R s m meth c mi) : ∀ (n : Nat) {pc pc' cu su cu' su' : Nat} {L L' : List (Option Value)} {st st' : List Value} {cs cs' : zz_W}, cu ≤ R.cells ∧ su ≤ R.slots → zz_rn n mi pc (L, st, cs, cu, su) = some (pc', L', st', cs', cu', su') → (cu' ≤ R.cells ∧ su' ≤ R.slots → zz_Z g c0 p l e R s m args below meth c Q mi.2.2.1 pc' L' st' cs' cu' su') → zz_Z g c0 p l e R s m args below meth c Q mi.2.2.1 pc L st cs cu su := by
  intro n
  induction n with
  | zero => intro pc pc' cu su cu' su' L L' st st' cs cs' hB h kk; cases h; exact kk hB
  | succ n ih =>
    intro pc pc' cu su cu' su' L L' st st' cs cs' hB h kk
    unfold zz_rn at h
    split at h
    · rename_i en hf
      split at h
      · rename_i pc1 σ' h1
        obtain ⟨L1, st1, cs1, cu1, su1⟩ := σ'
        exact zz_step X hB hf h1 (fun hB1 => ih hB1 h kk)
      · cases h
    · cases h
end ZZ8
end
section
/-! contracts for whole walks: loops and calls are stops -/
noncomputable def zz_Gm (mi : zz_Mi) (as : List Value) (cs : zz_W) (K : Option Value → zz_W → Prop) : Prop := ∀ (l : Launch) (g : zz_G), zz_Met l g mi as cs K
theorem zz_Gm.mono {mi : zz_Mi} {as : List Value} {cs : zz_W} {K K' : Option Value → zz_W → Prop} (h : zz_Gm mi as cs K) (hK : ∀ v cs', K v cs' → K' v cs') : zz_Gm mi as cs K' := fun l g => by
  have h0 := h l g
  unfold zz_Met Met at h0 ⊢
  exact MetFree.mono h0 (fun _ _ x => x) (fun _ _ _ _ _ x => x) (fun a s o t _ hq => ⟨by
    obtain ⟨⟨v, cs', h1, h2, h3⟩, -⟩ := hq
    exact ⟨v, cs', h1, hK v cs' h2, h3⟩, hq.2⟩)
noncomputable def zz_ov : zz_W → zz_W → zz_W → zz_W
  | none :: as, x :: bs, _ :: ys => x :: zz_ov as bs ys
  | some _ :: as, _ :: bs, y :: ys => y :: zz_ov as bs ys
  | _, _, ys => ys
theorem zz_ov_len : ∀ (a b y : zz_W), (zz_ov a b y).length = y.length
  | none :: as, x :: bs, _ :: ys => by simp [zz_ov, zz_ov_len as bs ys]
  | some _ :: as, _ :: bs, y :: ys => by simp [zz_ov, zz_ov_len as bs ys]
  | [], _, _ => by simp [zz_ov]
  | none :: _, [], _ => by simp [zz_ov]
  | some _ :: _, [], _ => by simp [zz_ov]
  | none :: _, _ :: _, [] => by simp [zz_ov]
  | some _ :: _, _ :: _, [] => by simp [zz_ov]
theorem zz_ov_un : ∀ {a b y : zz_W} {i : Nat}, a.length = b.length → a.length ≤ y.length → a[i]? = some none → (zz_ov a b y)[i]? = b[i]?
  | none :: as, x :: bs, _ :: ys, 0, _, _, _ => by simp [zz_ov]
  | none :: as, x :: bs, _ :: ys, i + 1, h1, h2, h3 => by
    simp only [zz_ov, List.getElem?_cons_succ] at h3 ⊢
    exact zz_ov_un (by simpa using h1) (by simpa using h2) h3
  | some _ :: as, _ :: bs, y :: ys, 0, _, _, h3 => by simp at h3
  | some _ :: as, _ :: bs, y :: ys, i + 1, h1, h2, h3 => by
    simp only [zz_ov, List.getElem?_cons_succ] at h3 ⊢
    exact zz_ov_un (by simpa using h1) (by simpa using h2) h3
  | [], _, _, _, _, _, h3 => by simp at h3
  | _ :: _, [], _, _, h1, _, _ => by simp at h1
  | _ :: _, _ :: _, [], _, _, h2, _ => by simp at h2
theorem zz_ov_kn : ∀ {a b y : zz_W} {i : Nat}, a[i]? ≠ some none → (zz_ov a b y)[i]? = y[i]?
  | none :: as, x :: bs, _ :: ys, 0, h => by simp at h
  | none :: as, x :: bs, _ :: ys, i + 1, h => by
    simp only [zz_ov, List.getElem?_cons_succ] at h ⊢
    exact zz_ov_kn h
  | some _ :: as, _ :: bs, y :: ys, 0, h => by simp [zz_ov]
  | some _ :: as, _ :: bs, y :: ys, i + 1, h => by
    simp only [zz_ov, List.getElem?_cons_succ] at h ⊢
    exact zz_ov_kn h
  | [], _, _, _, _ => by simp [zz_ov]
  | none :: _, [], _, _, _ => by simp [zz_ov]
  | some _ :: _, [], _, _, _ => by simp [zz_ov]
  | none :: _, _ :: _, [], _, _ => by simp [zz_ov]
  | some _ :: _, _ :: _, [], _, _ => by simp [zz_ov]
/-- a contract over some of the cells is one over all: the frame -/
theorem zz_Gm.le {mi : zz_Mi} {as : List Value} {a b : zz_W} {K : Option Value → zz_W → Prop} (h : zz_Gm mi as a K) (hle : zz_le a b) : zz_Gm mi as b (fun v b' => ∃ a', K v a' ∧ zz_F a b a' b') := fun l g => by
  have h0 := h l g
  unfold zz_Met Met at h0 ⊢
  exact MetFree.mono h0 (fun _ U hp => ⟨hp.1, ⟨by rw [hp.2.1.1, hle.1], fun i c hi => hp.2.1.2 i c (hle.2 i c hi)⟩, hp.2.2⟩) (fun _ _ _ _ _ x => x) (fun ar s o t hp hq => ⟨by
    obtain ⟨⟨v, a', h1, h2, h3, h4, h5, h6⟩, -⟩ := hq
    obtain ⟨-, hPb, -, -⟩ := hp
    have hlen : a.length ≤ a'.length := by
      have z1 := hPb.1
      have z2 := h3.1
      rw [← hle.1] at z1
      omega
    refine ⟨v, zz_ov a b a', h1, ⟨a', h2, ⟨(zz_ov_len a b a').symm, fun i c hi => ?_⟩, fun i hi => ⟨(h6 i hi).1, zz_ov_un hle.1 hlen hi⟩⟩, ⟨by rw [zz_ov_len]; exact h3.1, fun i c hi => ?_⟩, h4, h5, fun i hi => ?_⟩
    · rw [zz_ov_kn (fun hn => by rw [(h6 i hn).1] at hi; cases hi)]
      exact hi
    · by_cases hn : a[i]? = some none
      · rw [zz_ov_un hle.1 hlen hn] at hi
        obtain ⟨p1, p2⟩ := hPb.2 i c hi
        exact ⟨p1, p2.kept (by rw [zz_ad_pos g p1]; exact (h6 i hn).2)⟩
      · rw [zz_ov_kn hn] at hi
        exact h3.2 i c hi
    · have hn : a[i]? = some none := by
        have hl : i < a.length := by rw [hle.1]; exact (List.getElem?_eq_some_iff.mp hi).1
        cases ha : a[i]? with
        | none => rw [List.getElem?_eq_getElem hl] at ha; cases ha
        | some x => cases x with
          | none => rfl
          | some c => rw [hle.2 i c ha] at hi; cases hi
      exact ⟨by rw [zz_ov_un hle.1 hlen hn]; exact hi, (h6 i hn).2⟩, hq.2⟩)
/-- a decided walk as a contract -/
theorem zz_Gm_ev (n : Nat) {mi : zz_Mi} {as : List Value} {cs cs' : zz_W} {v : Option Value} (hmem : mi ∈ zz_mts) (hlen : (zz_en as).length ≤ mi.2.2.1) (h : zz_evc n mi (0, zz_ent mi.2.2.1 as, [], cs, 0, 0) v cs' = true) : zz_Gm mi as cs (fun w x => w = v ∧ x = cs') := fun _ _ => zz_Met_ev n hmem hlen (zz_evc_ok h) ⟨rfl, rfl⟩
end
