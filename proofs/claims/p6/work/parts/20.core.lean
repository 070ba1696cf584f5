/-! THE PURE MACHINE: the system's cells as a list, by their numbers; one step of a frame as a function; a walk of the real machine follows it -/
-- the address before the first cell; the script's address; the classes of the arrays; the classes of the objects and their slots
abbrev zz_G : Type := Nat × Nat × (Nat → ClassId) × va_G
def zz_ad (g : zz_G) (i : Nat) : Nat := if i = 0 then g.2.1 else g.1 + i
def zz_tr (g : zz_G) : Value → Value
  | .ref i => .ref (zz_ad g i)
  | v => v
def zz_at (g : zz_G) (i : Nat) (c : zz_C) (H : Heap) : Prop := match c with
  | .inl xs => H[zz_ad g i]? = some (arrV (g.2.2.1 0) xs.length (fun j => .int (xs.getD j 0)))
  | .inr (.inl (t, rs)) => H[zz_ad g i]? = some (arrV (g.2.2.1 t) rs.length (fun j => zz_tr g (va_rf (rs.getD j none))))
  | .inr (.inr (ci, fs)) => ∃ r : vw_C, classes[ci]? = some r ∧ t_OB (zz_ad g i) (g.2.2.2.1 ci) r.2.2 (g.2.2.2.2 ci) H (vp_V (fs.map (zz_tr g)))
def zz_K (g : zz_G) (U : State) : Prop := (∀ (c : Nat) (q : vw_C), classes[c]? = some q → u_Kn U q.1 q.2.1 q.2.2 (g.2.2.2.1 c) (g.2.2.2.2 c)) ∧ ∀ (t : Nat) (ty : FieldType), zz_ty[t]? = some ty → ArrOfT U (g.2.2.1 t) ty ∧ va_RA U (g.2.2.1 t) ty
def zz_P (g : zz_G) (cs : zz_W) (H : Heap) : Prop := H.size = g.1 + cs.length ∧ ∀ (i : Nat) (c : zz_C), cs[i]? = some (some c) → 0 < i ∧ zz_at g i c H
-- c0: the cells as they were at the method's start: what isn't spoken of there isn't touched
def zz_R (g : zz_G) (s : State) (c0 cs : zz_W) (H : Heap) (locs : List Loc) : Prop := zz_P g cs H ∧ s.heap.size ≤ H.size ∧ (∀ q : Nat, q ≤ g.1 → H[q]? = s.heap[q]?) ∧ (∀ q ∈ locs, g.1 < q.base) ∧ ∀ i : Nat, c0[i]? = some none → cs[i]? = some none ∧ H[g.1 + i]? = s.heap[g.1 + i]?
def zz_as (g : zz_G) (L : List (Option Value)) : List (Nat × Value) := (List.range L.length).filterMap (fun i => match L[i]? with | some (some v) => some (i, zz_tr g v) | _ => none)
theorem zz_as_mem {g : zz_G} {L : List (Option Value)} {i : Nat} {v : Value} (h : L[i]? = some (some v)) : (i, zz_tr g v) ∈ zz_as g L := by
  have hl : i < L.length := (List.getElem?_eq_some_iff.mp h).1
  exact List.mem_filterMap.mpr ⟨i, List.mem_range.mpr hl, by simp only [h]⟩
theorem zz_as_of {g : zz_G} {L : List (Option Value)} {q : Nat × Value} (h : q ∈ zz_as g L) : ∃ v, L[q.1]? = some (some v) ∧ q.2 = zz_tr g v := by
  obtain ⟨i, -, hi⟩ := List.mem_filterMap.mp h
  split at hi
  · rename_i v hv
    cases hi
    exact ⟨v, hv, rfl⟩
  · cases hi
theorem zz_tr_cat (g : zz_G) (v : Value) : (zz_tr g v).category = v.category := by cases v <;> rfl
theorem zz_lv {g : zz_G} {ls : Array Slot} {nL i : Nat} {L : List (Option Value)} {v : Value} (h : lv_has ls nL (zz_as g L)) (hv : L[i]? = some (some v)) : ls[i]? = some (.val (zz_tr g v)) := h.2.2 _ (zz_as_mem hv)
theorem zz_ld_eq {L : List (Option Value)} {i : Nat} {v : Value} (h : zz_ld L i = some v) : L[i]? = some (some v) := by
  unfold zz_ld at h
  split at h
  · rename_i w hw
    cases h
    exact hw
  · cases h
theorem zz_cl_keep {L : List (Option Value)} {i j : Nat} {w : Value} (h : (zz_cl L i)[j]? = some (some w)) : L[j]? = some (some w) ∧ ¬ (j + 1 = i ∧ w.category = 2) := by
  unfold zz_cl at h
  split at h
  · exact ⟨h, fun q => by omega⟩
  · rename_i i k
    split at h
    · rename_i u hu
      split at h
      · rename_i hc
        by_cases hjk : j = k
        · subst hjk
          have hl : j < L.length := (List.getElem?_eq_some_iff.mp (zz_ld_eq hu)).1
          rw [List.getElem?_set_self hl] at h
          cases h
        · rw [List.getElem?_set_ne (Ne.symm hjk)] at h
          exact ⟨h, fun q => hjk (by omega)⟩
      · rename_i hc
        refine ⟨h, fun q => ?_⟩
        have hjk : j = k := by omega
        subst hjk
        have := (zz_ld_eq hu).symm.trans h
        cases this
        exact hc q.2
    · rename_i hn
      refine ⟨h, fun q => ?_⟩
      have hjk : j = k := by omega
      subst hjk
      have : zz_ld L j = some w := by unfold zz_ld; rw [h]
      rw [this] at hn
      cases hn
theorem zz_cl_len (L : List (Option Value)) (i : Nat) : (zz_cl L i).length = L.length := by
  unfold zz_cl
  split
  · rfl
  · split
    · split
      · simp
      · rfl
    · rfl
theorem zz_sv1 {g : zz_G} {ls' : Array Slot} {nL i : Nat} {L : List (Option Value)} {v : Value} (hc : v.category = 1) (h : lv_has ls' nL ((i, zz_tr g v) :: (zz_as g L).filter (fun q => !(q.1 == i) && !(q.1 + 1 == i && q.2.category == 2)))) : lv_has ls' nL (zz_as g (zz_sv L i v)) := by
  refine ⟨h.1, h.2.1, fun q hq => ?_⟩
  obtain ⟨w, hw, he⟩ := zz_as_of hq
  refine h.2.2 q ?_
  unfold zz_sv at hw
  rw [if_neg (by omega)] at hw
  by_cases hqi : q.1 = i
  · have hl : i < (zz_cl L i).length := by
      have := (List.getElem?_eq_some_iff.mp hw).1
      rw [List.length_set] at this
      omega
    rw [hqi, List.getElem?_set_self hl] at hw
    cases hw
    have : q = (i, zz_tr g v) := by rw [← hqi, ← he]
    rw [this]
    exact List.mem_cons_self
  · rw [List.getElem?_set_ne (Ne.symm hqi)] at hw
    obtain ⟨h1, h2⟩ := zz_cl_keep hw
    refine List.mem_cons_of_mem _ (List.mem_filter.mpr ⟨?_, ?_⟩)
    · have := zz_as_mem (g := g) h1
      rw [← he] at this
      exact this
    · rw [he, zz_tr_cat]
      simp only [Bool.and_eq_true, Bool.not_eq_true', beq_eq_false_iff_ne, ne_eq, Bool.and_eq_false_imp, beq_iff_eq]
      exact ⟨hqi, fun a b => h2 ⟨a, b⟩⟩
theorem zz_sv2 {g : zz_G} {ls' : Array Slot} {nL i : Nat} {L : List (Option Value)} {v : Value} (hc : v.category = 2) (h : lv_has ls' nL ((i, zz_tr g v) :: (zz_as g L).filter (fun q => !(q.1 == i) && (!(q.1 == i + 1) && !(q.1 + 1 == i && q.2.category == 2))))) : lv_has ls' nL (zz_as g (zz_sv L i v)) := by
  refine ⟨h.1, h.2.1, fun q hq => ?_⟩
  obtain ⟨w, hw, he⟩ := zz_as_of hq
  refine h.2.2 q ?_
  unfold zz_sv at hw
  rw [if_pos hc] at hw
  by_cases hq1 : q.1 = i + 1
  · have hl : i + 1 < ((zz_cl L i).set i (some v)).length := by
      have := (List.getElem?_eq_some_iff.mp hw).1
      rw [List.length_set] at this
      omega
    rw [hq1, List.getElem?_set_self hl] at hw
    cases hw
  rw [List.getElem?_set_ne (Ne.symm hq1)] at hw
  by_cases hqi : q.1 = i
  · have hl : i < (zz_cl L i).length := by
      have := (List.getElem?_eq_some_iff.mp hw).1
      rw [List.length_set] at this
      omega
    rw [hqi, List.getElem?_set_self hl] at hw
    cases hw
    have : q = (i, zz_tr g v) := by rw [← hqi, ← he]
    rw [this]
    exact List.mem_cons_self
  · rw [List.getElem?_set_ne (Ne.symm hqi)] at hw
    obtain ⟨h1, h2⟩ := zz_cl_keep hw
    refine List.mem_cons_of_mem _ (List.mem_filter.mpr ⟨?_, ?_⟩)
    · have := zz_as_mem (g := g) h1
      rw [← he] at this
      exact this
    · rw [he, zz_tr_cat]
      simp only [Bool.and_eq_true, Bool.not_eq_true', beq_eq_false_iff_ne, ne_eq, Bool.and_eq_false_imp, beq_iff_eq]
      exact ⟨hqi, hq1, fun a b => h2 ⟨a, b⟩⟩

