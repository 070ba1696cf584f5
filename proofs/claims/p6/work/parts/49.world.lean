/-! the typed machine is sound: typed cells, facts, what stays -/
def t_sv (cs : zz_W) (c s : Nat) : Option Value := match zz_cell cs c with
  | some (.inl xs) => (xs[s]?).map Value.int
  | some (.inr (.inr (_, fs))) => fs[s]?
  | _ => none
def t_slot (s : tS) (v : Value) : Prop := match s with
  | .inl (lo, hi) => ∃ x : Int32, v = .int x ∧ lo ≤ x.toInt ∧ x.toInt ≤ hi
  | .inr (alts, nul) => (∃ i r, v = .ref i ∧ t_rl[i]? = some r ∧ r ∈ alts) ∨ (nul = true ∧ v = .null)
def t_cel (c : tC) (d : zz_C) : Prop := match c, d with
  | .inl (n, lo, hi), .inl xs => xs.length = n ∧ ∀ x ∈ xs, lo ≤ x.toInt ∧ x.toInt ≤ hi
  | .inr (.inl (t, n, alts)), .inr (.inl (u, rs)) => u = t ∧ rs.length = n ∧ ∀ o ∈ rs, ∃ i r, o = some i ∧ t_rl[i]? = some r ∧ r ∈ alts
  | .inr (.inr (ci, fts)), .inr (.inr (cj, fs)) => cj = ci ∧ fs.length = fts.length ∧ ∀ (k : Nat) (s : tS), fts[k]? = some s → ∃ v : Value, fs[k]? = some v ∧ t_slot s v
  | _, _ => False
def t_ty (cs : zz_W) : Prop := cs.length = t_rl.length ∧ cs[0]? = some none ∧ ∀ (i r c : Nat) (o : Bool) (b : Nat) (T : tC), t_rl[i]? = some r → t_ro[r]? = some (c, o, b, T) → ∃ d, zz_cell cs i = some d ∧ t_cel T d
def t_sam (M b : Nat) (d d' : zz_C) : Prop := match d, d' with
  | .inl xs, .inl ys => ys.length = xs.length ∧ (Nat.testBit M b = false → ys = xs)
  | .inr (.inl p), .inr (.inl q) => Nat.testBit M b = false → q = p
  | .inr (.inr (ci, fs)), .inr (.inr (cj, gs)) => cj = ci ∧ gs.length = fs.length ∧ ∀ k, Nat.testBit M (b + k) = false → gs[k]? = fs[k]?
  | _, _ => False
def t_frm (M : Nat) (cs cs' : zz_W) : Prop := cs'.length = cs.length ∧ ∀ (i r c : Nat) (o : Bool) (b : Nat) (T : tC) (d : zz_C), t_rl[i]? = some r → t_ro[r]? = some (c, o, b, T) → zz_cell cs i = some d → ∃ d', zz_cell cs' i = some d' ∧ t_sam M b d d'
def t_sngl (c : Nat) : Prop := ∃ (r b : Nat) (T : tC), t_rl[c]? = some r ∧ t_ro[r]? = some (c, true, b, T)
def t_rS (ρ : List Int) : List ta → List Value → Prop
  | [], [] => True
  | v :: s, u :: t => tgv ρ v u ∧ t_rS ρ s t
  | [], _ :: _ => False
  | _ :: _, [] => False
def t_loc (ρ : List Int) (A : tL) (L : List (Option Value)) : Prop := A.length = L.length ∧ ∀ (i : Nat) (t : ta), A[i]? = some t → t = t_top ∨ ∃ u, L[i]? = some (some u) ∧ tgv ρ t u
def t_fac (ρ : List Int) (F : tF) (cs : zz_W) : Prop := ∀ e ∈ F, t_sngl (e.1 / 1024) ∧ ∃ u, t_sv cs (e.1 / 1024) (e.1 % 1024) = some u ∧ tgv ρ e.2 u
def t_val (cs : zz_W) (c : Nat) : Prop := ∀ (k : Nat) (a b : Int), t_TT[k]? = some (a, b) → ∃ x : Int32, t_sv cs c k = some (.int x) ∧ a ≤ x.toInt ∧ x.toInt ≤ b
def t_tks (tk : List Nat) (cs : zz_W) : Prop := ∀ c ∈ tk, t_sngl c ∧ (∃ xs, zz_cell cs c = some (.inl xs)) ∧ t_val cs c
def t_stt (ρ : List Int) (rs : tB) (F : tF) (tk : List Nat) (cs : zz_W) : Prop := t_okr ρ rs ∧ t_fac ρ F cs ∧ t_tks tk cs ∧ t_ty cs
-- the tables
def t_sgl1 (i : Nat) : Bool := match t_rl[i]? with
  | some r => match t_ro[r]? with
    | some (c, o, _, T) => (!o || Nat.beq i c) && (match T with
      | .inl (n, _, _) => Nat.ble n 1024
      | .inr (.inl _) => true
      | .inr (.inr (_, fts)) => Nat.ble fts.length 1024)
    | none => true
  | none => true
theorem t_sgl_l : (List.range 298).all t_sgl1 = true := by decide +kernel
theorem t_rl_len : t_rl.length = 298 := by decide +kernel
theorem t_TT_len : t_TT.length = 113 := by decide +kernel
theorem t_sgl_of {i : Nat} (r : Nat) (h : t_rl[i]? = some r) : t_sgl1 i = true := List.all_eq_true.mp t_sgl_l i (List.mem_range.mpr (by rw [← t_rl_len]; exact (List.getElem?_eq_some_iff.mp h).1))
theorem t_sgl_ok {i r c b : Nat} {T : tC} (h1 : t_rl[i]? = some r) (h2 : t_ro[r]? = some (c, true, b, T)) : i = c := by
  have h := t_sgl_of r h1
  unfold t_sgl1 at h
  rw [h1] at h
  dsimp only at h
  rw [h2] at h
  simp only [Bool.not_true, Bool.false_or, Bool.and_eq_true] at h
  exact Nat.eq_of_beq_eq_true h.1
theorem t_sml_a {i r c b n : Nat} {o : Bool} {lo hi : Int} (h1 : t_rl[i]? = some r) (h2 : t_ro[r]? = some (c, o, b, .inl (n, lo, hi))) : n ≤ 1024 := by
  have h := t_sgl_of r h1
  unfold t_sgl1 at h
  rw [h1] at h
  dsimp only at h
  rw [h2] at h
  simp only [Bool.and_eq_true] at h
  exact Nat.le_of_ble_eq_true h.2
theorem t_sml_o {i r c b ci : Nat} {o : Bool} {fts : List tS} (h1 : t_rl[i]? = some r) (h2 : t_ro[r]? = some (c, o, b, .inr (.inr (ci, fts)))) : fts.length ≤ 1024 := by
  have h := t_sgl_of r h1
  unfold t_sgl1 at h
  rw [h1] at h
  dsimp only at h
  rw [h2] at h
  simp only [Bool.and_eq_true] at h
  exact Nat.le_of_ble_eq_true h.2
theorem t_key_d {c s : Nat} (h : s < 1024) : t_key c s / 1024 = c ∧ t_key c s % 1024 = s := by
  unfold t_key
  simp only [Nat.add_eq, Nat.mul_eq]
  omega
section TW1
variable {ρ ρ' : List Int} {rs rs' : tB} {F : tF} {tk : List Nat} {cs : zz_W}
theorem t_rS.ext (h : t_ext ρ ρ') : ∀ {st : List ta} {t : List Value}, t_rS ρ st t → t_rS ρ' st t
  | [], [], _ => trivial
  | v :: s, u :: t, hs => ⟨hs.1.ext h, t_rS.ext h hs.2⟩
  | [], _ :: _, hs => hs.elim
  | _ :: _, [], hs => hs.elim
theorem t_loc.ext (h : t_ext ρ ρ') {A : tL} {L : List (Option Value)} (hA : t_loc ρ A L) : t_loc ρ' A L := ⟨hA.1, fun i t hi => by
  rcases hA.2 i t hi with q | ⟨u, h1, h2⟩
  · exact Or.inl q
  · exact Or.inr ⟨u, h1, h2.ext h⟩⟩
theorem t_fac.ext (h : t_ext ρ ρ') (hF : t_fac ρ F cs) : t_fac ρ' F cs := fun e he => by
  obtain ⟨h1, u, h2, h3⟩ := hF e he
  exact ⟨h1, u, h2, h3.ext h⟩
theorem t_stt.ext (h : t_ext ρ ρ') (hr : t_okr ρ' rs') (hs : t_stt ρ rs F tk cs) : t_stt ρ' rs' F tk cs := ⟨hr, hs.2.1.ext h, hs.2.2⟩
theorem t_stt.okr (hr : t_okr ρ rs') (hs : t_stt ρ rs F tk cs) : t_stt ρ rs' F tk cs := ⟨hr, hs.2⟩
theorem t_rS_cons {v : ta} {s : List ta} {t : List Value} (h : t_rS ρ (v :: s) t) : ∃ u t', t = u :: t' ∧ tgv ρ v u ∧ t_rS ρ s t' := by
  cases t with
  | nil => exact h.elim
  | cons u t' => exact ⟨u, t', rfl, h.1, h.2⟩
theorem t_rS_nil {t : List Value} (h : t_rS ρ [] t) : t = [] := by
  cases t with
  | nil => rfl
  | cons u t' => exact h.elim
theorem t_rS_len : ∀ {s : List ta} {t : List Value}, t_rS ρ s t → s.length = t.length
  | [], [], _ => rfl
  | v :: s, u :: t, h => by
    rw [List.length_cons, List.length_cons, t_rS_len h.2]
  | [], _ :: _, h => h.elim
  | _ :: _, [], h => h.elim
theorem t_rS_app : ∀ {s : List ta} {t : List Value} {s2 : List ta} {t2 : List Value}, t_rS ρ s t → t_rS ρ s2 t2 → t_rS ρ (s ++ s2) (t ++ t2)
  | [], [], _, _, _, h => h
  | v :: s, u :: t, _, _, h, h2 => ⟨h.1, t_rS_app h.2 h2⟩
  | [], _ :: _, _, _, h, _ => h.elim
  | _ :: _, [], _, _, h, _ => h.elim
theorem t_rS_nth : ∀ {s : List ta} {t : List Value} {i : Nat} {v : ta}, t_rS ρ s t → s[i]? = some v → ∃ u, t[i]? = some u ∧ tgv ρ v u
  | [], [], i, v, _, h => by simp at h
  | v :: s, u :: t, 0, v', h, hv => by
    rw [List.getElem?_cons_zero] at hv
    cases hv
    exact ⟨u, rfl, h.1⟩
  | v :: s, u :: t, i + 1, v', h, hv => by
    rw [List.getElem?_cons_succ] at hv ⊢
    exact t_rS_nth h.2 hv
  | [], _ :: _, _, _, h, _ => h.elim
  | _ :: _, [], _, _, h, _ => h.elim
theorem t_new_ok {lo hi z : Int} {k : tT → tB → Bool} (h : t_new rs lo hi k = true) (hr : t_okr ρ rs) (h1 : lo ≤ z) (h2 : z ≤ hi) : ∃ x rs' ρ', k x rs' = true ∧ t_ext ρ ρ' ∧ t_okr ρ' rs' ∧ tg ρ' x z := by
  unfold t_new at h
  split at h
  · exact ⟨_, rs, ρ, h, t_ext.rf ρ, hr, tg_c h1 h2⟩
  · rw [t_fn_eq, t_app_eq, t_len_eq] at h
    refine ⟨_, _, ρ ++ [z], h, ⟨[z], rfl⟩, ⟨by simp [hr.1], fun j a b hj => ?_⟩, ⟨z, ?_, ?_, ?_⟩⟩
    · by_cases hl : j < rs.length
      · rw [List.getElem?_append_left hl] at hj
        obtain ⟨y, q1, q2⟩ := hr.2 j a b hj
        refine ⟨y, ?_, q2⟩
        rw [List.getElem?_append_left (by rw [← hr.1]; exact hl)]
        exact q1
      · rw [List.getElem?_append_right (by omega)] at hj
        have hj0 : j - rs.length = 0 := by
          cases hq : j - rs.length with
          | zero => rfl
          | succ n => rw [hq] at hj; simp at hj
        rw [hj0] at hj
        cases hj
        refine ⟨z, ?_, h1, h2⟩
        rw [List.getElem?_append_right (by rw [← hr.1]; omega), ← hr.1, hj0]
        rfl
    · show (ρ ++ [z])[rs.length]? = some z
      rw [hr.1, List.getElem?_append_right (Nat.le_refl _), Nat.sub_self]
      rfl
    · show z + (0 : Int) ≤ z
      omega
    · show z ≤ z + (0 : Int)
      omega
theorem t_name_ok {x : tT} {z : Int} {k : tT → tB → Bool} (h : t_name rs x k = true) (hr : t_okr ρ rs) (hx : tg ρ x z) : ∃ x' rs' ρ', k x' rs' = true ∧ t_ext ρ ρ' ∧ t_okr ρ' rs' ∧ tg ρ' x' z := by
  unfold t_name at h
  split at h
  · rename_i h0
    obtain ⟨y, q1, q2, q3⟩ := hx
    rw [h0] at q1
    cases q1
    exact t_new_ok h hr (by omega) (by omega)
  · split at h
    · exact ⟨x, rs, ρ, h, t_ext.rf ρ, hr, hx⟩
    · exact ⟨x, rs, ρ, h, t_ext.rf ρ, hr, hx⟩
theorem t_wi_ok {x : tT} {lo hi z : Int} (h : t_wi rs x lo hi = true) (hr : t_okr ρ rs) (hx : tg ρ x z) : lo ≤ z ∧ z ≤ hi := by
  unfold t_wi at h
  split at h
  · rename_i p q h1
    rw [t_and_iff, t_le_iff, t_le_iff] at h
    have := t_iv_ok h1 hr hx
    omega
  · cases h
theorem t_fget_ok : ∀ {F : tF} {key : Nat} {v : ta}, t_fget F key = some v → (key, v) ∈ F
  | [], key, v, h => by cases h
  | e :: F, key, v, h => by
    replace h : (match Nat.beq e.1 key with | true => some e.2 | false => t_fget F key) = some v := h
    split at h
    · rename_i hb
      cases h
      rw [← Nat.eq_of_beq_eq_true hb]
      exact List.mem_cons_self
    · exact List.mem_cons_of_mem _ (t_fget_ok h)
-- cells
theorem t_cell_lt {i : Nat} {d : zz_C} (h : zz_cell cs i = some d) : i < cs.length := (List.getElem?_eq_some_iff.mp (zz_cell_eq h)).1
theorem t_cell_set {i : Nat} {d d' : zz_C} (h : zz_cell cs i = some d) (j : Nat) : zz_cell (cs.set i (some d')) j = if i = j then some d' else zz_cell cs j := by
  unfold zz_cell
  by_cases hij : i = j
  · subst hij
    rw [List.getElem?_set_self (t_cell_lt h), if_pos rfl]
  · rw [List.getElem?_set_ne hij, if_neg hij]
theorem t_ty_set {i r c b : Nat} {o : Bool} {T : tC} {d d' : zz_C} (hT : t_ty cs) (h1 : t_rl[i]? = some r) (h2 : t_ro[r]? = some (c, o, b, T)) (h3 : zz_cell cs i = some d) (h4 : t_cel T d') : t_ty (cs.set i (some d')) := by
  refine ⟨by rw [List.length_set]; exact hT.1, ?_, fun j r' c' o' b' T' q1 q2 => ?_⟩
  · have h0 : i ≠ 0 := by
      rintro rfl
      have h5 := hT.2.1
      rw [zz_cell_eq h3] at h5
      cases h5
    rw [List.getElem?_set_ne h0]
    exact hT.2.1
  · rw [t_cell_set h3]
    by_cases hij : i = j
    · subst hij
      rw [if_pos rfl]
      rw [h1] at q1
      cases q1
      rw [h2] at q2
      cases q2
      exact ⟨d', rfl, h4⟩
    · rw [if_neg hij]
      exact hT.2.2 j r' c' o' b' T' q1 q2
theorem t_sam_rf (M b : Nat) (d : zz_C) : t_sam M b d d := by
  match d with
  | .inl xs => exact ⟨rfl, fun _ => rfl⟩
  | .inr (.inl p) => exact fun _ => rfl
  | .inr (.inr (ci, fs)) => exact ⟨rfl, rfl, fun _ _ => rfl⟩
theorem t_frm_rf (M : Nat) (cs : zz_W) : t_frm M cs cs := ⟨rfl, fun i r c o b T d _ _ h => ⟨d, h, t_sam_rf M b d⟩⟩
theorem t_sam_tr {M b : Nat} {d d1 d2 : zz_C} (h : t_sam M b d d1) (h2 : t_sam M b d1 d2) : t_sam M b d d2 := by
  match d, d1, d2, h, h2 with
  | .inl xs, .inl ys, .inl zs, h, h2 => exact ⟨h2.1.trans h.1, fun q => (h2.2 q).trans (h.2 q)⟩
  | .inr (.inl p), .inr (.inl q), .inr (.inl s), h, h2 => exact fun z => (h2 z).trans (h z)
  | .inr (.inr (ci, fs)), .inr (.inr (cj, gs)), .inr (.inr (ck, hs)), h, h2 => exact ⟨h2.1.trans h.1, h2.2.1.trans h.2.1, fun k q => (h2.2.2 k q).trans (h.2.2 k q)⟩
theorem t_frm_tr {M : Nat} {cs cs1 cs2 : zz_W} (h : t_frm M cs cs1) (h2 : t_frm M cs1 cs2) : t_frm M cs cs2 := ⟨h2.1.trans h.1, fun i r c o b T d q1 q2 q3 => by
  obtain ⟨d1, p1, p2⟩ := h.2 i r c o b T d q1 q2 q3
  obtain ⟨d2, p3, p4⟩ := h2.2 i r c o b T d1 q1 q2 p1
  exact ⟨d2, p3, t_sam_tr p2 p4⟩⟩
theorem t_sam_mono {M N b : Nat} (hM : ∀ j, Nat.testBit M j = true → Nat.testBit N j = true) {d d' : zz_C} (h : t_sam M b d d') : t_sam N b d d' := by
  have hf : ∀ j, Nat.testBit N j = false → Nat.testBit M j = false := fun j hj => by
    cases hq : Nat.testBit M j with
    | false => rfl
    | true => rw [hM j hq] at hj; cases hj
  match d, d', h with
  | .inl xs, .inl ys, h => exact ⟨h.1, fun q => h.2 (hf _ q)⟩
  | .inr (.inl p), .inr (.inl q), h => exact fun z => h (hf _ z)
  | .inr (.inr (ci, fs)), .inr (.inr (cj, gs)), h => exact ⟨h.1, h.2.1, fun k q => h.2.2 k (hf _ q)⟩
theorem t_frm_mono {M N : Nat} (hM : ∀ j, Nat.testBit M j = true → Nat.testBit N j = true) {cs cs' : zz_W} (h : t_frm M cs cs') : t_frm N cs cs' := ⟨h.1, fun i r c o b T d q1 q2 q3 => by
  obtain ⟨d', p1, p2⟩ := h.2 i r c o b T d q1 q2 q3
  exact ⟨d', p1, t_sam_mono hM p2⟩⟩
theorem t_frm_set {M i r c b : Nat} {o : Bool} {T : tC} {d d' : zz_C} (h1 : t_rl[i]? = some r) (h2 : t_ro[r]? = some (c, o, b, T)) (h3 : zz_cell cs i = some d) (h4 : t_sam M b d d') : t_frm M cs (cs.set i (some d')) := ⟨List.length_set, fun j r' c' o' b' T' e q1 q2 q3 => by
  rw [t_cell_set h3]
  by_cases hij : i = j
  · subst hij
    rw [if_pos rfl]
    rw [h1] at q1
    cases q1
    rw [h2] at q2
    cases q2
    rw [h3] at q3
    cases q3
    exact ⟨d', rfl, h4⟩
  · rw [if_neg hij]
    exact ⟨e, q3, t_sam_rf M b' e⟩⟩
theorem t_sv_set {i : Nat} {d d' : zz_C} (h : zz_cell cs i = some d) {j : Nat} (hij : i ≠ j) (s : Nat) : t_sv (cs.set i (some d')) j s = t_sv cs j s := by
  unfold t_sv
  rw [t_cell_set h, if_neg hij]
theorem t_sngl_ne {i r c b j : Nat} {T : tC} (h1 : t_rl[i]? = some r) (h2 : t_ro[r]? = some (c, false, b, T)) (hj : t_sngl j) : i ≠ j := by
  rintro rfl
  obtain ⟨r', b', T', q1, q2⟩ := hj
  rw [h1] at q1
  cases q1
  rw [h2] at q2
  cases q2
end TW1
