/-! the law's start, its script, its end -/
theorem zz_any {w : Jvm.Cond} (hg : zz_good w = true) {A : Array Value} {s : State} (h : w.before A s = true) (a : Array Value) : w.before a s = true := by
  cases w with
  | arrayClass ty => exact word_at (State.WarmedH.refl s) (Or.inr ⟨_, rfl⟩) h
  | fieldLinkNest x i b n d y => exact va_tabs rfl rfl h
  | methodLinkNest x i b y => exact va_tabs rfl rfl h
  | castable x y => exact va_tabs rfl rfl h
  | arrayOver t => exact h
  | _ => exact word_at (State.WarmedH.refl s) (Or.inl hg) h
def zz_cin (q : vw_C) : Bool := decide (Jvm.Cond.instantiable q.1 q.2.2 ∈ lw_tbl) && zz_good (Jvm.Cond.instantiable q.1 q.2.2)
theorem zz_cin_l : classes.all zz_cin = true := by decide +kernel
theorem zz_arrO {C : String} {s : State} (h : (Jvm.Cond.arrayOver (.object C)).before #[] s = true) : ∃ cA : ClassId, ArrOfT s cA (.object C) ∧ va_RA s cA (.object C) := by
  obtain ⟨comp, c, k, h1, h2, h3, h4, h5⟩ := Cond.arrayOver_spec h
  exact ⟨c, fun n z => ⟨fun k h => (by cases h), k, h3, comp, h4⟩, k, comp, h3, h4, h1, h5⟩
theorem zz_arrA {t : FieldType} {s : State} (h : (Jvm.Cond.arrayOver (.array t)).before #[] s = true) : ∃ cA : ClassId, ArrOfT s cA (.array t) ∧ va_RA s cA (.array t) := by
  obtain ⟨comp, c, k, h1, h2, h3, h4, h5⟩ := arrayOverA_spec h
  exact ⟨c, fun n z => ⟨fun k h => (by cases h), k, h3, comp, h4⟩, h5⟩
theorem zz_arrI {s : State} (h : (Jvm.Cond.arrayClass .int).before #[] s = true) : ∃ cA : ClassId, ArrOfT s cA .int ∧ va_RA s cA .int := by
  obtain ⟨c, k, comp, h1, h2, h3⟩ := Cond.arrayClass_spec h
  exact ⟨c, fun n z => ⟨fun k h => (by cases h), k, h2, comp, h3⟩, h1⟩
def zz_tyk (t : Nat) : Bool := match zz_ty[t]? with
  | some .int => decide (Jvm.Cond.arrayClass .int ∈ lw_tbl)
  | some (.object C) => decide (Jvm.Cond.arrayOver (.object C) ∈ lw_tbl)
  | some (.array C) => decide (Jvm.Cond.arrayOver (.array C) ∈ lw_tbl)
  | some _ => false
  | none => true
theorem zz_tyk_l : (List.range 5).all zz_tyk = true := by decide +kernel
theorem zz_tyk_all (t : Nat) : zz_tyk t = true := by
  by_cases h : t < 5
  · exact List.all_eq_true.mp zz_tyk_l t (List.mem_range.mpr h)
  · unfold zz_tyk
    rw [List.getElem?_eq_none (by show 5 ≤ t; omega)]
theorem zz_known {s : State} (hT : zz_ok s) (b scr : Nat) : ∃ (aC dC : Nat → ClassId) (dI : Nat → Nat → Nat), zz_K (b, scr, aC, dC, dI) s := by
  have h1 : ∀ c : Nat, ∃ (cC : ClassId) (iS : Nat → Nat), ∀ q, classes[c]? = some q → u_Kn s q.1 q.2.1 q.2.2 cC iS := by
    intro c
    cases hq : classes[c]? with
    | none => exact ⟨0, fun _ => 0, fun q h => by cases h⟩
    | some q =>
      have h0 := List.all_eq_true.mp zz_cin_l q (List.mem_of_getElem? hq)
      simp only [zz_cin, Bool.and_eq_true, decide_eq_true_eq] at h0
      obtain ⟨cC, iS, hK⟩ := u_known (args := #[]) (zz_cts (zz_cok_all c q hq) hT #[]) (fun _ h => h) (hT _ h0.1 h0.2 #[])
      exact ⟨cC, iS, fun q' h => by cases h; exact hK⟩
  have h2 : ∀ t : Nat, ∃ cA : ClassId, ∀ ty, zz_ty[t]? = some ty → ArrOfT s cA ty ∧ va_RA s cA ty := by
    intro t
    have h0 := zz_tyk_all t
    unfold zz_tyk at h0
    split at h0
    · rename_i hq
      obtain ⟨cA, h3⟩ := zz_arrI (hT _ (of_decide_eq_true h0) rfl #[])
      exact ⟨cA, fun ty h => by cases hq.symm.trans h; exact h3⟩
    · rename_i C hq
      obtain ⟨cA, h3⟩ := zz_arrO (hT _ (of_decide_eq_true h0) rfl #[])
      exact ⟨cA, fun ty h => by cases hq.symm.trans h; exact h3⟩
    · rename_i C hq
      obtain ⟨cA, h3⟩ := zz_arrA (hT _ (of_decide_eq_true h0) rfl #[])
      exact ⟨cA, fun ty h => by cases hq.symm.trans h; exact h3⟩
    · cases h0
    · rename_i hq
      exact ⟨0, fun ty h => by rw [hq] at h; cases h⟩
  exact ⟨fun t => (h2 t).choose, fun c => (h1 c).choose, fun c => (h1 c).choose_spec.choose, fun c q hq => (h1 c).choose_spec.choose_spec q hq, fun t ty ht => (h2 t).choose_spec ty ht⟩
theorem zz_law0 {p : Program} {s : State} {m : MethodId} {meth : Method} {c : Code} {b L : Nat} {xs : Nat → Int32} (C0 : lw_At p s m meth c b L xs) : ∃ g : zz_G, zz_X g p room_1 s m meth c zz_law ∧ g.2.1 = b ∧ s.heap.size = g.1 + 1 ∧ b ≤ g.1 := by
  obtain ⟨hx, hb, hr, hml, hown, hts, hX, hbl, hlocks, hgv⟩ := id C0
  have hT : zz_ok s := fun w hw hg a => zz_any hg (hts w hw) a
  obtain ⟨aC, dC, dI, hK⟩ := zz_known hT (s.heap.size - 1) b
  exact ⟨(s.heap.size - 1, b, aC, dC, dI), ⟨hx, hb, hml, hown, hT, hK, fun h => absurd h (by decide), rfl, zd_law⟩, rfl, by show s.heap.size = s.heap.size - 1 + 1; omega, by show b ≤ s.heap.size - 1; omega⟩
section ZZ8
variable {g : zz_G} {p : Program} {l : Launch} {e : Env} {s : State} {m : MethodId} {below : List Frame} {meth : Method} {c : Code} {b L0 : Nat} {xs : Nat → Int32} {pc cu su : Nat} {L : List (Option Value)} {st : List Value} {cs : zz_W}
abbrev zz_LZ (g : zz_G) (p : Program) (l : Launch) (e : Env) (s : State) (m : MethodId) (below : List Frame) (meth : Method) (c : Code) (b pc : Nat) (L : List (Option Value)) (st : List Value) (cs : zz_W) (cu su : Nat) : Prop := zz_Z g [none] p l e room_1 s m #[Value.ref b] below meth c (lw_Z below #[Value.ref b] s) 4 pc L st cs cu su
theorem zz_slen (X : zz_X g p room_1 s m meth c zz_law) (hX : va_X b L0 xs s s.heap) (hg : g.2.1 = b ∧ b ≤ g.1) (hd : decode code pc = .ok (.arraylength, 1)) (kk : zz_LZ g p l e s m below meth c b (pc + 1) L (.int (Int32.ofNat L0) :: st) cs cu su) : zz_LZ g p l e s m below meth c b pc L (.ref 0 :: st) cs cu su := by
  intro hnL H locs ls hR hl
  obtain ⟨hx, hb, -⟩ := X
  obtain ⟨scr, h1, h2, h3, h4, h5⟩ := hX
  have e0 : zz_tr g (.ref 0) = .ref b := by show Value.ref (zz_ad g 0) = _; unfold zz_ad; rw [if_pos rfl, hg.1]
  rw [List.map_cons, e0]
  exact W.alen (n := Int32.ofNat L0) hx hb (by rw [hR.2.2.1 b hg.2]; exact h1) h2 (by rw [h4] <;> rfl) rfl rfl hd (kk hnL H locs ls hR hl)
theorem zz_sld (X : zz_X g p room_1 s m meth c zz_law) (hX : va_X b L0 xs s s.heap) (hg : g.2.1 = b ∧ b ≤ g.1) {j : Int32} {v : Int32} (hj : vp_in j L0) (hv : xs j.toNatClampNeg = v) (hd : decode code pc = .ok (.iaload, 1)) (kk : zz_LZ g p l e s m below meth c b (pc + 1) L (.int v :: st) cs cu su) : zz_LZ g p l e s m below meth c b pc L (.int j :: .ref 0 :: st) cs cu su := by
  intro hnL H locs ls hR hl
  obtain ⟨hx, hb, -⟩ := X
  obtain ⟨scr, h1, h2, h3, h4, h5⟩ := hX
  subst hv
  have e0 : zz_tr g (.ref 0) = .ref b := by show Value.ref (zz_ad g 0) = _; unfold zz_ad; rw [if_pos rfl, hg.1]
  have hlt : j.toNatClampNeg < L0 := Nat.not_le.mp fun q => hj (Or.inr q)
  rw [List.map_cons, List.map_cons, e0]
  exact W.iald (v := .int (xs j.toNatClampNeg)) hx hb (by rw [hR.2.2.1 b hg.2]; exact h1) h2 h3 (by rw [h4]; exact hj) (h5 _ hlt) rfl rfl hd (kk hnL H locs ls hR hl)
theorem zz_lend (X : zz_X g p room_1 s m meth c zz_law) (hr : meth.sig.returnType = ret) (hlk : meth.locks = false) (hg : s.heap.size = g.1 + 1) (hB : cu ≤ 600000 ∧ su ≤ 7302250) (hd : decode code pc = .ok (.ireturn, 1)) : zz_LZ g p l e s m below meth c b pc L [.int 1] cs cu su := by
  intro hnL H locs ls hR hl
  obtain ⟨hx, hb, -⟩ := X
  refine va_forget (fun q hq => by have := hR.2.2.2.1 q hq; omega) (W.widen hB.1 hB.2 (lw_ret hx hb hr hlk hd))
def zz_rn : Nat → zz_Mi → Nat → (List (Option Value) × List Value × zz_W × Nat × Nat) → Option zz_S
  | 0, _, pc, σ => some (pc, σ)
  | n + 1, mi, pc, σ => match zz_fetch mi.2.2.2.2.2.2.2.2 pc with
    | some e => match zz_one mi.2.2.2.2.2.2.1 e (pc, σ) with
      | some (pc', σ') => zz_rn n mi pc' σ'
      | none => none
    | none => none
theorem zz_runs {c0 : zz_W} {R : Room} {args : Array Value} {Q : State → Prop} {mi : zz_Mi} (X : zz_X g p R s m meth c mi) : ∀ (n : Nat) {pc pc' cu su cu' su' : Nat} {L L' : List (Option Value)} {st st' : List Value} {cs cs' : zz_W}, cu ≤ R.cells ∧ su ≤ R.slots → zz_rn n mi pc (L, st, cs, cu, su) = some (pc', L', st', cs', cu', su') → (cu' ≤ R.cells ∧ su' ≤ R.slots → zz_Z g c0 p l e R s m args below meth c Q mi.2.2.1 pc' L' st' cs' cu' su') → zz_Z g c0 p l e R s m args below meth c Q mi.2.2.1 pc L st cs cu su := by
  intro n
  induction n with
  | zero => intro pc pc' cu su cu' su' L L' st st' cs cs' hB h kk; cases h; exact kk hB
  | succ n ih =>
    intro pc pc' cu su cu' su' L L' st st' cs cs' hB h kk
    unfold zz_rn at h
    split at h
    · rename_i en hf
      split at h
      · rename_i pc1 σ' h1
        obtain ⟨L1, st1, cs1, cu1, su1⟩ := σ'
        exact zz_step X hB hf h1 (fun hB1 => ih hB1 h kk)
      · cases h
    · cases h
end ZZ8
