/-! the evaluator: whole walks of the pure machine, calls and all, and their contracts -/
theorem zz_fnd_ok {pc : Nat} : ∀ {ch : List zz_I} {e : zz_I}, zz_fnd pc ch = some e → e ∈ ch ∧ e.1 = pc
  | [], _, h => by cases h
  | e :: r, e', h => by
    unfold zz_fnd at h
    split at h
    · rename_i hb
      cases h
      exact ⟨List.mem_cons_self, Nat.eq_of_beq_eq_true hb⟩
    · obtain ⟨h1, h2⟩ := zz_fnd_ok h
      exact ⟨List.mem_cons_of_mem _ h1, h2⟩
theorem zz_fetch_ok {code : List (List zz_I)} {pc : Nat} {e : zz_I} (h : zz_fetch code pc = some e) : (∃ ch ∈ code, e ∈ ch) ∧ e.1 = pc := by
  unfold zz_fetch at h
  split at h
  · rename_i ch hch
    obtain ⟨h1, h2⟩ := zz_fnd_ok h
    exact ⟨⟨ch, List.mem_of_getElem? hch, h1⟩, h2⟩
  · cases h
theorem zz_alts_ok {C : Nat → Option String} {x : MethodName} {ci k w : Nat} : ∀ {r : List Nat}, zz_alts C x r = true → zz_alt ci r = some (k, w) → ∃ q mi, classes[ci]? = some q ∧ zz_mts[k]? = some mi ∧ mi.2.2.2.2.2.1 = false ∧ zz_wd w (.selects q.1 x mi.1) = true
  | [], _, h => by cases h
  | [_], _, h => by cases h
  | [_, _], _, h => by cases h
  | a :: k' :: w' :: r, h1, h2 => by
    unfold zz_alts at h1
    unfold zz_alt at h2
    simp only [Bool.and_eq_true] at h1
    split at h2
    · rename_i hb
      cases h2
      have ha := Nat.eq_of_beq_eq_true hb
      subst ha
      have h3 := h1.1
      split at h3
      · rename_i q hq
        split at h3
        · rename_i y _ _ _ _ stt _ _ _ hm
          simp only [Bool.and_eq_true, Bool.not_eq_true'] at h3
          exact ⟨q, _, hq, hm, h3.1, h3.2⟩
        · cases h3
      · cases h3
    · exact zz_alts_ok h1.2 h2
theorem zz_chk_of {mi : zz_Mi} (h : zz_cdk mi = true) {pc : Nat} {e : zz_I} (hf : zz_fetch mi.2.2.2.2.2.2.2.2 pc = some e) : e.1 = pc ∧ decode mi.2.1 pc = .ok (e.2.1, e.2.2.1) ∧ (zz_len e.2.1 = 0 ∨ e.2.2.1 = zz_len e.2.1) ∧ zz_tb mi.1.cls mi.1.name e.2.1 e.2.2.2.1 e.2.2.2.2 = true ∧ zz_at3 mi.1.cls e.2.1 e.2.2.2.1 = true ∧ zz_tn mi.1.cls e.2.1 e.2.2.2.1 = true ∧ zz_tc2 mi.1.cls e.2.1 e.2.2.2.1 = true := by
  obtain ⟨⟨ch, h1, h2⟩, rfl⟩ := zz_fetch_ok hf
  have h3 := List.all_eq_true.mp (List.all_eq_true.mp h ch h1) e h2
  obtain ⟨pc, ins, len, r, v0⟩ := e
  simp only [zz_chk, Bool.and_eq_true, decide_eq_true_eq, Bool.or_eq_true] at h3
  exact ⟨rfl, h3.1, h3.2.1, h3.2.2.1, h3.2.2.2.1, h3.2.2.2.2.1, h3.2.2.2.2.2⟩
