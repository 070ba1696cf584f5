/-! walks with conditions: both ways of a branch, the end under a predicate; what isn't known isn't touched -/
def zz_bc (ins : Instr) (pc : Nat) (st : List Value) : Option (Bool × Option Nat × Option Nat × List Value) := match ins with
  | .ifCond op off => match st with
    | .int x :: r => some (zz_if op x, zz_br true pc off, zz_br false pc off, r)
    | _ => none
  | .if_icmp op off => match st with
    | .int y :: .int x :: r => some (zz_ic op x y, zz_br true pc off, zz_br false pc off, r)
    | _ => none
  | .tableswitch dflt lo hi offs => match st with
    | .int x :: r => some (decide (x.toInt < lo ∨ hi < x.toInt), zz_tg pc dflt, (match offs[(x.toInt - lo).toNat]? with
      | some off => zz_tg pc off
      | none => none), r)
    | _ => none
  | _ => none
theorem zz_bc_da {ins : Instr} {pc : Nat} {L : List (Option Value)} {st r : List Value} {b : Bool} {t f : Option Nat} (h : zz_bc ins pc st = some (b, t, f, r)) : zz_da ins pc L st = zz_go L r (match b with
  | true => t
  | false => f) := by
  cases ins with
  | ifCond op off =>
    simp only [zz_bc] at h
    split at h <;> try (cases h; done)
    cases h
    simp only [zz_da]
    cases zz_if op _ <;> rfl
  | if_icmp op off =>
    simp only [zz_bc] at h
    split at h <;> try (cases h; done)
    cases h
    simp only [zz_da]
    cases zz_ic op _ _ <;> rfl
  | tableswitch dflt lo hi offs =>
    simp only [zz_bc] at h
    split at h <;> try (cases h; done)
    rename_i x r'
    cases h
    simp only [zz_da]
    by_cases hc : x.toInt < lo ∨ hi < x.toInt
    · rw [if_pos hc, decide_eq_true hc]
    · rw [if_neg hc, decide_eq_false hc]
      cases offs[(x.toInt - lo).toNat]? <;> rfl
  | _ => exact absurd (show (none : Option (Bool × Option Nat × Option Nat × List Value)) = some _ from h) (by simp)
theorem zz_bc_no {ins : Instr} {pc : Nat} {st : List Value} {x : Bool × Option Nat × Option Nat × List Value} (h : zz_bc ins pc st = some x) : (∀ (r : List Nat) (v0 : Value) (L : List (Option Value)) (cs : zz_W), zz_db ins r v0 pc L st cs = none) ∧ (∀ (r : List Nat) (Bc Bs : Nat) (L : List (Option Value)) (cs : zz_W) (cu su : Nat), zz_al ins r Bc Bs pc L st cs cu su = none) ∧ (∀ (r : List Nat) (fr lo : Nat) (L : List (Option Value)) (cs : zz_W), zz_na ins r fr lo pc L st cs = none) ∧ (∀ ret : Option FieldType, zz_rt1 ins ret st = none) ∧ (∀ (r : List Nat) (cs : zz_W), zz_ca ins r st cs = none) := by
  cases ins with
  | ifCond op off => exact ⟨fun _ _ _ _ => rfl, fun _ _ _ _ _ _ _ => rfl, fun _ _ _ _ _ => rfl, fun _ => rfl, fun _ _ => rfl⟩
  | if_icmp op off => exact ⟨fun _ _ _ _ => rfl, fun _ _ _ _ _ _ _ => rfl, fun _ _ _ _ _ => rfl, fun _ => rfl, fun _ _ => rfl⟩
  | tableswitch dflt lo hi offs => exact ⟨fun _ _ _ _ => rfl, fun _ _ _ _ _ _ _ => rfl, fun _ _ _ _ _ => rfl, fun _ => rfl, fun _ _ => rfl⟩
  | _ => exact absurd (show (none : Option (Bool × Option Nat × Option Nat × List Value)) = some _ from h) (by simp)
def zz_wp : Nat → zz_Mi → zz_S → (Option Value → zz_W → Prop) → Prop
  | 0, _, _, _ => False
  | n + 1, mi, σ, Q => match zz_fetch mi.2.2.2.2.2.2.2.2 σ.1 with
    | none => False
    | some e => match zz_bc e.2.1 σ.1 σ.2.2.1 with
      | some (b, t, f, r) => (b = true → match t with
          | some t => zz_wp n mi (t, σ.2.1, r, σ.2.2.2) Q
          | none => False) ∧ (b = false → match f with
          | some f => zz_wp n mi (f, σ.2.1, r, σ.2.2.2) Q
          | none => False)
      | none => match zz_one mi.2.2.2.2.2.2.1 e σ with
        | some σ' => zz_wp n mi σ' Q
        | none => match zz_rt1 e.2.1 mi.2.2.2.1 σ.2.2.1 with
          | some v => Q v σ.2.2.2.1
          | none => match zz_ca e.2.1 e.2.2.2.1 σ.2.2.1 σ.2.2.2.1 with
            | none => False
            | some mj => match zz_cok2 mi.2.2.2.2.2.2.1 mj σ with
              | false => False
              | true => zz_wp n mj (0, zz_ent mj.2.2.1 (σ.2.2.1.take (zz_cn mj)).reverse, [], σ.2.2.2.1, 0, 0) (fun v cs' => zz_wp n mi (σ.1 + 3, σ.2.1, v.toList ++ σ.2.2.1.drop (zz_cn mj), cs', σ.2.2.2.2.1 + mj.2.2.2.2.2.2.1.1, σ.2.2.2.2.2 + mj.2.2.2.2.2.2.1.2.1) Q)
theorem zz_one_bc {q : Nat × Nat × Nat × Nat} {e : zz_I} {pc t : Nat} {L : List (Option Value)} {st r : List Value} {cs : zz_W} {cu su : Nat} {b : Bool} {tt ff : Option Nat} (h : zz_bc e.2.1 pc st = some (b, tt, ff, r)) (ht : (match b with
  | true => tt
  | false => ff) = some t) : zz_one q e (pc, L, st, cs, cu, su) = some (t, L, r, cs, cu, su) := by
  simp only [zz_one]
  rw [zz_bc_da h, ht]
  rfl
section ZZ7
variable {g : zz_G} {l : Launch}
/-- such a walk is the machine's -/
theorem zz_wp_ok : ∀ (n : Nat) {c0 : zz_W} {mi : zz_Mi} {σ : zz_S} {Q : Option Value → zz_W → Prop}, zz_wp n mi σ Q → ∀ (p : Program) (e : Env) (R : Room) (s : State) (m : MethodId) (args : Array Value) (below : List Frame) (meth : Method) (c : Code), zz_X g p R s m meth c mi → meth.sig.returnType = mi.2.2.2.1 → meth.locks = false → σ.2.2.2.2.1 ≤ mi.2.2.2.2.2.2.1.1 ∧ σ.2.2.2.2.2 ≤ mi.2.2.2.2.2.2.1.2.1 → zz_Z g c0 p l e R s m args below meth c (zz_Q1 g c0 below args s mi Q) mi.2.2.1 σ.1 σ.2.1 σ.2.2.1 σ.2.2.2.1 σ.2.2.2.2.1 σ.2.2.2.2.2 := by
  intro n
  induction n with
  | zero => intro c0 mi σ Q h; cases h
  | succ n ih =>
    intro c0 mi σ Q h p e R s m args below meth c X hr hlk hB
    obtain ⟨pc, L, st, cs, cu, su⟩ := σ
    dsimp only at hB ⊢
    have hRr : R = zz_rm mi.2.2.2.2.2.2.1 := X.2.2.2.2.2.2.2.1
    have fits : ∀ {a b : Nat}, a ≤ R.cells ∧ b ≤ R.slots → a ≤ mi.2.2.2.2.2.2.1.1 ∧ b ≤ mi.2.2.2.2.2.2.1.2.1 := fun hq => by rw [hRr] at hq; exact hq
    unfold zz_wp at h
    dsimp only at h
    split at h
    · cases h
    · rename_i en hf
      split at h
      · rename_i b tt ff r hbc
        cases hb : b with
        | true =>
          have h1 := h.1 hb
          split at h1
          · rename_i t
            exact zz_step X (by rw [hRr]; exact hB) hf (zz_one_bc hbc (by rw [hb])) (fun hB' => ih h1 p e R s m args below meth c X hr hlk (fits hB'))
          · cases h1
        | false =>
          have h1 := h.2 hb
          split at h1
          · rename_i t
            exact zz_step X (by rw [hRr]; exact hB) hf (zz_one_bc hbc (by rw [hb])) (fun hB' => ih h1 p e R s m args below meth c X hr hlk (fits hB'))
          · cases h1
      · split at h
        · rename_i σ' h1
          obtain ⟨pc', L', st', cs1, cu', su'⟩ := σ'
          exact zz_step X (by rw [hRr]; exact hB) hf h1 (fun hB' => ih h p e R s m args below meth c X hr hlk (fits hB'))
        · split at h
          · rename_i v1 h1
            exact zz_end X hr hlk h hB hf h1
          · split at h
            · cases h
            · rename_i mk hcl
              split at h
              · cases h
              · rename_i hc
                simp only [zz_cok2, Bool.and_eq_true, decide_eq_true_eq] at hc
                obtain ⟨q1, q2, q3, q4, q5, q6, q7⟩ := hc
                have hmem := zz_ca_mem hcl
                refine zz_call X hf hcl q1 q2 (by rw [hRr]; exact ⟨q3, q4⟩) (by rw [hRr]; exact ⟨q6, q7⟩) (zz_Met_of (zz_mok_mem mk hmem) (zz_cdk_mem mk hmem) q5 (fun p e R s m args below meth c X hr hlk => ih h p e R s m args below meth c X hr hlk ⟨Nat.zero_le _, Nat.zero_le _⟩)) ?_
                intro v2 cs2 h2
                exact ih h2 p e R s m args below meth c X hr hlk ⟨q3, q4⟩
/-- a contract out of such a walk -/
theorem zz_Met_wp (n : Nat) {mi : zz_Mi} {as : List Value} {cs : zz_W} {P : Option Value → zz_W → Prop} (hmem : mi ∈ zz_mts) (hlen : (zz_en as).length ≤ mi.2.2.1) (h : zz_wp n mi (0, zz_ent mi.2.2.1 as, [], cs, 0, 0) P) : zz_Met l g mi as cs P :=
  zz_Met_of (zz_mok_mem mi hmem) (zz_cdk_mem mi hmem) hlen (fun p e R s m args below meth c X hr hlk => zz_wp_ok n h p e R s m args below meth c X hr hlk ⟨Nat.zero_le _, Nat.zero_le _⟩)
end ZZ7
theorem zz_wp_mono : ∀ (n : Nat) {mi : zz_Mi} {σ : zz_S} {Q Q' : Option Value → zz_W → Prop}, (∀ v cs, Q v cs → Q' v cs) → zz_wp n mi σ Q → zz_wp n mi σ Q' := by
  intro n
  induction n with
  | zero => intro mi σ Q Q' _ h; cases h
  | succ n ih =>
    intro mi σ Q Q' hQ h
    unfold zz_wp at h ⊢
    split at h
    · cases h
    · split at h
      · rename_i b tt ff r hbc
        refine ⟨fun hb => ?_, fun hb => ?_⟩
        · have h1 := h.1 hb
          split at h1
          · exact ih hQ h1
          · cases h1
        · have h1 := h.2 hb
          split at h1
          · exact ih hQ h1
          · cases h1
      · split at h
        · exact ih hQ h
        · split at h
          · exact hQ _ _ h
          · split at h
            · cases h
            · split at h
              · cases h
              · exact ih (fun v cs h2 => ih hQ h2) h
/-- a decided walk is such a walk -/
theorem zz_wp_ev : ∀ (n : Nat) {mi : zz_Mi} {σ : zz_S} {v : Option Value} {cs' : zz_W} {Q : Option Value → zz_W → Prop}, zz_ev n mi σ = some (v, cs') → Q v cs' → zz_wp n mi σ Q := by
  intro n
  induction n with
  | zero => intro mi σ v cs' Q h; cases h
  | succ n ih =>
    intro mi σ v cs' Q h hQ
    obtain ⟨pc, L, st, cs, cu, su⟩ := σ
    unfold zz_ev at h
    unfold zz_wp
    dsimp only at h ⊢
    split at h
    · cases h
    · rename_i en hf
      rw [hf]
      dsimp only
      split
      · rename_i b tt ff r hbc
        refine ⟨fun hb => ?_, fun hb => ?_⟩
        · cases tt with
          | none =>
            have h0 := zz_bc_da (L := L) hbc
            rw [hb] at h0
            obtain ⟨n1, n2, n3, n4, n5⟩ := zz_bc_no hbc
            simp only [zz_one, h0, zz_go, n1, n2, n3, n4, n5] at h
            cases h
          | some t =>
            have h1 := zz_one_bc (q := mi.2.2.2.2.2.2.1) (L := L) (cs := cs) (cu := cu) (su := su) hbc (t := t) (by rw [hb])
            rw [h1] at h
            exact ih h hQ
        · cases ff with
          | none =>
            have h0 := zz_bc_da (L := L) hbc
            rw [hb] at h0
            obtain ⟨n1, n2, n3, n4, n5⟩ := zz_bc_no hbc
            simp only [zz_one, h0, zz_go, n1, n2, n3, n4, n5] at h
            cases h
          | some t =>
            have h1 := zz_one_bc (q := mi.2.2.2.2.2.2.1) (L := L) (cs := cs) (cu := cu) (su := su) hbc (t := t) (by rw [hb])
            rw [h1] at h
            exact ih h hQ
      · split at h
        · exact ih h hQ
        · split at h
          · cases h
            exact hQ
          · split at h
            · cases h
            · split at h
              · cases h
              · split at h
                · cases h
                · rename_i v1 cs1 h1
                  exact ih h1 (ih h hQ)

/-! what isn't known isn't touched -/
def zz_le (a b : zz_W) : Prop := a.length = b.length ∧ ∀ (i : Nat) (c : zz_C), a[i]? = some (some c) → b[i]? = some (some c)
def zz_F (a b a' b' : zz_W) : Prop := zz_le a' b' ∧ ∀ i : Nat, a[i]? = some none → a'[i]? = some none ∧ b'[i]? = b[i]?
theorem zz_le.cell {a b : zz_W} (h : zz_le a b) {i : Nat} {c : zz_C} (hc : zz_cell a i = some c) : zz_cell b i = some c := by
  have h1 := h.2 i c (zz_cell_eq hc)
  unfold zz_cell
  rw [h1]
theorem zz_F.rf {a b : zz_W} (h : zz_le a b) : zz_F a b a b := ⟨h, fun _ hi => ⟨hi, rfl⟩⟩
theorem zz_F.tr {a b a' b' a2 b2 : zz_W} (h : zz_F a b a' b') (h2 : zz_F a' b' a2 b2) : zz_F a b a2 b2 := ⟨h2.1, fun i hi => by
  obtain ⟨p1, p2⟩ := h.2 i hi
  obtain ⟨p3, p4⟩ := h2.2 i p1
  exact ⟨p3, p4.trans p2⟩⟩
theorem zz_F.set {a b : zz_W} (h : zz_le a b) {i : Nat} {c0 c : zz_C} (hc : zz_cell a i = some c0) : zz_F a b (a.set i (some c)) (b.set i (some c)) := by
  have h0 := zz_cell_eq hc
  have hl : i < a.length := (List.getElem?_eq_some_iff.mp h0).1
  refine ⟨⟨by rw [List.length_set, List.length_set]; exact h.1, fun j d hj => ?_⟩, fun j hj => ?_⟩
  · by_cases hij : i = j
    · subst hij
      rw [List.getElem?_set_self hl] at hj
      rw [List.getElem?_set_self (by rw [← h.1]; exact hl)]
      exact hj
    · rw [List.getElem?_set_ne hij] at hj ⊢
      exact h.2 j d hj
  · have hij : i ≠ j := fun e => by
      subst e
      rw [h0] at hj
      cases hj
    rw [List.getElem?_set_ne hij, List.getElem?_set_ne hij]
    exact ⟨hj, rfl⟩
theorem zz_F.app {a b add : zz_W} (h : zz_le a b) : zz_F a b (a ++ add) (b ++ add) := by
  refine ⟨⟨by rw [List.length_append, List.length_append, h.1], fun j d hj => ?_⟩, fun j hj => ?_⟩
  · by_cases hl : j < a.length
    · rw [List.getElem?_append_left hl] at hj
      rw [List.getElem?_append_left (by rw [← h.1]; exact hl)]
      exact h.2 j d hj
    · rw [List.getElem?_append_right (by omega)] at hj
      rw [List.getElem?_append_right (by rw [← h.1]; omega), ← h.1]
      exact hj
  · have hl : j < a.length := (List.getElem?_eq_some_iff.mp hj).1
    rw [List.getElem?_append_left hl, List.getElem?_append_left (by rw [← h.1]; exact hl)]
    exact ⟨hj, rfl⟩
theorem zz_rc_le {a b : zz_W} (h : zz_le a b) {n ci : Nat} {st : List Value} (hc : zz_rc n st a = some ci) : zz_rc n st b = some ci := by
  obtain ⟨i, fs, h1, h2⟩ := zz_rc_ok hc
  unfold zz_rc
  rw [h1]
  dsimp only
  rw [h.cell h2]
theorem zz_db_le {ins : Instr} {r : List Nat} {v0 : Value} {pc pc' : Nat} {L L' : List (Option Value)} {st st' : List Value} {a b a' : zz_W} (h : zz_db ins r v0 pc L st a = some (pc', L', st', a')) (hle : zz_le a b) : ∃ b', zz_db ins r v0 pc L st b = some (pc', L', st', b') ∧ zz_F a b a' b' := by
  cases ins with
  | getfield idx =>
    simp only [zz_db] at h ⊢
    split at h <;> try (cases h; done)
    split at h <;> try (cases h; done)
    split at h <;> try (cases h; done)
    rename_i hc
    have hc2 := hle.cell hc
    simp only [hc2]
    split at h <;> try (cases h; done)
    rename_i hcj
    simp only [hcj, if_true]
    split at h <;> try (cases h; done)
    rename_i hv
    cases h
    simp only [hv]
    exact ⟨b, rfl, zz_F.rf hle⟩
  | putfield idx =>
    simp only [zz_db] at h ⊢
    split at h <;> try (cases h; done)
    split at h <;> try (cases h; done)
    split at h <;> try (cases h; done)
    rename_i hc
    have hc2 := hle.cell hc
    simp only [hc2]
    split at h <;> try (cases h; done)
    rename_i hcj
    cases h
    rw [if_pos hcj]
    exact ⟨_, rfl, zz_F.set hle hc⟩
  | iaload =>
    simp only [zz_db] at h ⊢
    split at h <;> try (cases h; done)
    split at h <;> try (cases h; done)
    rename_i hc
    have hc2 := hle.cell hc
    simp only [hc2]
    split at h <;> try (cases h; done)
    rename_i hcj
    cases h
    rw [if_pos hcj]
    exact ⟨b, rfl, zz_F.rf hle⟩
  | iastore =>
    simp only [zz_db] at h ⊢
    split at h <;> try (cases h; done)
    split at h <;> try (cases h; done)
    rename_i hc
    have hc2 := hle.cell hc
    simp only [hc2]
    split at h <;> try (cases h; done)
    rename_i hcj
    cases h
    rw [if_pos hcj]
    exact ⟨_, rfl, zz_F.set hle hc⟩
  | aaload =>
    simp only [zz_db] at h ⊢
    split at h <;> try (cases h; done)
    split at h <;> try (cases h; done)
    rename_i hc
    have hc2 := hle.cell hc
    simp only [hc2]
    split at h <;> try (cases h; done)
    rename_i hcj
    cases h
    rw [if_pos hcj]
    exact ⟨b, rfl, zz_F.rf hle⟩
  | aastore =>
    simp only [zz_db] at h ⊢
    split at h <;> try (cases h; done)
    split at h <;> try (cases h; done)
    split at h <;> try (cases h; done)
    rename_i hc
    have hc2 := hle.cell hc
    simp only [hc2]
    split at h <;> try (cases h; done)
    rename_i hcv
    have hcv2 := hle.cell hcv
    simp only [hcv2]
    split at h <;> try (cases h; done)
    rename_i hcj
    cases h
    rw [if_pos hcj]
    exact ⟨_, rfl, zz_F.set hle hc⟩
  | arraylength =>
    simp only [zz_db] at h ⊢
    split at h <;> try (cases h; done)
    split at h <;> try (cases h; done)
    · rename_i hc
      have hc2 := hle.cell hc
      simp only [hc2]
      cases h
      exact ⟨b, rfl, zz_F.rf hle⟩
    · rename_i hc
      have hc2 := hle.cell hc
      simp only [hc2]
      split at h <;> try (cases h; done)
      rename_i hcj
      cases h
      rw [if_pos hcj]
      exact ⟨b, rfl, zz_F.rf hle⟩
  | ldc idx => cases h; exact ⟨b, rfl, zz_F.rf hle⟩
  | ldc_w idx => cases h; exact ⟨b, rfl, zz_F.rf hle⟩
  | ldc2_w idx => cases h; exact ⟨b, rfl, zz_F.rf hle⟩
  | _ => exact absurd (show (none : zz_O2) = some _ from h) (by simp)
theorem zz_al_le2 {ins : Instr} {r : List Nat} {Bc Bs pc pc' cu su cu' su' : Nat} {L L' : List (Option Value)} {st st' : List Value} {a b a' : zz_W} (h : zz_al ins r Bc Bs pc L st a cu su = some (pc', L', st', a', cu', su')) (hle : zz_le a b) : (∀ (v0 : Value) (cs : zz_W), zz_db ins r v0 pc L st cs = none) ∧ ∃ b', zz_al ins r Bc Bs pc L st b cu su = some (pc', L', st', b', cu', su') ∧ zz_F a b a' b' := by
  cases ins with
  | new idx =>
    refine ⟨fun _ _ => rfl, ?_⟩
    simp only [zz_al] at h ⊢
    split at h <;> try (cases h; done)
    split at h <;> try (cases h; done)
    rename_i hq
    simp only [hq]
    split at h <;> try (cases h; done)
    rename_i hc
    cases h
    rw [← hle.1, if_pos hc]
    exact ⟨_, rfl, zz_F.app hle⟩
  | newarray idx =>
    refine ⟨fun _ _ => rfl, ?_⟩
    simp only [zz_al] at h ⊢
    split at h <;> try (cases h; done)
    split at h <;> try (cases h; done)
    rename_i hc
    cases h
    rw [← hle.1, if_pos hc]
    exact ⟨_, rfl, zz_F.app hle⟩
  | anewarray idx =>
    refine ⟨fun _ _ => rfl, ?_⟩
    simp only [zz_al] at h ⊢
    split at h <;> try (cases h; done)
    split at h <;> try (cases h; done)
    split at h <;> try (cases h; done)
    rename_i hc
    cases h
    rw [← hle.1, if_pos hc]
    exact ⟨_, rfl, zz_F.app hle⟩
  | multianewarray idx dims =>
    refine ⟨fun _ _ => rfl, ?_⟩
    simp only [zz_al] at h ⊢
    split at h <;> try (cases h; done)
    split at h <;> try (cases h; done)
    split at h <;> try (cases h; done)
    rename_i hc
    cases h
    rw [← hle.1, if_pos hc]
    exact ⟨_, rfl, zz_F.app hle⟩
  | _ => exact absurd (show (none : zz_O3) = some _ from h) (by simp)
theorem zz_na_le {ins : Instr} {r : List Nat} {fr lo pc pc' : Nat} {L L' : List (Option Value)} {st st' : List Value} {a b a' : zz_W} (h : zz_na ins r fr lo pc L st a = some (pc', L', st', a')) (hle : zz_le a b) : ((∀ (v0 : Value) (cs : zz_W), zz_db ins r v0 pc L st cs = none) ∧ ∀ (Bc Bs : Nat) (cs : zz_W) (cu su : Nat), zz_al ins r Bc Bs pc L st cs cu su = none) ∧ ∃ b', zz_na ins r fr lo pc L st b = some (pc', L', st', b') ∧ zz_F a b a' b' := by
  cases ins with
  | invokespecial idx =>
    refine ⟨⟨fun _ _ => rfl, fun _ _ _ _ _ => rfl⟩, ?_⟩
    simp only [zz_na] at h ⊢
    split at h <;> try (cases h; done)
    split at h <;> try (cases h; done)
    split at h <;> try (cases h; done)
    rename_i hc
    cases h
    rw [if_pos hc]
    exact ⟨_, rfl, zz_F.rf hle⟩
  | invokestatic idx =>
    refine ⟨⟨fun _ _ => rfl, fun _ _ _ _ _ => rfl⟩, ?_⟩
    simp only [zz_na] at h ⊢
    split at h <;> try (cases h; done)
    · split at h <;> try (cases h; done)
      split at h <;> try (cases h; done)
      rename_i hc
      cases h
      rw [if_pos hc]
      exact ⟨_, rfl, zz_F.rf hle⟩
    · split at h <;> try (cases h; done)
      split at h <;> try (cases h; done)
      rename_i hc
      cases h
      rw [if_pos hc]
      exact ⟨_, rfl, zz_F.rf hle⟩
    · split at h <;> try (cases h; done)
      split at h <;> try (cases h; done)
      rename_i hci
      have hci2 := hle.cell hci
      simp only [hci2]
      split at h <;> try (cases h; done)
      rename_i hcj
      have hcj2 := hle.cell hcj
      simp only [hcj2]
      split at h <;> try (cases h; done)
      rename_i hc
      cases h
      rw [if_pos hc]
      exact ⟨_, rfl, zz_F.set hle hcj⟩
  | _ => exact absurd (show (none : zz_O2) = some _ from h) (by simp)
theorem zz_one_le {q : Nat × Nat × Nat × Nat} {e : zz_I} {pc pc' cu su cu' su' : Nat} {L L' : List (Option Value)} {st st' : List Value} {a b a' : zz_W} (h : zz_one q e (pc, L, st, a, cu, su) = some (pc', L', st', a', cu', su')) (hle : zz_le a b) : ∃ b', zz_one q e (pc, L, st, b, cu, su) = some (pc', L', st', b', cu', su') ∧ zz_F a b a' b' := by
  simp only [zz_one] at h ⊢
  split at h
  · cases h
    exact ⟨b, rfl, zz_F.rf hle⟩
  · split at h
    · rename_i h1
      cases h
      obtain ⟨b', h2, h3⟩ := zz_db_le h1 hle
      rw [h2]
      exact ⟨b', rfl, h3⟩
    · split at h
      · rename_i h1
        cases h
        obtain ⟨h0, b', h2, h3⟩ := zz_al_le2 h1 hle
        rw [h0, h2]
        exact ⟨b', rfl, h3⟩
      · split at h
        · rename_i h1
          cases h
          obtain ⟨⟨h0, h4⟩, b', h2, h3⟩ := zz_na_le h1 hle
          rw [h0, h4, h2]
          exact ⟨b', rfl, h3⟩
        · cases h
theorem zz_rt1_no {ins : Instr} {ret : Option FieldType} {st : List Value} {v : Option Value} (h : zz_rt1 ins ret st = some v) (q : Nat × Nat × Nat × Nat) (r : List Nat) (v0 : Value) (len pc0 : Nat) (σ : zz_S) : zz_one q (pc0, ins, len, r, v0) σ = none := by
  cases ins with
  | ireturn => rfl
  | lreturn => rfl
  | return_ => rfl
  | _ => exact absurd (show (none : Option (Option Value)) = some _ from h) (by simp)
theorem zz_ca_no {ins : Instr} {r : List Nat} {st : List Value} {a : zz_W} {mk : zz_Mi} (h : zz_ca ins r st a = some mk) (q : Nat × Nat × Nat × Nat) (v0 : Value) (len pc0 : Nat) (σ : zz_S) : zz_one q (pc0, ins, len, r, v0) σ = none ∧ zz_bc ins σ.1 σ.2.2.1 = none := by
  cases ins with
  | invokestatic idx =>
    simp only [zz_ca] at h
    split at h <;> first | exact ⟨rfl, rfl⟩ | cases h
  | invokespecial idx =>
    simp only [zz_ca] at h
    split at h <;> first | exact ⟨rfl, rfl⟩ | cases h
  | invokevirtual idx => exact ⟨rfl, rfl⟩
  | _ => exact absurd (show (none : Option zz_Mi) = some _ from h) (by simp)
theorem zz_ca_le {ins : Instr} {r : List Nat} {st : List Value} {a b : zz_W} {mk : zz_Mi} (h : zz_ca ins r st a = some mk) (hle : zz_le a b) : zz_ca ins r st b = some mk := by
  cases ins with
  | invokestatic idx =>
    simp only [zz_ca] at h ⊢
    split at h <;> first | exact h | cases h
  | invokespecial idx =>
    simp only [zz_ca] at h ⊢
    split at h <;> try (cases h; done)
    all_goals
      split at h <;> try (cases h; done)
      rename_i hm
      simp only [hm]
      split at h <;> try (cases h; done)
      rename_i hr
      rw [zz_rc_le hle hr]
      exact h
  | invokevirtual idx =>
    simp only [zz_ca] at h ⊢
    split at h <;> try (cases h; done)
    all_goals
      split at h <;> try (cases h; done)
      rename_i hm
      simp only [hm]
      split at h <;> try (cases h; done)
      rename_i hr
      rw [zz_rc_le hle hr]
      exact h
  | _ => exact absurd (show (none : Option zz_Mi) = some _ from h) (by simp)
/-- a walk over some of the cells is one over all -/
theorem zz_wp_le : ∀ (n : Nat) {mi : zz_Mi} {pc cu su : Nat} {L : List (Option Value)} {st : List Value} {a b : zz_W} {Q : Option Value → zz_W → Prop}, zz_wp n mi (pc, L, st, a, cu, su) Q → zz_le a b → zz_wp n mi (pc, L, st, b, cu, su) (fun v b' => ∃ a', Q v a' ∧ zz_F a b a' b') := by
  intro n
  induction n with
  | zero => intro mi pc cu su L st a b Q h; cases h
  | succ n ih =>
    intro mi pc cu su L st a b Q h hle
    unfold zz_wp at h ⊢
    dsimp only at h ⊢
    split at h
    · cases h
    · rename_i en hf
      rw [hf]
      dsimp only
      split at h
      · rename_i bb tt ff r hbc
        rw [hbc]
        dsimp only
        refine ⟨fun hb => ?_, fun hb => ?_⟩
        · have h1 := h.1 hb
          split at h1
          · exact ih h1 hle
          · cases h1
        · have h1 := h.2 hb
          split at h1
          · exact ih h1 hle
          · cases h1
      · rename_i hbc
        rw [hbc]
        dsimp only
        split at h
        · rename_i σ' h1
          obtain ⟨pc', L', st', a1, cu', su'⟩ := σ'
          obtain ⟨b1, h2, h3⟩ := zz_one_le h1 hle
          rw [h2]
          exact zz_wp_mono n (fun v b' ⟨a', q1, q2⟩ => ⟨a', q1, h3.tr q2⟩) (ih h h3.1)
        · obtain ⟨pc0, ins, len, r, v0⟩ := en
          dsimp only at h ⊢
          split at h
          · rename_i v1 h1
            rw [zz_rt1_no h1]
            dsimp only
            rw [h1]
            exact ⟨a, h, zz_F.rf hle⟩
          · rename_i hrt
            split at h
            · cases h
            · rename_i mk hcl
              rw [(zz_ca_no hcl _ _ _ _ _).1]
              dsimp only
              rw [hrt, zz_ca_le hcl hle]
              dsimp only
              split at h
              · cases h
              · rename_i hc
                have hc2 : zz_cok2 mi.2.2.2.2.2.2.1 mk (pc, L, st, b, cu, su) = true := hc
                rw [hc2]
                dsimp only
                refine zz_wp_mono n ?_ (ih h hle)
                rintro v b' ⟨a', q1, q2⟩
                exact zz_wp_mono n (fun v b2 ⟨a2, q3, q4⟩ => ⟨a2, q3, q2.tr q4⟩) (ih q1 q2.1)
