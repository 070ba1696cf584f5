section ZZ6
variable {g : zz_G} {l : Launch}
theorem zz_en_mem {i : Nat} {v : Value} : ∀ (as : List Value) (j : Nat), (zz_en as)[i]? = some (some v) → (j + i, zz_tr g v) ∈ lv_args j (as.map (zz_tr g))
  | [], _, h => by simp [zz_en] at h
  | w :: as, j, h => by
    unfold zz_en at h
    rw [List.map_cons]
    unfold lv_args
    rw [zz_tr_cat]
    split at h
    · rename_i hc
      rw [if_pos hc]
      match i, h with
      | 0, h =>
        cases h
        exact List.mem_cons_self
      | 1, h => cases h
      | i + 2, h =>
        have := zz_en_mem as (j + 2) (show (zz_en as)[i]? = some (some v) from h)
        rw [show j + (i + 2) = j + 2 + i by omega]
        exact List.mem_cons_of_mem _ this
    · rename_i hc
      rw [if_neg hc]
      match i, h with
      | 0, h =>
        cases h
        exact List.mem_cons_self
      | i + 1, h =>
        have := zz_en_mem as (j + 1) (show (zz_en as)[i]? = some (some v) from h)
        rw [show j + (i + 1) = j + 1 + i by omega]
        exact List.mem_cons_of_mem _ this
theorem zz_en_len : ∀ (as : List Value), (lg_sl (as.map (zz_tr g))).length = (zz_en as).length
  | [] => rfl
  | w :: as => by
    have ih := zz_en_len as
    unfold lg_sl at ih ⊢
    rw [List.map_cons, List.flatMap_cons, List.length_append, ih, zz_tr_cat]
    rw [show zz_en (w :: as) = if w.category = 2 then some w :: none :: zz_en as else some w :: zz_en as from rfl]
    split
    · simp only [List.length_cons, List.length_nil]
      omega
    · simp only [List.length_cons, List.length_nil]
      omega
theorem zz_ent_as {nL i : Nat} {as : List Value} {v : Value} (h : (zz_ent nL as)[i]? = some (some v)) : (zz_en as)[i]? = some (some v) := by
  unfold zz_ent at h
  by_cases hl : i < (zz_en as).length
  · rwa [List.getElem?_append_left hl] at h
  · rw [List.getElem?_append_right (by omega), List.getElem?_replicate] at h
    split at h <;> cases h
/-- a contract out of a walk from the method's entry -/
theorem zz_Met_of {mi : zz_Mi} {as : List Value} {cs : zz_W} {P : Option Value → zz_W → Prop} (hmok : zz_mok mi = true) (hcd : zz_cdk mi = true) (hlen : (zz_en as).length ≤ mi.2.2.1)
    (body : ∀ (p : Program) (e : Env) (R : Room) (s : State) (m : MethodId) (args : Array Value) (below : List Frame) (meth : Method) (c : Code), zz_X g p R s m meth c mi → meth.sig.returnType = mi.2.2.2.1 → meth.locks = false → zz_Z g cs p l e R s m args below meth c (zz_Q1 g cs below args s mi P) mi.2.2.1 0 (zz_ent mi.2.2.1 as) [] cs 0 0) : zz_Met l g mi as cs P := by
  obtain ⟨y, b, mL, ret, n, stt, ⟨mc, ms, fr, lo⟩, ⟨w0, w1, w2⟩, code⟩ := mi
  have hm := hmok
  simp only [zz_mok, Bool.and_eq_true, decide_eq_true_eq] at hm
  refine Met.ofW (cc := b) (maxL := mL) (ret := ret) hm.2.2.2.1 rfl ?_
  intro p e s m args below meth c s₁ B hml hv
  obtain ⟨rfl, hP, hK, hT⟩ := hv
  have X : zz_X g p (zz_rm (mc, ms, fr, lo)) s m meth c (y, b, mL, ret, n, stt, (mc, ms, fr, lo), (w0, w1, w2), code) := ⟨B.exec, B.bytes, hml, findClass_of_methodNamed B.named, hT, hK, fun hn => ((name_of_methodNamed B.named B.method).1).trans hn, rfl, hcd⟩
  have hl := lv_entry (as.map (zz_tr g)) (n := mL) (by rw [zz_en_len]; exact hlen)
  rw [lg_entry_eq]
  refine body p e (zz_rm (mc, ms, fr, lo)) s m _ below meth c X B.returns B.notSynchronized ?_ s.heap [] _ ⟨hP, Nat.le_refl _, fun _ _ => rfl, fun q h => (by cases h), fun i hi => ⟨hi, rfl⟩⟩ ⟨hl.1, hl.2.1, fun q hq => ?_⟩
  · show (zz_ent mL as).length = mL
    unfold zz_ent
    rw [List.length_append, List.length_replicate]
    have hlen9 : (zz_en as).length ≤ mL := hlen
    omega
  · obtain ⟨v, hv, he⟩ := zz_as_of hq
    refine hl.2.2 q ?_
    have h1 := zz_en_mem (g := g) as 0 (zz_ent_as hv)
    rw [Nat.zero_add, ← he] at h1
    exact h1
theorem zz_ca_mem {ins : Instr} {r : List Nat} {st : List Value} {cs : zz_W} {mk : zz_Mi} (h : zz_ca ins r st cs = some mk) : mk ∈ zz_mts := by
  unfold zz_ca at h
  repeat' split at h
  all_goals first | (cases h; done) | (cases h; exact List.mem_of_getElem? (by assumption)) | exact List.mem_of_getElem? h
/-- the evaluator's walk is the machine's -/
theorem zz_ev_ok : ∀ (n : Nat) {c0 : zz_W} {mi : zz_Mi} {σ : zz_S} {v : Option Value} {cs' : zz_W} {P : Option Value → zz_W → Prop}, zz_ev n mi σ = some (v, cs') → P v cs' → ∀ (p : Program) (e : Env) (R : Room) (s : State) (m : MethodId) (args : Array Value) (below : List Frame) (meth : Method) (c : Code), zz_X g p R s m meth c mi → meth.sig.returnType = mi.2.2.2.1 → meth.locks = false → σ.2.2.2.2.1 ≤ mi.2.2.2.2.2.2.1.1 ∧ σ.2.2.2.2.2 ≤ mi.2.2.2.2.2.2.1.2.1 → zz_Z g c0 p l e R s m args below meth c (zz_Q1 g c0 below args s mi P) mi.2.2.1 σ.1 σ.2.1 σ.2.2.1 σ.2.2.2.1 σ.2.2.2.2.1 σ.2.2.2.2.2 := by
  intro n
  induction n with
  | zero => intro c0 mi σ v cs' P h; cases h
  | succ n ih =>
    intro c0 mi σ v cs' P h hP p e R s m args below meth c X hr hlk hB
    obtain ⟨pc, L, st, cs, cu, su⟩ := σ
    dsimp only at hB ⊢
    have hRr : R = zz_rm mi.2.2.2.2.2.2.1 := X.2.2.2.2.2.2.2.1
    unfold zz_ev at h
    dsimp only at h
    split at h
    · cases h
    · rename_i en hf
      split at h
      · rename_i σ' h1
        obtain ⟨pc', L', st', cs1, cu', su'⟩ := σ'
        exact zz_step X (by rw [hRr]; exact hB) hf h1 (fun hB' => ih h hP p e R s m args below meth c X hr hlk (by rw [hRr] at hB'; exact hB'))
      · split at h
        · rename_i v1 h1
          cases h
          exact zz_end X hr hlk hP hB hf h1
        · split at h
          · cases h
          · rename_i mk hcl
            split at h
            · cases h
            · rename_i hc
              simp only [zz_cok2, Bool.and_eq_true, decide_eq_true_eq] at hc
              obtain ⟨q1, q2, q3, q4, q5, q6, q7⟩ := hc
              split at h
              · cases h
              · rename_i v1 cs1 h1
                have hmem := zz_ca_mem hcl
                refine zz_call X hf hcl q1 q2 (by rw [hRr]; exact ⟨q3, q4⟩) (by rw [hRr]; exact ⟨q6, q7⟩) (P := fun v' cs' => v' = v1 ∧ cs' = cs1) (zz_Met_of (zz_mok_mem mk hmem) (zz_cdk_mem mk hmem) q5 (fun p e R s m args below meth c X hr hlk => ih h1 ⟨rfl, rfl⟩ p e R s m args below meth c X hr hlk ⟨Nat.zero_le _, Nat.zero_le _⟩)) ?_
                rintro v2 cs2 ⟨rfl, rfl⟩
                exact ih h hP p e R s m args below meth c X hr hlk ⟨q3, q4⟩
/-- a contract out of an evaluation -/
theorem zz_Met_ev (n : Nat) {mi : zz_Mi} {as : List Value} {cs cs' : zz_W} {v : Option Value} {P : Option Value → zz_W → Prop} (hmem : mi ∈ zz_mts) (hlen : (zz_en as).length ≤ mi.2.2.1) (h : zz_ev n mi (0, zz_ent mi.2.2.1 as, [], cs, 0, 0) = some (v, cs')) (hP : P v cs') : zz_Met l g mi as cs P :=
  zz_Met_of (zz_mok_mem mi hmem) (zz_cdk_mem mi hmem) hlen (fun p e R s m args below meth c X hr hlk => zz_ev_ok n h hP p e R s m args below meth c X hr hlk ⟨Nat.zero_le _, Nat.zero_le _⟩)
end ZZ6
/-! evaluations that the kernel decides -/
def zz_eqC : Option zz_C → Option zz_C → Bool
  | none, none => true
  | some (.inl xs), some (.inl ys) => decide (xs = ys)
  | some (.inr (.inl (t, rs))), some (.inr (.inl (u, qs))) => decide (t = u) && decide (rs = qs)
  | some (.inr (.inr (c, fs))), some (.inr (.inr (d, gs))) => decide (c = d) && decide (fs = gs)
  | _, _ => false
theorem zz_eqC_ok : ∀ {a b : Option zz_C}, zz_eqC a b = true → a = b
  | none, none, _ => rfl
  | some (.inl xs), some (.inl ys), h => by
    simp only [zz_eqC, decide_eq_true_eq] at h
    rw [h]
  | some (.inr (.inl (t, rs))), some (.inr (.inl (u, qs))), h => by
    simp only [zz_eqC, Bool.and_eq_true, decide_eq_true_eq] at h
    rw [h.1, h.2]
  | some (.inr (.inr (c, fs))), some (.inr (.inr (d, gs))), h => by
    simp only [zz_eqC, Bool.and_eq_true, decide_eq_true_eq] at h
    rw [h.1, h.2]
  | none, some (.inl _), h => by cases h
  | none, some (.inr (.inl _)), h => by cases h
  | none, some (.inr (.inr _)), h => by cases h
  | some (.inl _), none, h => by cases h
  | some (.inr (.inl _)), none, h => by cases h
  | some (.inr (.inr _)), none, h => by cases h
  | some (.inl _), some (.inr (.inl _)), h => by cases h
  | some (.inl _), some (.inr (.inr _)), h => by cases h
  | some (.inr (.inl _)), some (.inl _), h => by cases h
  | some (.inr (.inr _)), some (.inl _), h => by cases h
  | some (.inr (.inl _)), some (.inr (.inr _)), h => by cases h
  | some (.inr (.inr _)), some (.inr (.inl _)), h => by cases h
def zz_eqW : zz_W → zz_W → Bool
  | [], [] => true
  | a :: as, b :: bs => zz_eqC a b && zz_eqW as bs
  | _, _ => false
theorem zz_eqW_ok : ∀ {a b : zz_W}, zz_eqW a b = true → a = b
  | [], [], _ => rfl
  | a :: as, b :: bs, h => by
    simp only [zz_eqW, Bool.and_eq_true] at h
    rw [zz_eqC_ok h.1, zz_eqW_ok h.2]
  | [], _ :: _, h => by cases h
  | _ :: _, [], h => by cases h
def zz_evc (n : Nat) (mi : zz_Mi) (σ : zz_S) (v : Option Value) (cs : zz_W) : Bool := match zz_ev n mi σ with
  | some (v1, cs1) => decide (v1 = v) && zz_eqW cs1 cs
  | none => false
theorem zz_evc_ok {n : Nat} {mi : zz_Mi} {σ : zz_S} {v : Option Value} {cs : zz_W} (h : zz_evc n mi σ v cs = true) : zz_ev n mi σ = some (v, cs) := by
  unfold zz_evc at h
  split at h
  · rename_i v1 cs1 h1
    simp only [Bool.and_eq_true, decide_eq_true_eq] at h
    rw [h1, h.1, zz_eqW_ok h.2]
  · cases h
