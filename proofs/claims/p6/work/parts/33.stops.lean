/-! contracts for whole walks: loops and calls are stops -/
def zz_Gm (mi : zz_Mi) (as : List Value) (cs : zz_W) (K : Option Value → zz_W → Prop) : Prop := ∀ (l : Launch) (g : zz_G), zz_Met l g mi as cs K
/-- a call: the callee is one of ours, its arguments fit -/
def zz_Gc (mi : zz_Mi) (as : List Value) (cs : zz_W) (K : Option Value → zz_W → Prop) : Prop := mi ∈ zz_mts → (zz_en as).length ≤ mi.2.2.1 → zz_Gm mi as cs K
def zz_Gs (mi : zz_Mi) (σ : zz_S) (Q : Option Value → zz_W → Prop) : Prop := ∀ (c0 : zz_W) (g : zz_G) (p : Program) (l : Launch) (e : Env) (R : Room) (s : State) (m : MethodId) (args : Array Value) (below : List Frame) (meth : Method) (c : Code), zz_X g p R s m meth c mi → meth.sig.returnType = mi.2.2.2.1 → meth.locks = false → σ.2.2.2.2.1 ≤ mi.2.2.2.2.2.2.1.1 ∧ σ.2.2.2.2.2 ≤ mi.2.2.2.2.2.2.1.2.1 → zz_Z g c0 p l e R s m args below meth c (zz_Q1 g c0 below args s mi Q) mi.2.2.1 σ.1 σ.2.1 σ.2.2.1 σ.2.2.2.1 σ.2.2.2.2.1 σ.2.2.2.2.2
abbrev zz_T : Type := List (Option Value) × List Value × zz_W × Nat × Nat
def zz_w1 (W : zz_Mi → Nat → zz_T → (Option Value → zz_W → Prop) → Prop) (mi : zz_Mi) (pc : Nat) (σ : zz_T) (Q : Option Value → zz_W → Prop) : Prop := match zz_fetch mi.2.2.2.2.2.2.2.2 pc with
  | none => False
  | some e => match zz_bc e.2.1 pc σ.2.1 with
    | some (b, t, f, r) => (b = true → match t with
        | some t => W mi t (σ.1, r, σ.2.2) Q
        | none => False) ∧ (b = false → match f with
        | some f => W mi f (σ.1, r, σ.2.2) Q
        | none => False)
    | none => match zz_one mi.2.2.2.2.2.2.1 e (pc, σ) with
      | some (pc', σ') => W mi pc' σ' Q
      | none => match zz_rt1 e.2.1 mi.2.2.2.1 σ.2.1 with
        | some v => Q v σ.2.2.1
        | none => match zz_ca e.2.1 e.2.2.2.1 σ.2.1 σ.2.2.1 with
          | none => False
          | some mj => match zz_cok2 mi.2.2.2.2.2.2.1 mj (pc, σ) with
            | false => False
            | true => zz_Gc mj (σ.2.1.take (zz_cn mj)).reverse σ.2.2.1 (fun v cs' => W mi (pc + 3) (σ.1, v.toList ++ σ.2.1.drop (zz_cn mj), cs', σ.2.2.2.1 + mj.2.2.2.2.2.2.1.1, σ.2.2.2.2 + mj.2.2.2.2.2.2.1.2.1) Q)
def zz_wq (stop : Nat → Bool) : Nat → zz_Mi → Nat → zz_T → (Option Value → zz_W → Prop) → Prop
  | 0, mi, pc, σ, Q => zz_Gs mi (pc, σ) Q
  | n + 1, mi, pc, σ, Q => match stop pc with
    | true => zz_Gs mi (pc, σ) Q
    | false => zz_w1 (zz_wq stop n) mi pc σ Q
theorem zz_w1_ok {W : zz_Mi → Nat → zz_T → (Option Value → zz_W → Prop) → Prop} (hW : ∀ mi pc σ Q, W mi pc σ Q → zz_Gs mi (pc, σ) Q) {mi : zz_Mi} {pc : Nat} {σ : zz_T} {Q : Option Value → zz_W → Prop} (h : zz_w1 W mi pc σ Q) : zz_Gs mi (pc, σ) Q := by
  intro c0 g p l e R s m args below meth c X hr hlk hB
  obtain ⟨L, st, cs, cu, su⟩ := σ
  dsimp only at hB ⊢
  have hRr : R = zz_rm mi.2.2.2.2.2.2.1 := X.2.2.2.2.2.2.2.1
  have fits : ∀ {a b : Nat}, a ≤ R.cells ∧ b ≤ R.slots → a ≤ mi.2.2.2.2.2.2.1.1 ∧ b ≤ mi.2.2.2.2.2.2.1.2.1 := fun hq => by rw [hRr] at hq; exact hq
  unfold zz_w1 at h
  dsimp only at h
  split at h
  · cases h
  · rename_i en hf
    split at h
    · rename_i b tt ff r hbc
      cases hb : b with
      | true =>
        have h1 := h.1 hb
        split at h1
        · rename_i t
          exact zz_step X (by rw [hRr]; exact hB) hf (zz_one_bc hbc (by rw [hb]; rfl)) (fun hB' => hW _ _ _ _ h1 c0 g p l e R s m args below meth c X hr hlk (fits hB'))
        · cases h1
      | false =>
        have h1 := h.2 hb
        split at h1
        · rename_i t
          exact zz_step X (by rw [hRr]; exact hB) hf (zz_one_bc hbc (by rw [hb]; rfl)) (fun hB' => hW _ _ _ _ h1 c0 g p l e R s m args below meth c X hr hlk (fits hB'))
        · cases h1
    · split at h
      · rename_i pc' σ' h1
        obtain ⟨L', st', cs1, cu', su'⟩ := σ'
        exact zz_step X (by rw [hRr]; exact hB) hf h1 (fun hB' => hW _ _ _ _ h c0 g p l e R s m args below meth c X hr hlk (fits hB'))
      · split at h
        · rename_i v1 h1
          exact zz_end X hr hlk h hB hf h1
        · split at h
          · cases h
          · rename_i mk hcl
            split at h
            · cases h
            · rename_i hc
              simp only [zz_cok2, Bool.and_eq_true, decide_eq_true_eq] at hc
              obtain ⟨q1, q2, q3, q4, q5, q6, q7⟩ := hc
              refine zz_call X hf hcl q1 q2 (by rw [hRr]; exact ⟨q3, q4⟩) (by rw [hRr]; exact ⟨q6, q7⟩) (h (zz_ca_mem hcl) q5 l g) ?_
              intro v2 cs2 h2
              exact hW _ _ _ _ h2 c0 g p l e R s m args below meth c X hr hlk ⟨q3, q4⟩
theorem zz_wq_ok (stop : Nat → Bool) : ∀ (n : Nat) (mi : zz_Mi) (pc : Nat) (σ : zz_T) (Q : Option Value → zz_W → Prop), zz_wq stop n mi pc σ Q → zz_Gs mi (pc, σ) Q := by
  intro n
  induction n with
  | zero => exact fun mi pc σ Q h => h
  | succ n ih =>
    intro mi pc σ Q h
    unfold zz_wq at h
    split at h
    · exact h
    · exact zz_w1_ok ih h
/-- from a stop on, to the next ones -/
theorem zz_Gs_go (stop : Nat → Bool) (n : Nat) {mi : zz_Mi} {pc : Nat} {σ : zz_T} {Q : Option Value → zz_W → Prop} (h : zz_w1 (zz_wq stop n) mi pc σ Q) : zz_Gs mi (pc, σ) Q := zz_w1_ok (zz_wq_ok stop n) h
/-- a method from its entry -/
theorem zz_Gm_go (stop : Nat → Bool) (n : Nat) {mi : zz_Mi} {as : List Value} {cs : zz_W} {K : Option Value → zz_W → Prop} (hmem : mi ∈ zz_mts) (hlen : (zz_en as).length ≤ mi.2.2.1) (h : zz_wq stop n mi 0 (zz_ent mi.2.2.1 as, [], cs, 0, 0) K) : zz_Gm mi as cs K := fun l g =>
  zz_Met_of (zz_mok_mem mi hmem) (zz_cdk_mem mi hmem) hlen (fun p e R s m args below meth c X hr hlk => zz_wq_ok stop n _ _ _ _ h cs g p l e R s m args below meth c X hr hlk ⟨Nat.zero_le _, Nat.zero_le _⟩)
theorem zz_Gm.mono {mi : zz_Mi} {as : List Value} {cs : zz_W} {K K' : Option Value → zz_W → Prop} (h : zz_Gm mi as cs K) (hK : ∀ v cs', K v cs' → K' v cs') : zz_Gm mi as cs K' := fun l g => by
  have h0 := h l g
  unfold zz_Met Met at h0 ⊢
  exact MetFree.mono h0 (fun _ _ x => x) (fun _ _ _ _ _ x => x) (fun a s o t _ hq => ⟨by
    obtain ⟨⟨v, cs', h1, h2, h3⟩, -⟩ := hq
    exact ⟨v, cs', h1, hK v cs' h2, h3⟩, hq.2⟩)
def zz_ov : zz_W → zz_W → zz_W → zz_W
  | none :: as, x :: bs, _ :: ys => x :: zz_ov as bs ys
  | some _ :: as, _ :: bs, y :: ys => y :: zz_ov as bs ys
  | _, _, ys => ys
theorem zz_ov_len : ∀ (a b y : zz_W), (zz_ov a b y).length = y.length
  | none :: as, x :: bs, _ :: ys => by simp [zz_ov, zz_ov_len as bs ys]
  | some _ :: as, _ :: bs, y :: ys => by simp [zz_ov, zz_ov_len as bs ys]
  | [], _, _ => by simp [zz_ov]
  | none :: _, [], _ => by simp [zz_ov]
  | some _ :: _, [], _ => by simp [zz_ov]
  | none :: _, _ :: _, [] => by simp [zz_ov]
  | some _ :: _, _ :: _, [] => by simp [zz_ov]
theorem zz_ov_un : ∀ {a b y : zz_W} {i : Nat}, a.length = b.length → a.length ≤ y.length → a[i]? = some none → (zz_ov a b y)[i]? = b[i]?
  | none :: as, x :: bs, _ :: ys, 0, _, _, _ => by simp [zz_ov]
  | none :: as, x :: bs, _ :: ys, i + 1, h1, h2, h3 => by
    simp only [zz_ov, List.getElem?_cons_succ] at h3 ⊢
    exact zz_ov_un (by simpa using h1) (by simpa using h2) h3
  | some _ :: as, _ :: bs, y :: ys, 0, _, _, h3 => by simp at h3
  | some _ :: as, _ :: bs, y :: ys, i + 1, h1, h2, h3 => by
    simp only [zz_ov, List.getElem?_cons_succ] at h3 ⊢
    exact zz_ov_un (by simpa using h1) (by simpa using h2) h3
  | [], _, _, _, _, _, h3 => by simp at h3
  | _ :: _, [], _, _, h1, _, _ => by simp at h1
  | _ :: _, _ :: _, [], _, _, h2, _ => by simp at h2
theorem zz_ov_kn : ∀ {a b y : zz_W} {i : Nat}, a[i]? ≠ some none → (zz_ov a b y)[i]? = y[i]?
  | none :: as, x :: bs, _ :: ys, 0, h => by simp at h
  | none :: as, x :: bs, _ :: ys, i + 1, h => by
    simp only [zz_ov, List.getElem?_cons_succ] at h ⊢
    exact zz_ov_kn h
  | some _ :: as, _ :: bs, y :: ys, 0, h => by simp [zz_ov]
  | some _ :: as, _ :: bs, y :: ys, i + 1, h => by
    simp only [zz_ov, List.getElem?_cons_succ] at h ⊢
    exact zz_ov_kn h
  | [], _, _, _, _ => by simp [zz_ov]
  | none :: _, [], _, _, _ => by simp [zz_ov]
  | some _ :: _, [], _, _, _ => by simp [zz_ov]
  | none :: _, _ :: _, [], _, _ => by simp [zz_ov]
  | some _ :: _, _ :: _, [], _, _ => by simp [zz_ov]
/-- a contract over some of the cells is one over all: the frame -/
theorem zz_Gm.le {mi : zz_Mi} {as : List Value} {a b : zz_W} {K : Option Value → zz_W → Prop} (h : zz_Gm mi as a K) (hle : zz_le a b) : zz_Gm mi as b (fun v b' => ∃ a', K v a' ∧ zz_F a b a' b') := fun l g => by
  have h0 := h l g
  unfold zz_Met Met at h0 ⊢
  exact MetFree.mono h0 (fun _ U hp => ⟨hp.1, ⟨by rw [hp.2.1.1, hle.1], fun i c hi => hp.2.1.2 i c (hle.2 i c hi)⟩, hp.2.2⟩) (fun _ _ _ _ _ x => x) (fun ar s o t hp hq => ⟨by
    obtain ⟨⟨v, a', h1, h2, h3, h4, h5, h6⟩, -⟩ := hq
    obtain ⟨-, hPb, -, -⟩ := hp
    have hlen : a.length ≤ a'.length := by
      have z1 := hPb.1
      have z2 := h3.1
      rw [← hle.1] at z1
      omega
    refine ⟨v, zz_ov a b a', h1, ⟨a', h2, ⟨(zz_ov_len a b a').symm, fun i c hi => ?_⟩, fun i hi => ⟨(h6 i hi).1, zz_ov_un hle.1 hlen hi⟩⟩, ⟨by rw [zz_ov_len]; exact h3.1, fun i c hi => ?_⟩, h4, h5, fun i hi => ?_⟩
    · rw [zz_ov_kn (fun hn => by rw [(h6 i hn).1] at hi; cases hi)]
      exact hi
    · by_cases hn : a[i]? = some none
      · rw [zz_ov_un hle.1 hlen hn] at hi
        obtain ⟨p1, p2⟩ := hPb.2 i c hi
        exact ⟨p1, p2.kept (by rw [zz_ad_pos g p1]; exact (h6 i hn).2)⟩
      · rw [zz_ov_kn hn] at hi
        exact h3.2 i c hi
    · have hn : a[i]? = some none := by
        have hl : i < a.length := by rw [hle.1]; exact (List.getElem?_eq_some_iff.mp hi).1
        cases ha : a[i]? with
        | none => rw [List.getElem?_eq_getElem hl] at ha; cases ha
        | some x => cases x with
          | none => rfl
          | some c => rw [hle.2 i c ha] at hi; cases hi
      exact ⟨by rw [zz_ov_un hle.1 hlen hn]; exact hi, (h6 i hn).2⟩, hq.2⟩)
/-- a decided walk as a contract -/
theorem zz_Gm_ev (n : Nat) {mi : zz_Mi} {as : List Value} {cs cs' : zz_W} {v : Option Value} (hmem : mi ∈ zz_mts) (hlen : (zz_en as).length ≤ mi.2.2.1) (h : zz_evc n mi (0, zz_ent mi.2.2.1 as, [], cs, 0, 0) v cs' = true) : zz_Gm mi as cs (fun w x => w = v ∧ x = cs') := fun _ _ => zz_Met_ev n hmem hlen (zz_evc_ok h) ⟨rfl, rfl⟩
theorem zz_ct {b : Bool} {A B : Prop} (h : b = true) (k : A) : (b = true → A) ∧ (b = false → B) := ⟨fun _ => k, fun q => (by rw [h] at q; cases q)⟩
theorem zz_cf {b : Bool} {A B : Prop} (h : b = false) (k : B) : (b = true → A) ∧ (b = false → B) := ⟨fun q => (by rw [h] at q; cases q), fun _ => k⟩
/-- a callee walked on the spot -/
theorem zz_in (n : Nat) {mi : zz_Mi} {as : List Value} {cs : zz_W} {K : Option Value → zz_W → Prop} (h : zz_wq (fun _ => false) n mi 0 (zz_ent mi.2.2.1 as, [], cs, 0, 0) K) : zz_Gc mi as cs K := fun hm hl => zz_Gm_go _ n hm hl h
/-- a callee by its contract -/
theorem zz_by {mi : zz_Mi} {as : List Value} {cs : zz_W} {K K' : Option Value → zz_W → Prop} (h : zz_Gm mi as cs K) (hK : ∀ v cs', K v cs' → K' v cs') : zz_Gc mi as cs K' := fun _ _ => h.mono hK
