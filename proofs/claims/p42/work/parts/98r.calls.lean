/-! each method by its contract -/
theorem l_fX {key : Nat} {n lo hi : Int} {cs : zz_W} (hn : t_inP cs [(key, n, n)]) (h : lo ≤ n ∧ n ≤ hi) : t_inP cs [(key, lo, hi)] := fun r hr => by
  have hr : r = (key, lo, hi) := by simpa using hr
  subst hr
  obtain ⟨s1, x, s2, s3, s4⟩ := hn _ List.mem_cons_self
  dsimp only at s1 s2 s3 s4
  exact ⟨s1, x, s2, by dsimp only; omega, by dsimp only; omega⟩
noncomputable def l_zr (key : Nat) (c : tCon) : Bool := t_all (fun a => l_fct a.2 (key, .ofNat 0, .ofNat 0)) c.2.2.2.2.2.1
theorem l_zero {key : Nat} {c : tCon} {ρ : List Int} {cs cs' : zz_W} {v : Option Value} (h : l_zr key c = true) (hP : t_Pst c ρ cs v cs') : t_inP cs' [(key, 0, 0)] := by
  obtain ⟨-, -, ⟨a, h1, -, h2⟩, -⟩ := hP
  unfold l_zr at h
  rw [t_all_iff] at h
  intro p hp
  have hp : p = (key, 0, 0) := by simpa using hp
  subst hp
  exact l_fct_ok (h a h1) h2
/-- the first place of a list at which a test holds, and what stands behind it -/
noncomputable def l_fnd {α β : Type} (t : α → β → Bool) (p : β) (l : List α) : List α := List.rec (motive := fun _ => List α) [] (fun a as ih => match t a p with | true => a :: as | false => ih) l
/-- each has one in the list, looked for from where the last one stood -/
noncomputable def l_sbs {α β : Type} (t : α → β → Bool) (q : List α) (ps : List β) : List α → Bool := List.rec (motive := fun _ => List α → Bool) (fun _ => true) (fun p _ ih c => match l_fnd t p c with | a :: as => ih (a :: as) | [] => t_and (t_any (fun a => t a p) q) (ih c)) ps
theorem l_fnd_ok {α β : Type} {t : α → β → Bool} {p : β} : ∀ {l : List α} {a : α} {as : List α}, l_fnd t p l = a :: as → t a p = true ∧ ∀ x ∈ a :: as, x ∈ l
  | [], a, as, h => by
    have h : [] = a :: as := h
    cases h
  | b :: l, a, as, h => by
    have h : (match t b p with | true => b :: l | false => l_fnd t p l) = a :: as := h
    match e : t b p with
    | true =>
      rw [e] at h
      have h : b :: l = a :: as := h
      cases h
      exact ⟨e, fun x hx => hx⟩
    | false =>
      rw [e] at h
      have h : l_fnd t p l = a :: as := h
      obtain ⟨h1, h2⟩ := l_fnd_ok h
      exact ⟨h1, fun x hx => List.mem_cons_of_mem _ (h2 x hx)⟩
theorem l_sbs_ok {α β : Type} {t : α → β → Bool} {q : List α} : ∀ {ps : List β} {c : List α}, (∀ x ∈ c, x ∈ q) → l_sbs t q ps c = true → ∀ p ∈ ps, ∃ a ∈ q, t a p = true
  | [], _, _, _, p, hp => by cases hp
  | p0 :: ps, c, hc, h, p, hp => by
    have h : (match l_fnd t p0 c with | a :: as => l_sbs t q ps (a :: as) | [] => t_and (t_any (fun a => t a p0) q) (l_sbs t q ps c)) = true := h
    match e : l_fnd t p0 c with
    | a :: as =>
      rw [e] at h
      have h : l_sbs t q ps (a :: as) = true := h
      obtain ⟨e1, e2⟩ := l_fnd_ok e
      rcases List.mem_cons.mp hp with hp | hp
      · rw [hp]
        exact ⟨a, hc a (e2 a List.mem_cons_self), e1⟩
      · exact l_sbs_ok (fun x hx => hc x (e2 x hx)) h p hp
    | [] =>
      rw [e] at h
      have h : t_and (t_any (fun a => t a p0) q) (l_sbs t q ps c) = true := h
      rw [t_and_iff, t_any_iff] at h
      rcases List.mem_cons.mp hp with hp | hp
      · rw [hp]
        exact h.1
      · exact l_sbs_ok hc h.2 p hp
theorem l_fct_mem {e} {f : tF} {p : Nat × Int × Int} (he : e ∈ f) (h : l_fct [e] p = true) : l_fct f p = true := by
  unfold l_fct at h ⊢
  rw [t_any_iff] at h ⊢
  obtain ⟨a, h1, h2⟩ := h
  rw [List.mem_singleton] at h1
  subst h1
  exact ⟨_, he, h2⟩
theorem l_in_mem {r : Nat × Int × Int} {q : List (Nat × Int × Int)} {p : Nat × Int × Int} (he : r ∈ q) (h : l_in [r] p = true) : l_in q p = true := by
  unfold l_in at h ⊢
  rw [t_any_iff] at h ⊢
  obtain ⟨a, h1, h2⟩ := h
  rw [List.mem_singleton] at h1
  subst h1
  exact ⟨_, he, h2⟩
theorem l_or3 {a b c : Bool} (h : a = true ∨ b = true ∨ c = true) : (match (generalizing := false) a with
  | true => true
  | false => match (generalizing := false) b with
    | true => true
    | false => c) = true := by
  rcases h with rfl | rfl | rfl
  · rfl
  · cases a <;> rfl
  · cases a <;> cases b <;> rfl
noncomputable def l_o3q (T : Nat) (c : tCon) (f : tF) (T' : Nat) : Bool := match t_and (Nat.ble T' T) (t_keep c.2.2.2.2.1 299008) with
  | true => true
  | false => l_sbs (fun e p => l_fct [e] p) f (l_rows T') f
theorem l_o3q_ok {T : Nat} {c : tCon} {f : tF} {T' : Nat} (h : l_o3q T c f T' = true) : l_o3 T c f T' = true := by
  unfold l_o3q at h
  unfold l_o3
  match e : t_and (Nat.ble T' T) (t_keep c.2.2.2.2.1 299008) with
  | true => rfl
  | false =>
    rw [e] at h
    have h : l_sbs (fun e p => l_fct [e] p) f (l_rows T') f = true := h
    show t_all (l_fct f) (l_rows T') = true
    rw [t_all_iff]
    intro p hp
    obtain ⟨x, hx, hy⟩ := l_sbs_ok (fun _ h => h) h p hp
    exact l_fct_mem hx hy
noncomputable def l_outq (T : Nat) (h : Int) (c : tCon) (f : tF) (q : Nat × Int) : Bool := t_and (t_and (Nat.ble q.1 8) (match t_eq q.2 (.ofNat 0) with
  | true => true
  | false => t_eq q.2 (.ofNat 1))) (t_and (l_o1 T c f q.1) (t_and (l_o2 h c f q.2) (t_and (l_o4 h c q.2) (l_o3q T c f q.1))))
theorem l_outq_ok {T : Nat} {h : Int} {c : tCon} {f : tF} {q : Nat × Int} (hq : l_outq T h c f q = true) : l_out T h c f q = true := by
  unfold l_outq at hq
  unfold l_out
  simp only [t_and_iff] at hq ⊢
  exact ⟨hq.1, hq.2.1, hq.2.2.1, hq.2.2.2.1, l_o3q_ok hq.2.2.2.2⟩
noncomputable def l_prq (T : Nat) (h : Int) (X : List (Nat × Int × Int)) (c : tCon) : Bool := l_sbs (fun r p => l_in [r] p) (X ++ ([(l_kH, h, h), (l_kT, .ofNat T, .ofNat T)] ++ l_rows T)) c.2.2.1 (X ++ ([(l_kH, h, h), (l_kT, .ofNat T, .ofNat T)] ++ l_rows T))
theorem l_prq_ok {T : Nat} {h : Int} {X : List (Nat × Int × Int)} {c : tCon} (hp : l_prq T h X c = true) : l_pr T h X c = true := by
  unfold l_pr
  rw [t_all_iff]
  intro p hm
  obtain ⟨r, h1, h2⟩ := l_sbs_ok (fun _ h => h) hp p hm
  refine l_or3 (a := l_in X p) (b := l_in [(l_kT, .ofNat T, .ofNat T), (l_kH, h, h)] p) (c := l_in (l_rows T) p) ?_
  rcases List.mem_append.mp h1 with h1 | h1
  · exact Or.inl (l_in_mem h1 h2)
  · rcases List.mem_append.mp h1 with h1 | h1
    · refine Or.inr (Or.inl (l_in_mem (r := r) ?_ h2))
      simp only [List.mem_cons, List.not_mem_nil, or_false] at h1 ⊢
      exact h1.symm
    · exact Or.inr (Or.inr (l_in_mem h1 h2))
noncomputable def l_gtq (lg : Bool) (T : Nat) (h : Int) (X : List (Nat × Int × Int)) (c : tCon) : Bool := t_and (t_and (l_prq T h X c) (t_and (t_all (fun i => t_and (Nat.beq i 291) (t_eq h (.ofNat 1))) c.2.2.2.1) (t_all (fun a => t_any (l_outq T h c a.2) [(T, h), (Nat.succ T, h), (Nat.pred T, h), (0, h), (T, .ofNat 1)]) c.2.2.2.2.2.1))) (t_and (l_ans lg c) (l_kp c))
theorem l_gtq_ok {lg : Bool} {T : Nat} {h : Int} {X : List (Nat × Int × Int)} {c : tCon} (hg : l_gtq lg T h X c = true) : l_gt lg T h X c = true := by
  unfold l_gtq at hg
  unfold l_gt l_all
  simp only [t_and_iff] at hg ⊢
  refine ⟨⟨l_prq_ok hg.1.1, hg.1.2.1, ?_⟩, hg.2⟩
  have h1 := hg.1.2.2
  rw [t_all_iff] at h1 ⊢
  intro a ha
  have h2 := h1 a ha
  rw [t_any_iff] at h2 ⊢
  obtain ⟨q, h3, h4⟩ := h2
  exact ⟨q, h3, l_outq_ok h4⟩
/-- over every number of turns, with an image and without -/
noncomputable def l_gtA (lg : Bool) (X : List (Nat × Int × Int)) (c : tCon) : Bool := t_all (fun T => t_and (l_gtq lg T 0 X c) (l_gtq lg T 1 X c)) [0, 1, 2, 3, 4, 5, 6, 7, 8]
theorem l_gtA_ok {lg : Bool} {X : List (Nat × Int × Int)} {c : tCon} {T : Nat} {h : Int} (hg : l_gtA lg X c = true) (hT8 : T ≤ 8) (hh : h = 0 ∨ h = 1) : l_gt lg T h X c = true := by
  unfold l_gtA at hg
  rw [t_all_iff] at hg
  have hm : T ∈ [0, 1, 2, 3, 4, 5, 6, 7, 8] := by
    simp only [List.mem_cons, List.not_mem_nil, or_false]
    omega
  have h1 := hg T hm
  rw [t_and_iff] at h1
  rcases hh with rfl | rfl
  · exact l_gtq_ok h1.1
  · exact l_gtq_ok h1.2
theorem l_gen3 {c : tCon} {lg : Bool} {X : List (Nat × Int × Int)} {mi : zz_Mi} {us : List Value} {n m : Int} {cs : zz_W} (hk : t_Con c) (hg : l_gtA lg X c = true) (hm : zz_mts[c.1]? = some mi) (hJ : l_J n m cs) (hX : t_inP cs X) (hin : t_inA c.2.1 us) : tr_run mi (0, zz_ent mi.2.2.1 us, [], cs, 0, 0) (fun v cs' => l_k lg v ∧ l_J n m cs') := by
  obtain ⟨⟨T, h, hT8, hh, hI⟩, hL⟩ := id hJ
  exact l_gen2 hk (l_gtA_ok hg hT8 hh) hm hT8 hI hJ hX hin
theorem l_gen4 {c : tCon} {lg : Bool} {T : Nat} {h : Int} {X : List (Nat × Int × Int)} {mi : zz_Mi} {us : List Value} {n m : Int} {cs : zz_W} (hk : t_Con c) (hg : t_and (l_gtq lg T 0 X c) (l_gtq lg T 1 X c) = true) (hm : zz_mts[c.1]? = some mi) (hT8 : T ≤ 8) (hh : h = 0 ∨ h = 1) (hI : l_inv T h cs) (hJ : l_J n m cs) (hX : t_inP cs X) (hin : t_inA c.2.1 us) : tr_run mi (0, zz_ent mi.2.2.1 us, [], cs, 0, 0) (fun v cs' => l_k lg v ∧ l_J n m cs') := by
  rw [t_and_iff] at hg
  refine l_gen2 hk ?_ hm hT8 hI hJ hX hin
  rcases hh with rfl | rfl
  · exact l_gtq_ok hg.1
  · exact l_gtq_ok hg.2
section LM1
variable {us : List Value} {n m : Int} {cs : zz_W}
theorem lx_12 (hl : us.length = 1) (hu : ∀ u ∈ us, ∃ z : Int32, u = .int z) (hJ : l_J n m cs) : tr_run zm_12 (0, zz_ent zm_12.2.2.1 (.ref 1 :: us), [], cs, 0, 0) (fun v cs' => l_k false v ∧ l_J n m cs') := l_gen k_1 (X := []) (by decide +kernel) rfl hJ l_nil (l_ar_ok rfl (by decide +kernel) hl hu)
theorem lm_150 (hl : us.length = 1) (hu : ∀ u ∈ us, ∃ z : Int32, u = .int z) (hJ : l_J n m cs) : tr_run zm_150 (0, zz_ent zm_150.2.2.1 (.ref 271 :: us), [], cs, 0, 0) (fun v cs' => l_k false v ∧ l_J n m cs') := l_gen k_2 (X := []) (by decide +kernel) rfl hJ l_nil (l_ar_ok rfl (by decide +kernel) hl hu)
theorem lx_16 (hl : us.length = 0) (hu : ∀ u ∈ us, ∃ z : Int32, u = .int z) (hJ : l_J n m cs) : tr_run zm_16 (0, zz_ent zm_16.2.2.1 (.ref 1 :: us), [], cs, 0, 0) (fun v cs' => l_k false v ∧ l_J n m cs') := l_gen k_27 (X := []) (by decide +kernel) rfl hJ l_nil (l_ar_ok rfl (by decide +kernel) hl hu)
theorem lm_152 (hl : us.length = 0) (hu : ∀ u ∈ us, ∃ z : Int32, u = .int z) (hJ : l_J n m cs) : tr_run zm_152 (0, zz_ent zm_152.2.2.1 (.ref 271 :: us), [], cs, 0, 0) (fun v cs' => l_k false v ∧ l_J n m cs') := l_gen3 k_46 (X := []) (by decide +kernel) rfl hJ l_nil (l_ar_ok rfl (by decide +kernel) hl hu)
theorem lx_74 (hl : us.length = 2) (hu : ∀ u ∈ us, ∃ z : Int32, u = .int z) (hJ : l_J n m cs) : tr_run zm_74 (0, zz_ent zm_74.2.2.1 (.ref 1 :: us), [], cs, 0, 0) (fun v cs' => l_k false v ∧ l_J n m cs') := l_gen k_47 (X := []) (by decide +kernel) rfl hJ l_nil (l_ar_ok rfl (by decide +kernel) hl hu)
theorem lm_184 (hl : us.length = 2) (hu : ∀ u ∈ us, ∃ z : Int32, u = .int z) (hJ : l_J n m cs) : tr_run zm_184 (0, zz_ent zm_184.2.2.1 (.ref 271 :: us), [], cs, 0, 0) (fun v cs' => l_k false v ∧ l_J n m cs') := l_gen k_48 (X := []) (by decide +kernel) rfl hJ l_nil (l_ar_ok rfl (by decide +kernel) hl hu)
theorem lx_75 (hl : us.length = 2) (hu : ∀ u ∈ us, ∃ z : Int32, u = .int z) (hJ : l_J n m cs) : tr_run zm_75 (0, zz_ent zm_75.2.2.1 (.ref 1 :: us), [], cs, 0, 0) (fun v cs' => l_k false v ∧ l_J n m cs') := l_gen k_49 (X := []) (by decide +kernel) rfl hJ l_nil (l_ar_ok rfl (by decide +kernel) hl hu)
theorem lm_185 (hl : us.length = 2) (hu : ∀ u ∈ us, ∃ z : Int32, u = .int z) (hJ : l_J n m cs) : tr_run zm_185 (0, zz_ent zm_185.2.2.1 (.ref 271 :: us), [], cs, 0, 0) (fun v cs' => l_k false v ∧ l_J n m cs') := l_gen k_50 (X := []) (by decide +kernel) rfl hJ l_nil (l_ar_ok rfl (by decide +kernel) hl hu)
theorem lx_76 (hl : us.length = 2) (hu : ∀ u ∈ us, ∃ z : Int32, u = .int z) (hJ : l_J n m cs) : tr_run zm_76 (0, zz_ent zm_76.2.2.1 (.ref 1 :: us), [], cs, 0, 0) (fun v cs' => l_k false v ∧ l_J n m cs') := l_gen k_52 (X := []) (by decide +kernel) rfl hJ l_nil (l_ar_ok rfl (by decide +kernel) hl hu)
theorem lm_186 (hl : us.length = 2) (hu : ∀ u ∈ us, ∃ z : Int32, u = .int z) (hJ : l_J n m cs) : tr_run zm_186 (0, zz_ent zm_186.2.2.1 (.ref 271 :: us), [], cs, 0, 0) (fun v cs' => l_k false v ∧ l_J n m cs') := l_gen k_53 (X := []) (by decide +kernel) rfl hJ l_nil (l_ar_ok rfl (by decide +kernel) hl hu)
theorem lx_77 (hl : us.length = 2) (hu : ∀ u ∈ us, ∃ z : Int32, u = .int z) (hJ : l_J n m cs) : tr_run zm_77 (0, zz_ent zm_77.2.2.1 (.ref 1 :: us), [], cs, 0, 0) (fun v cs' => l_k false v ∧ l_J n m cs') := l_gen k_54 (X := []) (by decide +kernel) rfl hJ l_nil (l_ar_ok rfl (by decide +kernel) hl hu)
theorem lm_187 (hl : us.length = 2) (hu : ∀ u ∈ us, ∃ z : Int32, u = .int z) (hJ : l_J n m cs) : tr_run zm_187 (0, zz_ent zm_187.2.2.1 (.ref 271 :: us), [], cs, 0, 0) (fun v cs' => l_k false v ∧ l_J n m cs') := l_gen k_55 (X := []) (by decide +kernel) rfl hJ l_nil (l_ar_ok rfl (by decide +kernel) hl hu)
theorem lx_84 (hl : us.length = 2) (hu : ∀ u ∈ us, ∃ z : Int32, u = .int z) (hJ : l_J n m cs) : tr_run zm_84 (0, zz_ent zm_84.2.2.1 (.ref 1 :: us), [], cs, 0, 0) (fun v cs' => l_k false v ∧ l_J n m cs') := l_gen k_58 (X := []) (by decide +kernel) rfl hJ l_nil (l_ar_ok rfl (by decide +kernel) hl hu)
theorem lm_188 (hl : us.length = 2) (hu : ∀ u ∈ us, ∃ z : Int32, u = .int z) (hJ : l_J n m cs) : tr_run zm_188 (0, zz_ent zm_188.2.2.1 (.ref 271 :: us), [], cs, 0, 0) (fun v cs' => l_k false v ∧ l_J n m cs') := l_gen3 k_59 (X := []) (by decide +kernel) rfl hJ l_nil (l_ar_ok rfl (by decide +kernel) hl hu)
theorem lx_85 (hl : us.length = 2) (hu : ∀ u ∈ us, ∃ z : Int32, u = .int z) (hJ : l_J n m cs) : tr_run zm_85 (0, zz_ent zm_85.2.2.1 (.ref 1 :: us), [], cs, 0, 0) (fun v cs' => l_k false v ∧ l_J n m cs') := l_gen k_60 (X := []) (by decide +kernel) rfl hJ l_nil (l_ar_ok rfl (by decide +kernel) hl hu)
theorem lm_190 (hl : us.length = 2) (hu : ∀ u ∈ us, ∃ z : Int32, u = .int z) (hJ : l_J n m cs) : tr_run zm_190 (0, zz_ent zm_190.2.2.1 (.ref 271 :: us), [], cs, 0, 0) (fun v cs' => l_k false v ∧ l_J n m cs') := l_gen3 k_61 (X := []) (by decide +kernel) rfl hJ l_nil (l_ar_ok rfl (by decide +kernel) hl hu)
theorem lx_86 (hl : us.length = 3) (hu : ∀ u ∈ us, ∃ z : Int32, u = .int z) (hJ : l_J n m cs) : tr_run zm_86 (0, zz_ent zm_86.2.2.1 (.ref 1 :: us), [], cs, 0, 0) (fun v cs' => l_k false v ∧ l_J n m cs') := l_gen k_65 (X := []) (by decide +kernel) rfl hJ l_nil (l_ar_ok rfl (by decide +kernel) hl hu)
theorem lm_191 (hl : us.length = 3) (hu : ∀ u ∈ us, ∃ z : Int32, u = .int z) (hJ : l_J n m cs) : tr_run zm_191 (0, zz_ent zm_191.2.2.1 (.ref 271 :: us), [], cs, 0, 0) (fun v cs' => l_k false v ∧ l_J n m cs') := by
  obtain ⟨⟨T, h, hT8, hh, hI⟩, hL⟩ := id hJ
  have hm : zz_mts[c_68.1]? = some zm_191 := rfl
  have hA : t_inA c_68.2.1 (Value.ref 271 :: us) := (l_ar_ok rfl (by decide +kernel) hl hu)
  match T, hT8, hI with
  | 0, hT8, hI => exact l_gen4 k_68 (X := []) (by decide +kernel) hm hT8 hh hI hJ l_nil hA
  | 1, hT8, hI => exact l_gen4 k_70 (X := []) (by decide +kernel) hm hT8 hh hI hJ l_nil hA
  | 2, hT8, hI => exact l_gen4 k_72 (X := []) (by decide +kernel) hm hT8 hh hI hJ l_nil hA
  | 3, hT8, hI => exact l_gen4 k_74 (X := []) (by decide +kernel) hm hT8 hh hI hJ l_nil hA
  | 4, hT8, hI => exact l_gen4 k_76 (X := []) (by decide +kernel) hm hT8 hh hI hJ l_nil hA
  | 5, hT8, hI => exact l_gen4 k_78 (X := []) (by decide +kernel) hm hT8 hh hI hJ l_nil hA
  | 6, hT8, hI => exact l_gen4 k_80 (X := []) (by decide +kernel) hm hT8 hh hI hJ l_nil hA
  | 7, hT8, hI => exact l_gen4 k_82 (X := []) (by decide +kernel) hm hT8 hh hI hJ l_nil hA
  | 8, hT8, hI => exact l_gen4 k_84 (X := []) (by decide +kernel) hm hT8 hh hI hJ l_nil hA
  | t + 9, hT8, _ => exact absurd hT8 (by omega)
theorem lx_88 (hl : us.length = 3) (hu : ∀ u ∈ us, ∃ z : Int32, u = .int z) (hJ : l_J n m cs) : tr_run zm_88 (0, zz_ent zm_88.2.2.1 (.ref 1 :: us), [], cs, 0, 0) (fun v cs' => l_k false v ∧ l_J n m cs') := l_gen k_85 (X := []) (by decide +kernel) rfl hJ l_nil (l_ar_ok rfl (by decide +kernel) hl hu)
theorem lm_193 (hl : us.length = 3) (hu : ∀ u ∈ us, ∃ z : Int32, u = .int z) (hJ : l_J n m cs) : tr_run zm_193 (0, zz_ent zm_193.2.2.1 (.ref 271 :: us), [], cs, 0, 0) (fun v cs' => l_k false v ∧ l_J n m cs') := by
  obtain ⟨⟨T, h, hT8, hh, hI⟩, hL⟩ := id hJ
  have hm : zz_mts[c_86.1]? = some zm_193 := rfl
  have hA : t_inA c_86.2.1 (Value.ref 271 :: us) := (l_ar_ok rfl (by decide +kernel) hl hu)
  match T, hT8, hI with
  | 0, hT8, hI => exact l_gen4 k_86 (X := []) (by decide +kernel) hm hT8 hh hI hJ l_nil hA
  | 1, hT8, hI => exact l_gen4 k_87 (X := []) (by decide +kernel) hm hT8 hh hI hJ l_nil hA
  | 2, hT8, hI => exact l_gen4 k_88 (X := []) (by decide +kernel) hm hT8 hh hI hJ l_nil hA
  | 3, hT8, hI => exact l_gen4 k_89 (X := []) (by decide +kernel) hm hT8 hh hI hJ l_nil hA
  | 4, hT8, hI => exact l_gen4 k_90 (X := []) (by decide +kernel) hm hT8 hh hI hJ l_nil hA
  | 5, hT8, hI => exact l_gen4 k_91 (X := []) (by decide +kernel) hm hT8 hh hI hJ l_nil hA
  | 6, hT8, hI => exact l_gen4 k_92 (X := []) (by decide +kernel) hm hT8 hh hI hJ l_nil hA
  | 7, hT8, hI => exact l_gen4 k_93 (X := []) (by decide +kernel) hm hT8 hh hI hJ l_nil hA
  | 8, hT8, hI => exact l_gen4 k_94 (X := []) (by decide +kernel) hm hT8 hh hI hJ l_nil hA
  | t + 9, hT8, _ => exact absurd hT8 (by omega)
theorem lx_89 (hl : us.length = 5) (hu : ∀ u ∈ us, ∃ z : Int32, u = .int z) (hJ : l_J n m cs) : tr_run zm_89 (0, zz_ent zm_89.2.2.1 (.ref 1 :: us), [], cs, 0, 0) (fun v cs' => l_k false v ∧ l_J n m cs') := l_gen k_100 (X := []) (by decide +kernel) rfl hJ l_nil (l_ar_ok rfl (by decide +kernel) hl hu)
theorem lm_194 (hl : us.length = 5) (hu : ∀ u ∈ us, ∃ z : Int32, u = .int z) (hJ : l_J n m cs) : tr_run zm_194 (0, zz_ent zm_194.2.2.1 (.ref 271 :: us), [], cs, 0, 0) (fun v cs' => l_k false v ∧ l_J n m cs') := by
  obtain ⟨⟨T, h, hT8, hh, hI⟩, hL⟩ := id hJ
  have hm : zz_mts[c_101.1]? = some zm_194 := rfl
  have hA : t_inA c_101.2.1 (Value.ref 271 :: us) := (l_ar_ok rfl (by decide +kernel) hl hu)
  match T, hT8, hI with
  | 0, hT8, hI => exact l_gen4 k_101 (X := []) (by decide +kernel) hm hT8 hh hI hJ l_nil hA
  | 1, hT8, hI => exact l_gen4 k_102 (X := []) (by decide +kernel) hm hT8 hh hI hJ l_nil hA
  | 2, hT8, hI => exact l_gen4 k_103 (X := []) (by decide +kernel) hm hT8 hh hI hJ l_nil hA
  | 3, hT8, hI => exact l_gen4 k_104 (X := []) (by decide +kernel) hm hT8 hh hI hJ l_nil hA
  | 4, hT8, hI => exact l_gen4 k_105 (X := []) (by decide +kernel) hm hT8 hh hI hJ l_nil hA
  | 5, hT8, hI => exact l_gen4 k_106 (X := []) (by decide +kernel) hm hT8 hh hI hJ l_nil hA
  | 6, hT8, hI => exact l_gen4 k_107 (X := []) (by decide +kernel) hm hT8 hh hI hJ l_nil hA
  | 7, hT8, hI => exact l_gen4 k_108 (X := []) (by decide +kernel) hm hT8 hh hI hJ l_nil hA
  | 8, hT8, hI => exact l_gen4 k_109 (X := []) (by decide +kernel) hm hT8 hh hI hJ l_nil hA
  | t + 9, hT8, _ => exact absurd hT8 (by omega)
theorem lx_90 (hl : us.length = 1) (hu : ∀ u ∈ us, ∃ z : Int32, u = .int z) (hJ : l_J n m cs) : tr_run zm_90 (0, zz_ent zm_90.2.2.1 (.ref 1 :: us), [], cs, 0, 0) (fun v cs' => l_k false v ∧ l_J n m cs') := l_gen k_120 (X := []) (by decide +kernel) rfl hJ l_nil (l_ar_ok rfl (by decide +kernel) hl hu)
theorem lm_197 (hl : us.length = 1) (hu : ∀ u ∈ us, ∃ z : Int32, u = .int z) (hJ : l_J n m cs) : tr_run zm_197 (0, zz_ent zm_197.2.2.1 (.ref 271 :: us), [], cs, 0, 0) (fun v cs' => l_k false v ∧ l_J n m cs') := by
  obtain ⟨⟨T, h, hT8, hh, hI⟩, hL⟩ := id hJ
  have hm : zz_mts[c_123.1]? = some zm_197 := rfl
  have hA : t_inA c_123.2.1 (Value.ref 271 :: us) := (l_ar_ok rfl (by decide +kernel) hl hu)
  match T, hT8, hI with
  | 0, hT8, hI => exact l_gen4 k_123 (X := []) (by decide +kernel) hm hT8 hh hI hJ l_nil hA
  | 1, hT8, hI => exact l_gen4 k_124 (X := []) (by decide +kernel) hm hT8 hh hI hJ l_nil hA
  | 2, hT8, hI => exact l_gen4 k_125 (X := []) (by decide +kernel) hm hT8 hh hI hJ l_nil hA
  | 3, hT8, hI => exact l_gen4 k_126 (X := []) (by decide +kernel) hm hT8 hh hI hJ l_nil hA
  | 4, hT8, hI => exact l_gen4 k_127 (X := []) (by decide +kernel) hm hT8 hh hI hJ l_nil hA
  | 5, hT8, hI => exact l_gen4 k_128 (X := []) (by decide +kernel) hm hT8 hh hI hJ l_nil hA
  | 6, hT8, hI => exact l_gen4 k_129 (X := []) (by decide +kernel) hm hT8 hh hI hJ l_nil hA
  | 7, hT8, hI => exact l_gen4 k_130 (X := []) (by decide +kernel) hm hT8 hh hI hJ l_nil hA
  | 8, hT8, hI => exact l_gen4 k_131 (X := []) (by decide +kernel) hm hT8 hh hI hJ l_nil hA
  | t + 9, hT8, _ => exact absurd hT8 (by omega)
theorem lx_92 (hl : us.length = 0) (hu : ∀ u ∈ us, ∃ z : Int32, u = .int z) (hJ : l_J n m cs) : tr_run zm_92 (0, zz_ent zm_92.2.2.1 (.ref 1 :: us), [], cs, 0, 0) (fun v cs' => l_k false v ∧ l_J n m cs') := l_gen k_135 (X := []) (by decide +kernel) rfl hJ l_nil (l_ar_ok rfl (by decide +kernel) hl hu)
theorem lm_183 (hl : us.length = 0) (hu : ∀ u ∈ us, ∃ z : Int32, u = .int z) (hJ : l_J n m cs) : tr_run zm_183 (0, zz_ent zm_183.2.2.1 (.ref 271 :: us), [], cs, 0, 0) (fun v cs' => l_k false v ∧ l_J n m cs') := by
  obtain ⟨⟨T, h, hT8, hh, hI⟩, hL⟩ := id hJ
  have hm : zz_mts[c_136.1]? = some zm_183 := rfl
  have hA : t_inA c_136.2.1 (Value.ref 271 :: us) := (l_ar_ok rfl (by decide +kernel) hl hu)
  match T, hT8, hI with
  | 0, hT8, hI => exact l_gen4 k_136 (X := []) (by decide +kernel) hm hT8 hh hI hJ l_nil hA
  | 1, hT8, hI => exact l_gen4 k_138 (X := []) (by decide +kernel) hm hT8 hh hI hJ l_nil hA
  | 2, hT8, hI => exact l_gen4 k_139 (X := []) (by decide +kernel) hm hT8 hh hI hJ l_nil hA
  | 3, hT8, hI => exact l_gen4 k_140 (X := []) (by decide +kernel) hm hT8 hh hI hJ l_nil hA
  | 4, hT8, hI => exact l_gen4 k_141 (X := []) (by decide +kernel) hm hT8 hh hI hJ l_nil hA
  | 5, hT8, hI => exact l_gen4 k_142 (X := []) (by decide +kernel) hm hT8 hh hI hJ l_nil hA
  | 6, hT8, hI => exact l_gen4 k_143 (X := []) (by decide +kernel) hm hT8 hh hI hJ l_nil hA
  | 7, hT8, hI => exact l_gen4 k_144 (X := []) (by decide +kernel) hm hT8 hh hI hJ l_nil hA
  | 8, hT8, hI => exact l_gen4 k_145 (X := []) (by decide +kernel) hm hT8 hh hI hJ l_nil hA
  | t + 9, hT8, _ => exact absurd hT8 (by omega)
theorem lx_96 (hl : us.length = 3) (hu : ∀ u ∈ us, ∃ z : Int32, u = .int z) (hJ : l_J n m cs) : tr_run zm_96 (0, zz_ent zm_96.2.2.1 (.ref 1 :: us), [], cs, 0, 0) (fun v cs' => l_k false v ∧ l_J n m cs') := l_gen k_149 (X := []) (by decide +kernel) rfl hJ l_nil (l_ar_ok rfl (by decide +kernel) hl hu)
theorem lm_200 (hl : us.length = 3) (hu : ∀ u ∈ us, ∃ z : Int32, u = .int z) (hJ : l_J n m cs) : tr_run zm_200 (0, zz_ent zm_200.2.2.1 (.ref 271 :: us), [], cs, 0, 0) (fun v cs' => l_k false v ∧ l_J n m cs') := l_gen k_150 (X := []) (by decide +kernel) rfl hJ l_nil (l_ar_ok rfl (by decide +kernel) hl hu)
theorem lx_98 (hl : us.length = 3) (hu : ∀ u ∈ us, ∃ z : Int32, u = .int z) (hJ : l_J n m cs) : tr_run zm_98 (0, zz_ent zm_98.2.2.1 (.ref 1 :: us), [], cs, 0, 0) (fun v cs' => l_k false v ∧ l_J n m cs') := l_gen k_152 (X := []) (by decide +kernel) rfl hJ l_nil (l_ar_ok rfl (by decide +kernel) hl hu)
theorem lm_201 (hl : us.length = 3) (hu : ∀ u ∈ us, ∃ z : Int32, u = .int z) (hJ : l_J n m cs) : tr_run zm_201 (0, zz_ent zm_201.2.2.1 (.ref 271 :: us), [], cs, 0, 0) (fun v cs' => l_k false v ∧ l_J n m cs') := l_gen k_154 (X := []) (by decide +kernel) rfl hJ l_nil (l_ar_ok rfl (by decide +kernel) hl hu)
theorem lx_102 (hl : us.length = 1) (hu : ∀ u ∈ us, ∃ z : Int32, u = .int z) (hJ : l_J n m cs) : tr_run zm_102 (0, zz_ent zm_102.2.2.1 (.ref 1 :: us), [], cs, 0, 0) (fun v cs' => l_k false v ∧ l_J n m cs') := l_gen k_156 (X := []) (by decide +kernel) rfl hJ l_nil (l_ar_ok rfl (by decide +kernel) hl hu)
theorem lm_203 (hl : us.length = 1) (hu : ∀ u ∈ us, ∃ z : Int32, u = .int z) (hJ : l_J n m cs) : tr_run zm_203 (0, zz_ent zm_203.2.2.1 (.ref 271 :: us), [], cs, 0, 0) (fun v cs' => l_k false v ∧ l_J n m cs') := l_gen k_158 (X := []) (by decide +kernel) rfl hJ l_nil (l_ar_ok rfl (by decide +kernel) hl hu)
theorem lx_103 (hl : us.length = 1) (hu : ∀ u ∈ us, ∃ z : Int32, u = .int z) (hJ : l_J n m cs) : tr_run zm_103 (0, zz_ent zm_103.2.2.1 (.ref 1 :: us), [], cs, 0, 0) (fun v cs' => l_k false v ∧ l_J n m cs') := l_gen k_160 (X := []) (by decide +kernel) rfl hJ l_nil (l_ar_ok rfl (by decide +kernel) hl hu)
theorem lm_205 (hl : us.length = 1) (hu : ∀ u ∈ us, ∃ z : Int32, u = .int z) (hJ : l_J n m cs) : tr_run zm_205 (0, zz_ent zm_205.2.2.1 (.ref 271 :: us), [], cs, 0, 0) (fun v cs' => l_k false v ∧ l_J n m cs') := l_gen k_162 (X := []) (by decide +kernel) rfl hJ l_nil (l_ar_ok rfl (by decide +kernel) hl hu)
theorem lx_105 (hl : us.length = 2) (hu : ∀ u ∈ us, ∃ z : Int32, u = .int z) (hJ : l_J n m cs) : tr_run zm_105 (0, zz_ent zm_105.2.2.1 (.ref 1 :: us), [], cs, 0, 0) (fun v cs' => l_k false v ∧ l_J n m cs') := l_gen k_163 (X := []) (by decide +kernel) rfl hJ l_nil (l_ar_ok rfl (by decide +kernel) hl hu)
theorem lm_207 (hl : us.length = 2) (hu : ∀ u ∈ us, ∃ z : Int32, u = .int z) (hJ : l_J n m cs) : tr_run zm_207 (0, zz_ent zm_207.2.2.1 (.ref 271 :: us), [], cs, 0, 0) (fun v cs' => l_k false v ∧ l_J n m cs') := l_gen k_164 (X := []) (by decide +kernel) rfl hJ l_nil (l_ar_ok rfl (by decide +kernel) hl hu)
theorem lx_106 (hl : us.length = 2) (hu : ∀ u ∈ us, ∃ z : Int32, u = .int z) (hJ : l_J n m cs) : tr_run zm_106 (0, zz_ent zm_106.2.2.1 (.ref 1 :: us), [], cs, 0, 0) (fun v cs' => l_k false v ∧ l_J n m cs') := l_gen k_166 (X := []) (by decide +kernel) rfl hJ l_nil (l_ar_ok rfl (by decide +kernel) hl hu)
theorem lm_208 (hl : us.length = 2) (hu : ∀ u ∈ us, ∃ z : Int32, u = .int z) (hJ : l_J n m cs) : tr_run zm_208 (0, zz_ent zm_208.2.2.1 (.ref 271 :: us), [], cs, 0, 0) (fun v cs' => l_k false v ∧ l_J n m cs') := l_gen k_169 (X := []) (by decide +kernel) rfl hJ l_nil (l_ar_ok rfl (by decide +kernel) hl hu)
theorem lx_108 (hl : us.length = 3) (hu : ∀ u ∈ us, ∃ z : Int32, u = .int z) (hJ : l_J n m cs) : tr_run zm_108 (0, zz_ent zm_108.2.2.1 (.ref 1 :: us), [], cs, 0, 0) (fun v cs' => l_k false v ∧ l_J n m cs') := l_gen k_170 (X := []) (by decide +kernel) rfl hJ l_nil (l_ar_ok rfl (by decide +kernel) hl hu)
theorem lm_211 (hl : us.length = 3) (hu : ∀ u ∈ us, ∃ z : Int32, u = .int z) (hJ : l_J n m cs) : tr_run zm_211 (0, zz_ent zm_211.2.2.1 (.ref 271 :: us), [], cs, 0, 0) (fun v cs' => l_k false v ∧ l_J n m cs') := l_gen k_171 (X := []) (by decide +kernel) rfl hJ l_nil (l_ar_ok rfl (by decide +kernel) hl hu)
theorem lx_109 (hl : us.length = 1) (hu : ∀ u ∈ us, ∃ z : Int32, u = .int z) (hJ : l_J n m cs) : tr_run zm_109 (0, zz_ent zm_109.2.2.1 (.ref 1 :: us), [], cs, 0, 0) (fun v cs' => l_k false v ∧ l_J n m cs') := l_gen k_173 (X := []) (by decide +kernel) rfl hJ l_nil (l_ar_ok rfl (by decide +kernel) hl hu)
theorem lm_212 (hl : us.length = 1) (hu : ∀ u ∈ us, ∃ z : Int32, u = .int z) (hJ : l_J n m cs) : tr_run zm_212 (0, zz_ent zm_212.2.2.1 (.ref 271 :: us), [], cs, 0, 0) (fun v cs' => l_k false v ∧ l_J n m cs') := l_gen k_175 (X := []) (by decide +kernel) rfl hJ l_nil (l_ar_ok rfl (by decide +kernel) hl hu)
theorem lx_111 (hl : us.length = 1) (hu : ∀ u ∈ us, ∃ z : Int32, u = .int z) (hJ : l_J n m cs) : tr_run zm_111 (0, zz_ent zm_111.2.2.1 (.ref 1 :: us), [], cs, 0, 0) (fun v cs' => l_k false v ∧ l_J n m cs') := l_gen k_181 (X := []) (by decide +kernel) rfl hJ l_nil (l_ar_ok rfl (by decide +kernel) hl hu)
theorem lm_214 (hl : us.length = 1) (hu : ∀ u ∈ us, ∃ z : Int32, u = .int z) (hJ : l_J n m cs) : tr_run zm_214 (0, zz_ent zm_214.2.2.1 (.ref 271 :: us), [], cs, 0, 0) (fun v cs' => l_k false v ∧ l_J n m cs') := by
  obtain ⟨x, h1, h2, h3⟩ := t_kty_ok (tk := []) (key := 277504) (lo := 0) (hi := 7) (by decide +kernel) hJ.ty (fun c hc => by cases hc)
  by_cases h7 : x.toInt = 7
  · refine l_gen k_188 (X := [(277504, .ofNat 7, .ofNat 7)]) (by decide +kernel) rfl hJ (fun p hp => ?_) (l_ar_ok rfl (by decide +kernel) hl hu)
    have hp : p = (277504, .ofNat 7, .ofNat 7) := by simpa using hp
    subst hp
    exact ⟨t_sg_ok (by decide +kernel), x, h1, by rw [h7]; exact ⟨by decide, by decide⟩⟩
  · refine l_gen k_190 (X := [(277504, .ofNat 0, .ofNat 6)]) (by decide +kernel) rfl hJ (fun p hp => ?_) (l_ar_ok rfl (by decide +kernel) hl hu)
    have hp : p = (277504, .ofNat 0, .ofNat 6) := by simpa using hp
    subst hp
    exact ⟨t_sg_ok (by decide +kernel), x, h1, ⟨h2, by show x.toInt ≤ 6; omega⟩⟩
theorem lx_118 (hl : us.length = 1) (hu : ∀ u ∈ us, ∃ z : Int32, u = .int z) (hJ : l_J n m cs) : tr_run zm_118 (0, zz_ent zm_118.2.2.1 (.ref 1 :: us), [], cs, 0, 0) (fun v cs' => l_k false v ∧ l_J n m cs') := l_gen k_194 (X := []) (by decide +kernel) rfl hJ l_nil (l_ar_ok rfl (by decide +kernel) hl hu)
theorem lm_219 (hl : us.length = 1) (hu : ∀ u ∈ us, ∃ z : Int32, u = .int z) (hJ : l_J n m cs) : tr_run zm_219 (0, zz_ent zm_219.2.2.1 (.ref 271 :: us), [], cs, 0, 0) (fun v cs' => l_k false v ∧ l_J n m cs') := l_gen k_195 (X := []) (by decide +kernel) rfl hJ l_nil (l_ar_ok rfl (by decide +kernel) hl hu)
theorem lx_119 (hl : us.length = 1) (hu : ∀ u ∈ us, ∃ z : Int32, u = .int z) (hJ : l_J n m cs) : tr_run zm_119 (0, zz_ent zm_119.2.2.1 (.ref 1 :: us), [], cs, 0, 0) (fun v cs' => l_k false v ∧ l_J n m cs') := l_gen k_199 (X := []) (by decide +kernel) rfl hJ l_nil (l_ar_ok rfl (by decide +kernel) hl hu)
theorem lm_220 (hl : us.length = 1) (hu : ∀ u ∈ us, ∃ z : Int32, u = .int z) (hJ : l_J n m cs) : tr_run zm_220 (0, zz_ent zm_220.2.2.1 (.ref 271 :: us), [], cs, 0, 0) (fun v cs' => l_k false v ∧ l_J n m cs') := l_gen k_200 (X := []) (by decide +kernel) rfl hJ l_nil (l_ar_ok rfl (by decide +kernel) hl hu)
theorem lx_121 (hl : us.length = 1) (hu : ∀ u ∈ us, ∃ z : Int32, u = .int z) (hJ : l_J n m cs) : tr_run zm_121 (0, zz_ent zm_121.2.2.1 (.ref 1 :: us), [], cs, 0, 0) (fun v cs' => l_k false v ∧ l_J n m cs') := l_gen k_203 (X := []) (by decide +kernel) rfl hJ l_nil (l_ar_ok rfl (by decide +kernel) hl hu)
theorem lm_221 (hl : us.length = 1) (hu : ∀ u ∈ us, ∃ z : Int32, u = .int z) (hJ : l_J n m cs) : tr_run zm_221 (0, zz_ent zm_221.2.2.1 (.ref 271 :: us), [], cs, 0, 0) (fun v cs' => l_k false v ∧ l_J n m cs') := l_gen k_205 (X := []) (by decide +kernel) rfl hJ l_nil (l_ar_ok rfl (by decide +kernel) hl hu)
theorem lx_123 (hl : us.length = 2) (hu : ∀ u ∈ us, ∃ z : Int32, u = .int z) (hJ : l_J n m cs) : tr_run zm_123 (0, zz_ent zm_123.2.2.1 (.ref 1 :: us), [], cs, 0, 0) (fun v cs' => l_k false v ∧ l_J n m cs') := l_gen k_209 (X := []) (by decide +kernel) rfl hJ l_nil (l_ar_ok rfl (by decide +kernel) hl hu)
theorem lm_222 (hl : us.length = 2) (hu : ∀ u ∈ us, ∃ z : Int32, u = .int z) (hJ : l_J n m cs) : tr_run zm_222 (0, zz_ent zm_222.2.2.1 (.ref 271 :: us), [], cs, 0, 0) (fun v cs' => l_k false v ∧ l_J n m cs') := l_gen k_212 (X := []) (by decide +kernel) rfl hJ l_nil (l_ar_ok rfl (by decide +kernel) hl hu)
theorem lx_130 (hl : us.length = 2) (hu : ∀ u ∈ us, ∃ z : Int32, u = .int z) (hJ : l_J n m cs) : tr_run zm_130 (0, zz_ent zm_130.2.2.1 (.ref 1 :: us), [], cs, 0, 0) (fun v cs' => l_k false v ∧ l_J n m cs') := l_gen k_214 (X := []) (by decide +kernel) rfl hJ l_nil (l_ar_ok rfl (by decide +kernel) hl hu)
theorem lm_225 (hl : us.length = 2) (hu : ∀ u ∈ us, ∃ z : Int32, u = .int z) (hJ : l_J n m cs) : tr_run zm_225 (0, zz_ent zm_225.2.2.1 (.ref 271 :: us), [], cs, 0, 0) (fun v cs' => l_k false v ∧ l_J n m cs') := l_gen k_217 (X := []) (by decide +kernel) rfl hJ l_nil (l_ar_ok rfl (by decide +kernel) hl hu)
theorem lx_132 (hl : us.length = 2) (hu : ∀ u ∈ us, ∃ z : Int32, u = .int z) (hJ : l_J n m cs) : tr_run zm_132 (0, zz_ent zm_132.2.2.1 (.ref 1 :: us), [], cs, 0, 0) (fun v cs' => l_k false v ∧ l_J n m cs') := l_gen k_218 (X := []) (by decide +kernel) rfl hJ l_nil (l_ar_ok rfl (by decide +kernel) hl hu)
theorem lm_228 (hl : us.length = 2) (hu : ∀ u ∈ us, ∃ z : Int32, u = .int z) (hJ : l_J n m cs) : tr_run zm_228 (0, zz_ent zm_228.2.2.1 (.ref 271 :: us), [], cs, 0, 0) (fun v cs' => l_k false v ∧ l_J n m cs') := l_gen k_219 (X := []) (by decide +kernel) rfl hJ l_nil (l_ar_ok rfl (by decide +kernel) hl hu)
theorem lx_125 (hl : us.length = 3) (hu : ∀ u ∈ us, ∃ z : Int32, u = .int z) (hJ : l_J n m cs) : tr_run zm_125 (0, zz_ent zm_125.2.2.1 (.ref 1 :: us), [], cs, 0, 0) (fun v cs' => l_k false v ∧ l_J n m cs') := l_gen k_221 (X := []) (by decide +kernel) rfl hJ l_nil (l_ar_ok rfl (by decide +kernel) hl hu)
theorem lm_229 (hl : us.length = 3) (hu : ∀ u ∈ us, ∃ z : Int32, u = .int z) (hJ : l_J n m cs) : tr_run zm_229 (0, zz_ent zm_229.2.2.1 (.ref 271 :: us), [], cs, 0, 0) (fun v cs' => l_k false v ∧ l_J n m cs') := l_gen k_222 (X := []) (by decide +kernel) rfl hJ l_nil (l_ar_ok rfl (by decide +kernel) hl hu)
theorem lx_133 (hl : us.length = 4) (hu : ∀ u ∈ us, ∃ z : Int32, u = .int z) (hJ : l_J n m cs) : tr_run zm_133 (0, zz_ent zm_133.2.2.1 (.ref 1 :: us), [], cs, 0, 0) (fun v cs' => l_k true v ∧ l_J n m cs') := l_gen k_223 (X := []) (by decide +kernel) rfl hJ l_nil (l_ar_ok rfl (by decide +kernel) hl hu)
theorem lm_230 (hl : us.length = 4) (hu : ∀ u ∈ us, ∃ z : Int32, u = .int z) (hJ : l_J n m cs) : tr_run zm_230 (0, zz_ent zm_230.2.2.1 (.ref 271 :: us), [], cs, 0, 0) (fun v cs' => l_k true v ∧ l_J n m cs') := l_gen k_224 (X := []) (by decide +kernel) rfl hJ l_nil (l_ar_ok rfl (by decide +kernel) hl hu)
theorem lx_136 (hl : us.length = 2) (hu : ∀ u ∈ us, ∃ z : Int32, u = .int z) (hJ : l_J n m cs) : tr_run zm_136 (0, zz_ent zm_136.2.2.1 (.ref 1 :: us), [], cs, 0, 0) (fun v cs' => l_k false v ∧ l_J n m cs') := l_gen k_226 (X := []) (by decide +kernel) rfl hJ l_nil (l_ar_ok rfl (by decide +kernel) hl hu)
theorem lm_233 (hl : us.length = 2) (hu : ∀ u ∈ us, ∃ z : Int32, u = .int z) (hJ : l_J n m cs) : tr_run zm_233 (0, zz_ent zm_233.2.2.1 (.ref 271 :: us), [], cs, 0, 0) (fun v cs' => l_k false v ∧ l_J n m cs') := l_gen k_227 (X := []) (by decide +kernel) rfl hJ l_nil (l_ar_ok rfl (by decide +kernel) hl hu)
theorem lx_138 (hl : us.length = 1) (hu : ∀ u ∈ us, ∃ z : Int32, u = .int z) (hJ : l_J n m cs) : tr_run zm_138 (0, zz_ent zm_138.2.2.1 (.ref 1 :: us), [], cs, 0, 0) (fun v cs' => l_k false v ∧ l_J n m cs') := l_gen k_231 (X := []) (by decide +kernel) rfl hJ l_nil (l_ar_ok rfl (by decide +kernel) hl hu)
theorem lm_234 (hl : us.length = 1) (hu : ∀ u ∈ us, ∃ z : Int32, u = .int z) (hJ : l_J n m cs) : tr_run zm_234 (0, zz_ent zm_234.2.2.1 (.ref 271 :: us), [], cs, 0, 0) (fun v cs' => l_k false v ∧ l_J n m cs') := l_gen k_236 (X := []) (by decide +kernel) rfl hJ l_nil (l_ar_ok rfl (by decide +kernel) hl hu)
theorem lx_142 (hl : us.length = 1) (hu : ∀ u ∈ us, ∃ z : Int32, u = .int z) (hJ : l_J n m cs) : tr_run zm_142 (0, zz_ent zm_142.2.2.1 (.ref 1 :: us), [], cs, 0, 0) (fun v cs' => l_k false v ∧ l_J n m cs') := l_gen k_237 (X := []) (by decide +kernel) rfl hJ l_nil (l_ar_ok rfl (by decide +kernel) hl hu)
theorem lm_239 (hl : us.length = 1) (hu : ∀ u ∈ us, ∃ z : Int32, u = .int z) (hJ : l_J n m cs) : tr_run zm_239 (0, zz_ent zm_239.2.2.1 (.ref 271 :: us), [], cs, 0, 0) (fun v cs' => l_k false v ∧ l_J n m cs') := l_gen k_238 (X := []) (by decide +kernel) rfl hJ l_nil (l_ar_ok rfl (by decide +kernel) hl hu)
theorem lx_135 (hl : us.length = 2) (hu : ∀ u ∈ us, ∃ z : Int32, u = .int z) (hJ : l_J n m cs) : tr_run zm_135 (0, zz_ent zm_135.2.2.1 (.ref 1 :: us), [], cs, 0, 0) (fun v cs' => l_k true v ∧ l_J n m cs') := l_gen k_239 (X := []) (by decide +kernel) rfl hJ l_nil (l_ar_ok rfl (by decide +kernel) hl hu)
theorem lm_240 (hl : us.length = 2) (hu : ∀ u ∈ us, ∃ z : Int32, u = .int z) (hJ : l_J n m cs) : tr_run zm_240 (0, zz_ent zm_240.2.2.1 (.ref 271 :: us), [], cs, 0, 0) (fun v cs' => l_k true v ∧ l_J n m cs') := l_gen k_240 (X := []) (by decide +kernel) rfl hJ l_nil (l_ar_ok rfl (by decide +kernel) hl hu)
theorem lx_143 (hl : us.length = 1) (hu : ∀ u ∈ us, ∃ z : Int32, u = .int z) (hJ : l_J n m cs) : tr_run zm_143 (0, zz_ent zm_143.2.2.1 (.ref 1 :: us), [], cs, 0, 0) (fun v cs' => l_k false v ∧ l_J n m cs') := l_gen k_241 (X := []) (by decide +kernel) rfl hJ l_nil (l_ar_ok rfl (by decide +kernel) hl hu)
theorem lm_241 (hl : us.length = 1) (hu : ∀ u ∈ us, ∃ z : Int32, u = .int z) (hJ : l_J n m cs) : tr_run zm_241 (0, zz_ent zm_241.2.2.1 (.ref 271 :: us), [], cs, 0, 0) (fun v cs' => l_k false v ∧ l_J n m cs') := l_gen k_242 (X := []) (by decide +kernel) rfl hJ l_nil (l_ar_ok rfl (by decide +kernel) hl hu)
theorem lx_144 (hl : us.length = 1) (hu : ∀ u ∈ us, ∃ z : Int32, u = .int z) (hJ : l_J n m cs) : tr_run zm_144 (0, zz_ent zm_144.2.2.1 (.ref 1 :: us), [], cs, 0, 0) (fun v cs' => l_k false v ∧ l_J n m cs') := l_gen k_248 (X := []) (by decide +kernel) rfl hJ l_nil (l_ar_ok rfl (by decide +kernel) hl hu)
theorem lm_242 (hl : us.length = 1) (hu : ∀ u ∈ us, ∃ z : Int32, u = .int z) (hJ : l_J n m cs) : tr_run zm_242 (0, zz_ent zm_242.2.2.1 (.ref 271 :: us), [], cs, 0, 0) (fun v cs' => l_k false v ∧ l_J n m cs') := l_gen k_253 (X := []) (by decide +kernel) rfl hJ l_nil (l_ar_ok rfl (by decide +kernel) hl hu)
theorem lx_101 (hl : us.length = 3) (hu : ∀ u ∈ us, ∃ z : Int32, u = .int z) (hJ : l_J n m cs) : tr_run zm_101 (0, zz_ent zm_101.2.2.1 (.ref 1 :: us), [], cs, 0, 0) (fun v cs' => l_k false v ∧ l_J n m cs') := l_gen k_254 (X := []) (by decide +kernel) rfl hJ l_nil (l_ar_ok rfl (by decide +kernel) hl hu)
theorem lm_246 (hl : us.length = 3) (hu : ∀ u ∈ us, ∃ z : Int32, u = .int z) (hJ : l_J n m cs) : tr_run zm_246 (0, zz_ent zm_246.2.2.1 (.ref 271 :: us), [], cs, 0, 0) (fun v cs' => l_k false v ∧ l_J n m cs') := l_gen k_255 (X := []) (by decide +kernel) rfl hJ l_nil (l_ar_ok rfl (by decide +kernel) hl hu)
theorem lx_129 (hl : us.length = 0) (hu : ∀ u ∈ us, ∃ z : Int32, u = .int z) (hJ : l_J n m cs) : tr_run zm_129 (0, zz_ent zm_129.2.2.1 (.ref 1 :: us), [], cs, 0, 0) (fun v cs' => l_k false v ∧ l_J 0 m cs') := by
  refine tr_mono (l_stay k_264 (X := []) (by decide +kernel) rfl hJ.1 l_nil (l_ar_ok rfl (by decide +kernel) hl hu)) ?_
  rintro v cs' ⟨h1, h2⟩
  refine ⟨l_ans_ok (by decide +kernel) h2, h1, ?_, l_kone (by decide +kernel) hJ.ty h2.2.1 hJ.2.2⟩
  exact l_zero (by decide +kernel) h2
theorem lm_248 (hl : us.length = 0) (hu : ∀ u ∈ us, ∃ z : Int32, u = .int z) (hJ : l_J n m cs) : tr_run zm_248 (0, zz_ent zm_248.2.2.1 (.ref 271 :: us), [], cs, 0, 0) (fun v cs' => l_k false v ∧ l_J n 0 cs') := by
  refine tr_mono (l_stay k_265 (X := []) (by decide +kernel) rfl hJ.1 l_nil (l_ar_ok rfl (by decide +kernel) hl hu)) ?_
  rintro v cs' ⟨h1, h2⟩
  refine ⟨l_ans_ok (by decide +kernel) h2, h1, l_kone (by decide +kernel) hJ.ty h2.2.1 hJ.2.1, ?_⟩
  exact l_zero (by decide +kernel) h2
theorem lx_128 (hl : us.length = 0) (hu : ∀ u ∈ us, ∃ z : Int32, u = .int z) (hJ : l_J n m cs) (hn : 0 ≤ n ∧ n ≤ 12) : tr_run zm_128 (0, zz_ent zm_128.2.2.1 (.ref 1 :: us), [], cs, 0, 0) (fun v cs' => l_k false v ∧ l_J 0 m cs') := by
  refine tr_mono (l_stay k_266 (X := [(l_kL, .ofNat 0, .ofNat 12)]) (by decide +kernel) rfl hJ.1 (l_fX hJ.2.1 hn) (l_ar_ok rfl (by decide +kernel) hl hu)) ?_
  rintro v cs' ⟨h1, h2⟩
  refine ⟨l_ans_ok (by decide +kernel) h2, h1, ?_, l_kone (by decide +kernel) hJ.ty h2.2.1 hJ.2.2⟩
  exact l_zero (by decide +kernel) h2
theorem lm_249 (hl : us.length = 0) (hu : ∀ u ∈ us, ∃ z : Int32, u = .int z) (hJ : l_J n m cs) (hn : 0 ≤ m ∧ m ≤ 12) : tr_run zm_249 (0, zz_ent zm_249.2.2.1 (.ref 271 :: us), [], cs, 0, 0) (fun v cs' => l_k false v ∧ l_J n 0 cs') := by
  refine tr_mono (l_stay k_267 (X := [(l_kM, .ofNat 0, .ofNat 12)]) (by decide +kernel) rfl hJ.1 (l_fX hJ.2.2 hn) (l_ar_ok rfl (by decide +kernel) hl hu)) ?_
  rintro v cs' ⟨h1, h2⟩
  refine ⟨l_ans_ok (by decide +kernel) h2, h1, l_kone (by decide +kernel) hJ.ty h2.2.1 hJ.2.1, ?_⟩
  exact l_zero (by decide +kernel) h2
theorem lx_137 (hl : us.length = 3) (hu : ∀ u ∈ us, ∃ z : Int32, u = .int z) (hJ : l_J n m cs) : tr_run zm_137 (0, zz_ent zm_137.2.2.1 (.ref 1 :: us), [], cs, 0, 0) (fun v cs' => l_k false v ∧ l_J n m cs') := l_gen k_268 (X := []) (by decide +kernel) rfl hJ l_nil (l_ar_ok rfl (by decide +kernel) hl hu)
theorem lm_250 (hl : us.length = 3) (hu : ∀ u ∈ us, ∃ z : Int32, u = .int z) (hJ : l_J n m cs) : tr_run zm_250 (0, zz_ent zm_250.2.2.1 (.ref 271 :: us), [], cs, 0, 0) (fun v cs' => l_k false v ∧ l_J n m cs') := l_gen k_270 (X := []) (by decide +kernel) rfl hJ l_nil (l_ar_ok rfl (by decide +kernel) hl hu)
theorem lx_94 (hl : us.length = 0) (hu : ∀ u ∈ us, ∃ z : Int32, u = .int z) (hJ : l_J n m cs) : tr_run zm_94 (0, zz_ent zm_94.2.2.1 (.ref 1 :: us), [], cs, 0, 0) (fun v cs' => l_k false v ∧ l_J n m cs') := l_gen k_273 (X := []) (by decide +kernel) rfl hJ l_nil (l_ar_ok rfl (by decide +kernel) hl hu)
theorem lm_181 (hl : us.length = 0) (hu : ∀ u ∈ us, ∃ z : Int32, u = .int z) (hJ : l_J n m cs) : tr_run zm_181 (0, zz_ent zm_181.2.2.1 (.ref 271 :: us), [], cs, 0, 0) (fun v cs' => l_k false v ∧ l_J n m cs') := l_gen3 k_275 (X := []) (by decide +kernel) rfl hJ l_nil (l_ar_ok rfl (by decide +kernel) hl hu)
theorem lx_95 (hl : us.length = 0) (hu : ∀ u ∈ us, ∃ z : Int32, u = .int z) (hJ : l_J n m cs) : tr_run zm_95 (0, zz_ent zm_95.2.2.1 (.ref 1 :: us), [], cs, 0, 0) (fun v cs' => l_k false v ∧ l_J n m cs') := l_gen k_278 (X := []) (by decide +kernel) rfl hJ l_nil (l_ar_ok rfl (by decide +kernel) hl hu)
theorem lm_182 (hl : us.length = 0) (hu : ∀ u ∈ us, ∃ z : Int32, u = .int z) (hJ : l_J n m cs) : tr_run zm_182 (0, zz_ent zm_182.2.2.1 (.ref 271 :: us), [], cs, 0, 0) (fun v cs' => l_k false v ∧ l_J n m cs') := by
  obtain ⟨⟨T, h, hT8, hh, hI⟩, hL⟩ := id hJ
  rcases hh with rfl | rfl
  · match T, hT8, hI with
    | 0, hT8, hI => exact l_gen2 k_279 (X := []) (by decide +kernel) rfl hT8 hI hJ l_nil (l_ar_ok rfl (by decide +kernel) hl hu)
    | 1, hT8, hI => exact l_gen2 k_279 (X := []) (by decide +kernel) rfl hT8 hI hJ l_nil (l_ar_ok rfl (by decide +kernel) hl hu)
    | 2, hT8, hI => exact l_gen2 k_279 (X := []) (by decide +kernel) rfl hT8 hI hJ l_nil (l_ar_ok rfl (by decide +kernel) hl hu)
    | 3, hT8, hI => exact l_gen2 k_279 (X := []) (by decide +kernel) rfl hT8 hI hJ l_nil (l_ar_ok rfl (by decide +kernel) hl hu)
    | 4, hT8, hI => exact l_gen2 k_279 (X := []) (by decide +kernel) rfl hT8 hI hJ l_nil (l_ar_ok rfl (by decide +kernel) hl hu)
    | 5, hT8, hI => exact l_gen2 k_279 (X := []) (by decide +kernel) rfl hT8 hI hJ l_nil (l_ar_ok rfl (by decide +kernel) hl hu)
    | 6, hT8, hI => exact l_gen2 k_279 (X := []) (by decide +kernel) rfl hT8 hI hJ l_nil (l_ar_ok rfl (by decide +kernel) hl hu)
    | 7, hT8, hI => exact l_gen2 k_279 (X := []) (by decide +kernel) rfl hT8 hI hJ l_nil (l_ar_ok rfl (by decide +kernel) hl hu)
    | 8, hT8, hI => exact l_gen2 k_279 (X := []) (by decide +kernel) rfl hT8 hI hJ l_nil (l_ar_ok rfl (by decide +kernel) hl hu)
    | t + 9, hT8, _ => exact absurd hT8 (by omega)
  · match T, hT8, hI with
    | 0, hT8, hI => exact l_gen2 k_281 (X := []) (by decide +kernel) rfl hT8 hI hJ l_nil (l_ar_ok rfl (by decide +kernel) hl hu)
    | 1, hT8, hI => exact l_gen2 k_281 (X := []) (by decide +kernel) rfl hT8 hI hJ l_nil (l_ar_ok rfl (by decide +kernel) hl hu)
    | 2, hT8, hI => exact l_gen2 k_281 (X := []) (by decide +kernel) rfl hT8 hI hJ l_nil (l_ar_ok rfl (by decide +kernel) hl hu)
    | 3, hT8, hI => exact l_gen2 k_281 (X := []) (by decide +kernel) rfl hT8 hI hJ l_nil (l_ar_ok rfl (by decide +kernel) hl hu)
    | 4, hT8, hI => exact l_gen2 k_281 (X := []) (by decide +kernel) rfl hT8 hI hJ l_nil (l_ar_ok rfl (by decide +kernel) hl hu)
    | 5, hT8, hI => exact l_gen2 k_281 (X := []) (by decide +kernel) rfl hT8 hI hJ l_nil (l_ar_ok rfl (by decide +kernel) hl hu)
    | 6, hT8, hI => exact l_gen2 k_281 (X := []) (by decide +kernel) rfl hT8 hI hJ l_nil (l_ar_ok rfl (by decide +kernel) hl hu)
    | 7, hT8, hI => exact l_gen2 k_281 (X := []) (by decide +kernel) rfl hT8 hI hJ l_nil (l_ar_ok rfl (by decide +kernel) hl hu)
    | 8, hT8, hI => exact l_gen2 k_281 (X := []) (by decide +kernel) rfl hT8 hI hJ l_nil (l_ar_ok rfl (by decide +kernel) hl hu)
    | t + 9, hT8, _ => exact absurd hT8 (by omega)
theorem lx_78 (hl : us.length = 1) (hu : ∀ u ∈ us, ∃ z : Int32, u = .int z) (hJ : l_J n m cs) : tr_run zm_78 (0, zz_ent zm_78.2.2.1 (.ref 1 :: us), [], cs, 0, 0) (fun v cs' => l_k false v ∧ l_J n m cs') := l_gen k_283 (X := []) (by decide +kernel) rfl hJ l_nil (l_ar_ok rfl (by decide +kernel) hl hu)
theorem lm_252 (hl : us.length = 1) (hu : ∀ u ∈ us, ∃ z : Int32, u = .int z) (hJ : l_J n m cs) : tr_run zm_252 (0, zz_ent zm_252.2.2.1 (.ref 271 :: us), [], cs, 0, 0) (fun v cs' => l_k false v ∧ l_J n m cs') := l_gen k_284 (X := []) (by decide +kernel) rfl hJ l_nil (l_ar_ok rfl (by decide +kernel) hl hu)
end LM1
