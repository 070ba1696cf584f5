section
/-! what a method leaves as it is, read off its tree: states of the cells (S), what a store does to them (put), what the methods called do (tables) -/
noncomputable def fA (al : Int → Int → Bool) (h h' : fH) : Prop := ∀ c k, al c k = false → h' c k = h c k
theorem fA.rf {al : Int → Int → Bool} (h : fH) : fA al h h := fun _ _ _ => rfl
theorem fA.tr {al : Int → Int → Bool} {h h1 h2 : fH} (a : fA al h h1) (b : fA al h1 h2) : fA al h h2 := fun c k q => (b c k q).trans (a c k q)
theorem fA.mono {al bl : Int → Int → Bool} {h h' : fH} (a : fA al h h') (hi : ∀ c k, bl c k = false → al c k = false) : fA bl h h' := fun c k q => a c k (hi c k q)
theorem fA.up {al : Int → Int → Bool} {h h1 : fH} {c k z : Int} (a : fA al h h1) (hc : al c k = true) : fA al h (fu h1 c k z) := fun c' k' q => by
  unfold fu
  split
  · rename_i e
    rw [e.1, e.2, hc] at q
    cases q
  · exact a c' k' q
theorem fA.cp {al : Int → Int → Bool} {h h1 : fH} {i j n : Int} (a : fA al h h1) (hc : ∀ k, al j k = true) : fA al h (fcp h1 i j n) := fun c' k' q => by
  unfold fcp
  split
  · rename_i e
    rw [e.1, hc] at q
    cases q
  · exact a c' k' q
/-- the first operand's cell, where it is known: the base by its name or outright -/
noncomputable def x_fb (b : Int) (fl : Bool) (o : xO) : Option Int := match o with
  | .inr z => some z
  | .inl 0 => if fl then some b else none
  | .inl _ => none
theorem x_fb_ok {b : Int} {fl : Bool} {o : xO} {c : Int} {ρ : List Int} (h : x_fb b fl o = some c) (hr : fl = true → ρ.head? = some b) : xe ρ o = c := by
  unfold x_fb at h
  split at h
  · cases h
    rfl
  · split at h
    · rename_i hf
      cases h
      cases ρ with
      | nil => cases hr hf
      | cons a t =>
        have := hr hf
        cases this
        rfl
    · cases h
  · cases h
/-- arguments that must be some number -/
noncomputable def xR : List (Option Int) → List Int → Prop
  | [], _ => True
  | none :: r, _ :: as => xR r as
  | some c :: r, a :: as => a = c ∧ xR r as
  | _ :: _, [] => False
noncomputable def x_fbl (b : Int) (fl : Bool) : List (Option Int) → List xO → Bool
  | [], _ => true
  | none :: r, _ :: as => x_fbl b fl r as
  | some c :: r, o :: as => (match x_fb b fl o with
    | some d => decide (d = c)
    | none => false) && x_fbl b fl r as
  | _ :: _, [] => false
theorem x_fbl_ok {b : Int} {fl : Bool} {ρ : List Int} (hr : fl = true → ρ.head? = some b) : ∀ {rq : List (Option Int)} {as : List xO}, x_fbl b fl rq as = true → xR rq (xes ρ as)
  | [], _, _ => trivial
  | none :: r, [], h => by cases h
  | some c :: r, [], h => by cases h
  | none :: r, o :: as, h => x_fbl_ok (as := as) hr h
  | some c :: r, o :: as, h => by
    simp only [x_fbl, Bool.and_eq_true] at h
    obtain ⟨h1, h2⟩ := h
    split at h1
    · rename_i d hd
      have e := of_decide_eq_true h1
      rw [e] at hd
      exact ⟨x_fb_ok hd hr, x_fbl_ok hr h2⟩
    · cases h1
/-- is the first argument the base -/
noncomputable def x_fl (b : Int) (rq : List (Option Int)) : Bool := match rq with
  | some c :: _ => decide (c = b)
  | _ => false
theorem x_fl_ok {b : Int} {rq : List (Option Int)} {as : List Int} (h : x_fl b rq = true) (hr : xR rq as) : as.head? = some b := by
  unfold x_fl at h
  split at h
  · have e := of_decide_eq_true h
    cases as with
    | nil => exact absurd hr id
    | cons a t =>
      show some a = some b
      rw [hr.1, e]
  · cases h
noncomputable abbrev xP : Type := Nat → Int → Option Int → Option Nat
-- a method, arguments that it must have, the state before and behind
noncomputable abbrev xEn : Type := Nat × List (Option Int) × Nat × Nat
noncomputable def x_le (s p : Nat) : Bool := decide (s = p) || decide (s = 1)
noncomputable def x_cl (b : Int) (fl : Bool) (tbl : List xEn) (j : Nat) (as : List xO) (s : Nat) : Option Nat := match tbl.find? (fun e => decide (e.1 = j) && (x_le s e.2.2.1 && x_fbl b fl e.2.1 as)) with
  | some e => some e.2.2.2
  | none => none
noncomputable def xkn (put : xP) (tbl : List xEn) (b : Int) (lps : List (Bool × Nat)) (fl : Bool) (s1 : Nat) (nd : xN) (ih : Nat → Nat → Bool) (s : Nat) : Bool := match nd with
  | (0, _, _, _) => ih 0 s
  | (1, _, _, _) => ih 0 s
  | (2, [o, _], k, _) => match x_fb b fl o with
    | some c => match put s c (some (k : Int)) with
      | some s' => ih 0 s'
      | none => false
    | none => false
  | (3, [o, _, _], _, _) => match x_fb b fl o with
    | some c => match put s c none with
      | some s' => ih 0 s'
      | none => false
    | none => false
  | (4, _, _, _) => ih 0 s
  | (5, _, _, _) => ih 0 s
  | (6, _, _, _) => ih 0 s
  | (7, [_, o, _], _, _) => match x_fb b fl o with
    | some c => match put s c none with
      | some s' => ih 0 s'
      | none => false
    | none => false
  | (8, _, _, _) => ih 0 s
  | (9, _, _, _) => ih 0 s
  | (10, _, _, m) => ih 0 s && ih (Int.toNat m) s
  | (11, _, _, _) => x_le s s1
  | (12, as, k, _) => match lps[k]? with
    | some (f, p) => x_le s p && (!f || x_fbl b fl [some b] as)
    | none => false
  | (13, as, j, _) => match x_cl b fl tbl j as s with
    | some s' => ih 0 s'
    | none => false
  | _ => false
noncomputable def xk (put : xP) (tbl : List xEn) (b : Int) (lps : List (Bool × Nat)) (fl : Bool) (s1 : Nat) : xT → Nat → Nat → Bool
  | [], _, _ => true
  | _ :: T, m + 1, s => xk put tbl b lps fl s1 T m s
  | nd :: T, 0, s => xkn put tbl b lps fl s1 nd (xk put tbl b lps fl s1 T) s
noncomputable def xkl (put : xP) (tbl : List xEn) (b : Int) (lps : List (Bool × Nat)) (s1 : Nat) : List xT → List (Bool × Nat) → Bool
  | [], [] => true
  | T :: Ts, l :: ls => xk put tbl b lps l.1 s1 T 0 l.2 && xkl put tbl b lps s1 Ts ls
  | _, _ => false
noncomputable def XC (S : Nat → fH → Prop) (e : xEn) : Prop := ∀ (as : List Int) (h : fH) (v : Int) (h' : fH), xR e.2.1 as → S e.2.2.1 h → fS e.1 as h v h' → S e.2.2.2 h'
noncomputable def XA (S : Nat → fH → Prop) (tbl : List xEn) : Prop := ∀ e ∈ tbl, XC S e
theorem x_n {S : Nat → fH → Prop} : XA S [] := fun e h => by cases h
theorem x_c {S : Nat → fH → Prop} {e : xEn} {t : List xEn} (h1 : XC S e) (h2 : XA S t) : XA S (e :: t) := List.forall_mem_cons.mpr ⟨h1, h2⟩
/-- what a store does is sound -/
noncomputable def XP (S : Nat → fH → Prop) (put : xP) : Prop := (∀ s c k s' h z, put s c (some k) = some s' → S s h → S s' (fu h c k z)) ∧ (∀ s c s' h i z, put s c none = some s' → S s h → S s' (fu h c i z)) ∧ (∀ s c s' h i n, put s c none = some s' → S s h → S s' (fcp h i c n))
noncomputable def XL (S : Nat → fH → Prop) : Prop := ∀ s p h, x_le s p = true → S s h → S p h
theorem xk_ok {put : xP} {tbl : List xEn} {b : Int} {lps : List (Bool × Nat)} {fl : Bool} {s1 : Nat} {S : Nat → fH → Prop} (hP : XP S put) (hA : XA S tbl) (hL : XL S) : ∀ (T : xT) (m s : Nat) (ρ : List Int) (h : fH), xk put tbl b lps fl s1 T m s = true → (fl = true → ρ.head? = some b) → S s h → xd (fun i vals h => ∀ f p, lps[i]? = some (f, p) → (f = true → vals.head? = some b) ∧ S p h) (fun _ h => S s1 h) T m ρ h
  | [], _, _, _, _, _, _, _ => trivial
  | _ :: T, m + 1, s, ρ, h, hk, hr, hs => xk_ok hP hA hL T m s ρ h hk hr hs
  | nd :: T, 0, s, ρ, h, hk, hr, hs => by
    have ih := xk_ok (b := b) (lps := lps) (fl := fl) (s1 := s1) hP hA hL T
    have hr' : ∀ z : Int, fl = true → (ρ ++ [z]).head? = some b := fun z hf => by
      have h1 := hr hf
      cases ρ with
      | nil => cases h1
      | cons a t => exact h1
    have hk : xkn put tbl b lps fl s1 nd (xk put tbl b lps fl s1 T) s = true := hk
    show xnd (fun i vals h => ∀ f p, lps[i]? = some (f, p) → (f = true → vals.head? = some b) ∧ S p h) (fun _ h => S s1 h) nd (xd (fun i vals h => ∀ f p, lps[i]? = some (f, p) → (f = true → vals.head? = some b) ∧ S p h) (fun _ h => S s1 h) T) ρ h
    unfold xnd
    split
    · exact fun z _ => ih 0 s _ h hk (hr' z) hs
    · exact fun z _ => ih 0 s _ h hk (hr' z) hs
    · rename_i o v k z0 _
      have hk : (match x_fb b fl o with
        | some c => match put s c (some (k : Int)) with
          | some s' => xk put tbl b lps fl s1 T 0 s'
          | none => false
        | none => false) = true := hk
      split at hk
      · rename_i c hc
        split at hk
        · rename_i s' hs'
          intro h' e
          rw [e, x_fb_ok hc hr]
          exact ih 0 s' ρ _ hk hr (hP.1 _ _ _ _ _ _ hs' hs)
        · cases hk
      · cases hk
    · rename_i o i v k z0 _
      have hk : (match x_fb b fl o with
        | some c => match put s c none with
          | some s' => xk put tbl b lps fl s1 T 0 s'
          | none => false
        | none => false) = true := hk
      split at hk
      · rename_i c hc
        split at hk
        · rename_i s' hs'
          intro h' e
          rw [e, x_fb_ok hc hr]
          exact ih 0 s' ρ _ hk hr (hP.2.1 _ _ _ _ _ _ hs' hs)
        · cases hk
      · cases hk
    · exact fun z _ => ih 0 s _ h hk (hr' z) hs
    · exact fun z _ => ih 0 s _ h hk (hr' z) hs
    · exact fun z _ => ih 0 s _ h hk (hr' z) hs
    · rename_i i o n k z0 _
      have hk : (match x_fb b fl o with
        | some c => match put s c none with
          | some s' => xk put tbl b lps fl s1 T 0 s'
          | none => false
        | none => false) = true := hk
      split at hk
      · rename_i c hc
        split at hk
        · rename_i s' hs'
          intro h' e
          rw [e, x_fb_ok hc hr]
          exact ih 0 s' ρ _ hk hr (hP.2.2 _ _ _ _ _ _ hs' hs)
        · cases hk
      · cases hk
    · exact fun z _ => ih 0 s _ h hk (hr' z) hs
    · exact fun z _ => ih 0 s _ h hk (hr' z) hs
    · rename_i a c o m _
      have hk : (xk put tbl b lps fl s1 T 0 s && xk put tbl b lps fl s1 T (Int.toNat m) s) = true := hk
      rw [Bool.and_eq_true] at hk
      exact ⟨fun _ => ih 0 s ρ h hk.1 hr hs, fun _ => ih _ s ρ h hk.2 hr hs⟩
    · exact hL _ _ _ hk hs
    · rename_i as k z0 _
      have hk : (match lps[k]? with
        | some (f, p) => x_le s p && (!f || x_fbl b fl [some b] as)
        | none => false) = true := hk
      split at hk
      · rename_i f p hl
        rw [Bool.and_eq_true] at hk
        intro f' p' hl'
        rw [hl] at hl'
        cases hl'
        refine ⟨fun hf => ?_, hL _ _ _ hk.1 hs⟩
        rw [hf] at hk
        exact x_fl_ok (rq := [some b]) (decide_eq_true rfl) (x_fbl_ok hr hk.2)
      · cases hk
    · rename_i as j z0 _
      have hk2 : (match x_cl b fl tbl j as s with
        | some s' => xk put tbl b lps fl s1 T 0 s'
        | none => false) = true := hk
      split at hk2
      · rename_i s' hc
        intro v h' hS
        unfold x_cl at hc
        split at hc
        · rename_i e he
          cases hc
          have h1 := List.mem_of_find?_eq_some he
          have h2 := List.find?_some he
          simp only [Bool.and_eq_true, decide_eq_true_eq] at h2
          obtain ⟨h3, h4, h5⟩ := h2
          subst h3
          exact ih 0 _ _ h' hk2 (hr' v) (hA e h1 _ h v h' (x_fbl_ok hr h5) (hL _ _ _ h4 hs) hS)
        · cases hc
      · cases hk2
    · trivial
theorem xkl_at {put : xP} {tbl : List xEn} {b : Int} {lps : List (Bool × Nat)} {s1 : Nat} : ∀ {Ts : List xT} {ls : List (Bool × Nat)}, xkl put tbl b lps s1 Ts ls = true → ∀ (i : Nat) (T : xT), Ts[i]? = some T → ∃ f p, ls[i]? = some (f, p) ∧ xk put tbl b lps f s1 T 0 p = true
  | [], [], _, i, T, hT => by simp at hT
  | [], _ :: _, h, _, _, _ => by cases h
  | _ :: _, [], h, _, _, _ => by cases h
  | T0 :: Ts, (f, p) :: ls, h, i, T, hT => by
    simp only [xkl, Bool.and_eq_true] at h
    cases i with
    | zero =>
      cases hT
      exact ⟨f, p, rfl, h.1⟩
    | succ i => exact xkl_at h.2 i T hT
theorem x_state {put : xP} {tbl : List xEn} {b : Int} {S : Nat → fH → Prop} {lps : List (Bool × Nat)} {e : xEn} {hd : xHd} {T : xT} {Ts : List xT} {n : Nat} (hP : XP S put) (hL : XL S) (hc : x_chk e.1 hd T Ts n = true) (h1 : xk put tbl b lps (x_fl b e.2.1) e.2.2.2 T 0 e.2.2.1 = true) (h2 : xkl put tbl b lps e.2.2.2 Ts lps = true) (hA : XA S tbl) : XC S e := by
  intro as h v h' hb hs hS
  refine x_met hc hS (fun i vals h => ∀ f p, lps[i]? = some (f, p) → (f = true → vals.head? = some b) ∧ S p h) (fun _ h => S e.2.2.2 h) (xk_ok hP hA hL T 0 _ as h h1 (fun hf => x_fl_ok hf hb) hs) ?_
  intro i Ti hT vals h hI
  obtain ⟨f, p, hl, hk⟩ := xkl_at h2 i Ti hT
  obtain ⟨i1, i2⟩ := hI f p hl
  exact xk_ok hP hA hL Ti 0 p vals h hk i1 i2
-- cells that may change whole, fields that may change
noncomputable def alO (aw af : List (Int × Int)) (c k : Int) : Bool := aw.any (fun r => decide (r.1 ≤ c) && decide (c ≤ r.2)) || af.any (fun r => decide (c = r.1) && decide (k = r.2))
noncomputable def SF (al : Int → Int → Bool) (h0 : fH) : Nat → fH → Prop := fun _ h => fA al h0 h
noncomputable def pF (aw af : List (Int × Int)) : xP := fun s c k => match aw.any (fun r => decide (r.1 ≤ c) && decide (c ≤ r.2)) with
  | true => some s
  | false => match k with
    | some k => match af.any (fun r => decide (c = r.1) && decide (k = r.2)) with
      | true => some s
      | false => none
    | none => none
theorem SF_L {al : Int → Int → Bool} {h0 : fH} : XL (SF al h0) := fun _ _ _ _ h => h
theorem SF_P {aw af : List (Int × Int)} {h0 : fH} : XP (SF (alO aw af) h0) (pF aw af) := by
  have hw : ∀ {c : Int}, aw.any (fun r => decide (r.1 ≤ c) && decide (c ≤ r.2)) = true → ∀ k, alO aw af c k = true := fun h k => by
    unfold alO
    rw [h]
    rfl
  refine ⟨fun s c k s' h z hp hs => ?_, fun s c s' h i z hp hs => ?_, fun s c s' h i n hp hs => ?_⟩
  · unfold pF at hp
    split at hp
    · rename_i q
      exact fA.up hs (hw q k)
    · dsimp only at hp
      split at hp
      · rename_i q
        refine fA.up hs ?_
        unfold alO
        rw [q, Bool.or_true]
      · cases hp
  · unfold pF at hp
    split at hp
    · rename_i q
      exact fA.up hs (hw q i)
    · cases hp
  · unfold pF at hp
    split at hp
    · rename_i q
      exact fA.cp hs (hw q)
    · cases hp
end
section
/-! the reference lays its town down, or up again -/
/-- it has come to place P: kp is whether it lays down, T the cell, g the town before, G the row -/
noncomputable def CY (kp T : Int) (g G : gV) (h0 : fH) (P : Int) (h : fH) : Prop :=
  h 271 29 = P ∧ h 271 30 = kp ∧ h 271 31 = T ∧
  (∀ i, 0 ≤ i → i < 113 → h (mc i) (ms i) = if i < P then G i else g i) ∧
  (∀ i, 0 ≤ i → i < 113 → (i < P ∨ kp = 0) → h T i = G i) ∧
  (∀ c k, c ≠ T → (c < 271 ∨ 284 < c ∨ (c = 271 ∧ k ≠ 0 ∧ k ≠ 15 ∧ k ≠ 9 ∧ k ≠ 29 ∧ k ≠ 30 ∧ k ≠ 31)) → h c k = h0 c k)
section CA
variable {h h' h1 h0 : fH} {v z c k kp T P : Int} {g G : gV}
theorem mc_b {i : Int} (h1 : 0 ≤ i) (h2 : i < 113) : 271 ≤ mc i ∧ mc i ≤ 284 ∧ (mc i = 271 → ms i = 0 ∨ ms i = 15 ∨ ms i = 9) := by
  unfold mc ms
  omega
theorem sr_carry (hs : fS 160 [271, z] h v h1) (hC : CY kp T g G h0 P h) (hT : 284 < T) (hP : 0 ≤ P ∧ P < 113) (ec : mc P = c) (ek : ms P = k) (hz : z = h c k) (hg : kp ≠ 0 → ∀ i, 0 ≤ i → i < 113 → g i = G i) : CY kp T g G h0 (P + 1) (fu h1 c k v) := by
  obtain ⟨a1, a2, a3, a4, a5, a6⟩ := hC
  have hb := mc_b hP.1 hP.2
  have zg : z = g P := by
    rw [hz, ← ec, ← ek, a4 P hP.1 hP.2, if_neg (by omega)]
  have key : v = G P ∧ h1 271 29 = P + 1 ∧ (∀ i, 0 ≤ i → i < 113 → (i < P + 1 ∨ kp = 0) → h1 T i = G i) ∧ (∀ c k, c ≠ T → (c ≠ 271 ∨ k ≠ 29) → h1 c k = h c k) := by
    refine vr_carry hs (fun v h1 => v = G P ∧ h1 271 29 = P + 1 ∧ (∀ i, 0 ≤ i → i < 113 → (i < P + 1 ∨ kp = 0) → h1 T i = G i) ∧ (∀ c k, c ≠ T → (c ≠ 271 ∨ k ≠ 29) → h1 c k = h c k)) ?_
    intro z2 e2
    rw [a2] at e2
    subst e2
    refine ⟨fun q z3 e3 z4 e4 k1 ek1 z5 e5 z6 e6 z7 e7 z8 e8 => ?_, fun q z3 e3 z4 e4 k1 ek1 z5 e5 z6 e6 k2 ek2 z7 e7 z8 e8 z9 e9 z10 e10 => ?_⟩
    · rw [a1] at e3
      subst e3
      rw [wr_id (by omega) (by omega)] at e4
      subst e4
      rw [ek1, fu_k (by omega), a3] at e5
      rw [ek1, fu_e rfl rfl] at e6
      subst e5 e6
      rw [wr_id (by omega) (by omega)] at e7
      have e7 : z7 = z3 := by omega
      subst e7
      have hO : ∀ c k, (c ≠ 271 ∨ k ≠ 29) → k1 c k = h c k := fun c k hc => by
        rw [ek1]
        rcases hc with r | r
        · exact fu_c r
        · exact fu_k r
      refine ⟨?_, ?_, fun i j1 j2 j3 => ?_, fun c k _ hc => hO c k hc⟩
      · rw [e8, hO _ _ (by omega)]
        exact a5 z7 hP.1 hP.2 (Or.inr q)
      · rw [ek1, fu_e rfl rfl]
      · rw [hO _ _ (by omega)]
        exact a5 i j1 j2 (Or.inr q)
    · rw [a3] at e3
      rw [a1] at e4
      subst e3 e4
      rw [ek1, fu_c (by omega), a1] at e5
      rw [wr_id (by omega) (by omega)] at e6
      subst e5
      subst e6
      rw [ek2, fu_k (by omega), ek1, fu_c (by omega), a3] at e7
      rw [ek2, fu_e rfl rfl] at e8
      subst e7 e8
      rw [wr_id (by omega) (by omega)] at e9
      have hg := hg q
      have e9' : z9 = z5 := by omega
      subst e9'
      have hT2 : ∀ i, 0 ≤ i → i < 113 → (i < z9 + 1 ∨ z2 = 0) → k2 z7 i = G i := fun i j1 j2 j3 => by
        rw [ek2, fu_c (by omega), ek1]
        by_cases hi : i = z9
        · rw [fu_e rfl hi, zg, hi]
          exact hg z9 hP.1 hP.2
        · rw [fu_k hi]
          exact a5 i j1 j2 (by omega)
      refine ⟨?_, ?_, hT2, fun c k hc1 hc => ?_⟩
      · rw [e10]
        exact hT2 z9 hP.1 hP.2 (by omega)
      · rw [ek2, fu_e rfl rfl]
      · rw [ek2]
        rcases hc with r | r
        · rw [fu_c r, ek1, fu_c hc1]
        · rw [fu_k r, ek1, fu_c hc1]
  obtain ⟨b1, b2, b3, b4⟩ := key
  subst ec
  subst ek
  refine ⟨?_, ?_, ?_, fun i j1 j2 => ?_, fun i j1 j2 j3 => ?_, fun c k hc1 hc => ?_⟩
  · unfold fu
    rw [if_neg (by omega)]
    exact b2
  · unfold fu
    rw [if_neg (by omega), b4 _ _ (by omega) (by omega)]
    exact a2
  · unfold fu
    rw [if_neg (by omega), b4 _ _ (by omega) (by omega)]
    exact a3
  · have hb2 := mc_b j1 j2
    by_cases hi : i = P
    · subst hi
      rw [fu_e rfl rfl, if_pos (by omega), b1]
    · unfold fu
      rw [if_neg (fun q => hi (m_inj j1 j2 hP.1 hP.2 q.1 q.2)), b4 _ _ (by omega) (by omega), a4 i j1 j2]
      by_cases hi2 : i < P
      · rw [if_pos hi2, if_pos (by omega)]
      · rw [if_neg hi2, if_neg (by omega)]
  · unfold fu
    rw [if_neg (by omega)]
    exact b3 i j1 j2 j3
  · unfold fu
    rw [if_neg (by omega), b4 _ _ hc1 (by omega)]
    exact a6 c k hc1 hc
theorem sr_carryAll (hs : fS 159 [271, T, kp] h v h') (hR : RM h g) (hT : 284 < T) (hg : kp ≠ 0 → ∀ i, 0 ≤ i → i < 113 → g i = G i) (hG : kp = 0 → ∀ i, 0 ≤ i → i < 113 → h T i = G i) : CY kp T g G h 113 h' := by
  refine vr_carryAll hs (fun x0 x3 q => x0 = 271 ∧ 0 ≤ x3 ∧ x3 ≤ 7 ∧ CY kp T g G h (3 + 5 * x3) q) (fun x0 x3 q => x0 = 271 ∧ 0 ≤ x3 ∧ x3 ≤ 35 ∧ CY kp T g G h (38 + x3) q) (fun x0 x3 q => x0 = 271 ∧ 0 ≤ x3 ∧ x3 ≤ 5 ∧ CY kp T g G h (73 + 2 * x3) q) (fun x0 x3 q => x0 = 271 ∧ 0 ≤ x3 ∧ x3 ≤ 6 ∧ CY kp T g G h (83 + 5 * x3) q) (fun _ q => CY kp T g G h 113 q) ?_ ?_ ?_ ?_ ?_
  · intro k1 ek1 k2 ek2 k3 ek3 z3 e3 v4 k4 hs4 k5 ek5 z5 e5 v6 k6 hs6 k7 ek7 z7 e7 v8 k8 hs8 k9 ek9
    have hO : ∀ c k, (c ≠ 271 ∨ (k ≠ 29 ∧ k ≠ 30 ∧ k ≠ 31)) → k3 c k = h c k := fun c k hc => by
      rw [ek3, ek2, ek1]
      rcases hc with r | r
      · rw [fu_c r, fu_c r, fu_c r]
      · rw [fu_k r.1, fu_k r.2.1, fu_k r.2.2]
    have c0 : CY kp T g G h 0 k3 := by
      refine ⟨?_, ?_, ?_, fun i j1 j2 => ?_, fun i j1 j2 j3 => ?_, fun c k hc1 hc => hO c k (by omega)⟩
      · rw [ek3, fu_e rfl rfl]
      · rw [ek3, fu_k (by omega), ek2, fu_e rfl rfl]
      · rw [ek3, fu_k (by omega), ek2, fu_k (by omega), ek1, fu_e rfl rfl]
      · have := mc_b j1 j2
        rw [if_neg (by omega), hO _ _ (by omega)]
        exact hR i j1 j2
      · rw [hO _ _ (by omega)]
        exact hG (by omega) i j1 j2
    have c1 := sr_carry hs4 c0 hT (by omega) (c := 271) (k := 0) (by decide) (by decide) e3 hg
    rw [← ek5] at c1
    have c2 := sr_carry hs6 c1 hT (by omega) (c := 271) (k := 15) (by decide) (by decide) e5 hg
    rw [← ek7] at c2
    have c3 := sr_carry hs8 c2 hT (by omega) (c := 271) (k := 9) (by decide) (by decide) e7 hg
    rw [← ek9] at c3
    exact ⟨rfl, by omega, by omega, c3⟩
  · rintro x0 x3 q ⟨rfl, i1, i2, c0⟩
    refine ⟨fun r => ⟨rfl, by omega, by omega, ?_⟩, fun r z2 e2 v1 k1 hs1 k2 ek2 z4 e4 v3 k3 hs3 k4 ek4 z6 e6 v5 k5 hs5 k6 ek6 z8 e8 v7 k7 hs7 k8 ek8 z10 e10 v9 k9 hs9 k10 ek10 z12 e12 => ?_⟩
    · rw [show (38 + 0 : Int) = 3 + 5 * x3 by omega]
      exact c0
    · have c1 := sr_carry hs1 c0 hT (by omega) (c := 272) (k := x3) (by unfold mc; omega) (by unfold ms; omega) e2 hg
      rw [← ek2] at c1
      have c2 := sr_carry hs3 c1 hT (by omega) (c := 273) (k := x3) (by unfold mc; omega) (by unfold ms; omega) e4 hg
      rw [← ek4] at c2
      have c3 := sr_carry hs5 c2 hT (by omega) (c := 274) (k := x3) (by unfold mc; omega) (by unfold ms; omega) e6 hg
      rw [← ek6] at c3
      have c4 := sr_carry hs7 c3 hT (by omega) (c := 275) (k := x3) (by unfold mc; omega) (by unfold ms; omega) e8 hg
      rw [← ek8] at c4
      have c5 := sr_carry hs9 c4 hT (by omega) (c := 276) (k := x3) (by unfold mc; omega) (by unfold ms; omega) e10 hg
      rw [← ek10] at c5
      rw [wr_id (by omega) (by omega)] at e12
      subst e12
      rw [show 3 + 5 * x3 + 1 + 1 + 1 + 1 + 1 = 3 + 5 * (x3 + 1) by omega] at c5
      exact ⟨rfl, by omega, by omega, c5⟩
  · rintro x0 x3 q ⟨rfl, i1, i2, c0⟩
    refine ⟨fun r => ⟨rfl, by omega, by omega, ?_⟩, fun r z2 e2 v1 k1 hs1 k2 ek2 z4 e4 => ?_⟩
    · rw [show (73 + 2 * 0 : Int) = 38 + x3 by omega]
      exact c0
    · have c1 := sr_carry hs1 c0 hT (by omega) (c := 277) (k := x3) (by unfold mc; omega) (by unfold ms; omega) e2 hg
      rw [← ek2] at c1
      rw [wr_id (by omega) (by omega)] at e4
      subst e4
      rw [show 38 + x3 + 1 = 38 + (x3 + 1) by omega] at c1
      exact ⟨rfl, by omega, by omega, c1⟩
  · rintro x0 x3 q ⟨rfl, i1, i2, c0⟩
    refine ⟨fun r => ⟨rfl, by omega, by omega, ?_⟩, fun r z2 e2 v1 k1 hs1 k2 ek2 z4 e4 v3 k3 hs3 k4 ek4 z6 e6 => ?_⟩
    · rw [show (83 + 5 * 0 : Int) = 73 + 2 * x3 by omega]
      exact c0
    · have c1 := sr_carry hs1 c0 hT (by omega) (c := 278) (k := x3) (by unfold mc; omega) (by unfold ms; omega) e2 hg
      rw [← ek2] at c1
      have c2 := sr_carry hs3 c1 hT (by omega) (c := 279) (k := x3) (by unfold mc; omega) (by unfold ms; omega) e4 hg
      rw [← ek4] at c2
      rw [wr_id (by omega) (by omega)] at e6
      subst e6
      rw [show 73 + 2 * x3 + 1 + 1 = 73 + 2 * (x3 + 1) by omega] at c2
      exact ⟨rfl, by omega, by omega, c2⟩
  · rintro x0 x3 q ⟨rfl, i1, i2, c0⟩
    refine ⟨fun r => ?_, fun r z2 e2 v1 k1 hs1 k2 ek2 z4 e4 v3 k3 hs3 k4 ek4 z6 e6 v5 k5 hs5 k6 ek6 z8 e8 v7 k7 hs7 k8 ek8 z10 e10 v9 k9 hs9 k10 ek10 z12 e12 => ?_⟩
    · rw [show (113 : Int) = 83 + 5 * x3 by omega]
      exact c0
    · have c1 := sr_carry hs1 c0 hT (by omega) (c := 280) (k := x3) (by unfold mc; omega) (by unfold ms; omega) e2 hg
      rw [← ek2] at c1
      have c2 := sr_carry hs3 c1 hT (by omega) (c := 281) (k := x3) (by unfold mc; omega) (by unfold ms; omega) e4 hg
      rw [← ek4] at c2
      have c3 := sr_carry hs5 c2 hT (by omega) (c := 282) (k := x3) (by unfold mc; omega) (by unfold ms; omega) e6 hg
      rw [← ek6] at c3
      have c4 := sr_carry hs7 c3 hT (by omega) (c := 283) (k := x3) (by unfold mc; omega) (by unfold ms; omega) e8 hg
      rw [← ek8] at c4
      have c5 := sr_carry hs9 c4 hT (by omega) (c := 284) (k := x3) (by unfold mc; omega) (by unfold ms; omega) e10 hg
      rw [← ek10] at c5
      rw [wr_id (by omega) (by omega)] at e12
      subst e12
      rw [show 83 + 5 * x3 + 1 + 1 + 1 + 1 + 1 = 83 + 5 * (x3 + 1) by omega] at c5
      exact ⟨rfl, by omega, by omega, c5⟩
/-- what neither laying down nor laying up touches -/
noncomputable def frK (T : Int) (h h' : fH) : Prop := ∀ c k, c ≠ T → (c < 271 ∨ 284 < c ∨ (c = 271 ∧ k ≠ 0 ∧ k ≠ 15 ∧ k ≠ 9 ∧ k ≠ 29 ∧ k ≠ 30 ∧ k ≠ 31)) → h' c k = h c k
theorem CY_RM (hC : CY kp T g G h0 113 h) : RM h G := fun i j1 j2 => by
  rw [hC.2.2.2.1 i j1 j2, if_pos j2]
theorem sr_down (hs : fS 159 [271, T, 1] h v h') (hR : RM h g) (hT : 284 < T) : RM h' g ∧ (∀ i, 0 ≤ i → i < 113 → h' T i = g i) ∧ frK T h h' := by
  have c := sr_carryAll (G := g) hs hR hT (fun _ i _ _ => rfl) (fun q => by omega)
  exact ⟨CY_RM c, fun i j1 j2 => c.2.2.2.2.1 i j1 j2 (Or.inl j2), c.2.2.2.2.2⟩
theorem sr_up (hs : fS 159 [271, T, 0] h v h') (hG : ∀ i, 0 ≤ i → i < 113 → h T i = G i) (hT : 284 < T) : RM h' G ∧ (∀ i, 0 ≤ i → i < 113 → h' T i = G i) ∧ frK T h h' := by
  have c := sr_carryAll (g := fun i => h (mc i) (ms i)) (G := G) hs (fun i _ _ => rfl) hT (fun q => absurd rfl q) (fun _ => hG)
  exact ⟨CY_RM c, fun i j1 j2 => c.2.2.2.2.1 i j1 j2 (Or.inl j2), c.2.2.2.2.2⟩
end CA
end
section
/-! the reference's methods that only ask: the town is again as it was (made by a program) -/
noncomputable def alQ (c k : Int) : Bool := !decide (c < 271 ∨ c = 286 ∨ c = 291 ∨ c = 292 ∨ c = 296 ∨ 297 < c ∨ (c = 271 ∧ (k = 28 ∨ k = 34 ∨ k = 19 ∨ k = 38)))
theorem alQ_t {c k : Int} (h : ¬ (c < 271 ∨ c = 286 ∨ c = 291 ∨ c = 292 ∨ c = 296 ∨ 297 < c ∨ (c = 271 ∧ (k = 28 ∨ k = 34 ∨ k = 19 ∨ k = 38)))) : alQ c k = true := by
  unfold alQ
  rw [decide_eq_false h]
  rfl
theorem alQ_f {c k : Int} (h : alQ c k = false) : c < 271 ∨ c = 286 ∨ c = 291 ∨ c = 292 ∨ c = 296 ∨ 297 < c ∨ (c = 271 ∧ (k = 28 ∨ k = 34 ∨ k = 19 ∨ k = 38)) := by
  unfold alQ at h
  rw [Bool.not_eq_false'] at h
  exact of_decide_eq_true h
noncomputable def SQ (g : gV) (h0 : fH) (s : Nat) (h : fH) : Prop := fA alQ h0 h ∧ (s ≤ 1 → RM h g) ∧ (1 ≤ s → ∀ i, 0 ≤ i → i < 113 → h 290 i = g i)
noncomputable def tnC (c : Int) (k : Option Int) : Bool := match k with
  | some k => decide (c = 271 ∧ (k = 0 ∨ k = 9 ∨ k = 15))
  | none => decide (272 ≤ c ∧ c ≤ 284)
noncomputable def ofC (c : Int) (k : Option Int) : Bool := match k with
  | some k => decide (c = 271 ∧ k ≠ 0 ∧ k ≠ 9 ∧ k ≠ 15 ∧ k ≠ 28 ∧ k ≠ 34 ∧ k ≠ 19 ∧ k ≠ 38)
  | none => decide (c = 285 ∨ (287 ≤ c ∧ c ≤ 289) ∨ (293 ≤ c ∧ c ≤ 295) ∨ c = 297)
noncomputable def putQ : xP := fun s c k => match tnC c k with
  | true => (match s with
    | 0 => none
    | _ + 1 => some 2)
  | false => match ofC c k with
    | true => some s
    | false => none
section RQ
variable {g : gV} {h0 h h' : fH} {s s' : Nat}
theorem SQ_tn (hs : SQ g h0 (s + 1) h) (h1 : fA alQ h h') (h2 : ∀ i, h' 290 i = h 290 i) : SQ g h0 2 h' := ⟨hs.1.tr h1, fun q => by omega, fun _ i j1 j2 => by rw [h2]; exact hs.2.2 (by omega) i j1 j2⟩
theorem SQ_of (hs : SQ g h0 s h) (h1 : fA alQ h h') (h2 : ∀ i, h' 290 i = h 290 i) (h3 : ∀ c k, 271 ≤ c → c ≤ 284 → (c = 271 → k = 0 ∨ k = 15 ∨ k = 9) → h' c k = h c k) : SQ g h0 s h' := ⟨hs.1.tr h1, fun q => RM_cg (hs.2.1 q) h3, fun q i j1 j2 => by rw [h2]; exact hs.2.2 q i j1 j2⟩
theorem SQ_L : XL (SQ g h0) := fun s p h hl hs => by
  unfold x_le at hl
  rw [Bool.or_eq_true, decide_eq_true_eq, decide_eq_true_eq] at hl
  rcases hl with rfl | rfl
  · exact hs
  · exact ⟨hs.1, fun _ => hs.2.1 (Nat.le_refl _), fun _ => hs.2.2 (Nat.le_refl _)⟩
theorem putQ_c {c : Int} {k : Option Int} (h : putQ s c k = some s') : (tnC c k = true ∧ s' = 2 ∧ ∃ t, s = t + 1) ∨ (tnC c k = false ∧ ofC c k = true ∧ s' = s) := by
  unfold putQ at h
  split at h
  · rename_i q
    cases s with
    | zero => cases h
    | succ t =>
      cases h
      exact Or.inl ⟨q, rfl, t, rfl⟩
  · rename_i q
    split at h
    · rename_i q2
      cases h
      exact Or.inr ⟨q, q2, rfl⟩
    · cases h
theorem SQ_P : XP (SQ g h0) putQ := by
  refine ⟨fun s c k s' h z hp hs => ?_, fun s c s' h i z hp hs => ?_, fun s c s' h i n hp hs => ?_⟩
  · rcases putQ_c hp with ⟨a1, rfl, t, rfl⟩ | ⟨a1, a2, rfl⟩
    · have a1 := of_decide_eq_true a1
      exact SQ_tn hs ((fA.rf h).up (alQ_t (by omega))) (fun i => fu_c (by omega))
    · have a2 := of_decide_eq_true a2
      exact SQ_of hs ((fA.rf h).up (alQ_t (by omega))) (fun i => fu_c (by omega)) (fun c' k' j1 j2 j3 => by unfold fu; rw [if_neg (by omega)])
  · rcases putQ_c hp with ⟨a1, rfl, t, rfl⟩ | ⟨a1, a2, rfl⟩
    · have a1 := of_decide_eq_true a1
      exact SQ_tn hs ((fA.rf h).up (alQ_t (by omega))) (fun i => fu_c (by omega))
    · have a2 := of_decide_eq_true a2
      exact SQ_of hs ((fA.rf h).up (alQ_t (by omega))) (fun i => fu_c (by omega)) (fun c' k' j1 j2 j3 => fu_c (by omega))
  · rcases putQ_c hp with ⟨a1, rfl, t, rfl⟩ | ⟨a1, a2, rfl⟩
    · have a1 := of_decide_eq_true a1
      exact SQ_tn hs ((fA.rf h).cp (fun k => alQ_t (by omega))) (fun i => by unfold fcp; rw [if_neg (by omega)])
    · have a2 := of_decide_eq_true a2
      exact SQ_of hs ((fA.rf h).cp (fun k => alQ_t (by omega))) (fun i => by unfold fcp; rw [if_neg (by omega)]) (fun c' k' j1 j2 j3 => by unfold fcp; rw [if_neg (by omega)])
theorem fS_len {j : Nat} {as : List Int} {h h' : fH} {v : Int} (hs : fS j as h v h') : as.length = ((f_tags[j]?).getD []).length := by
  obtain ⟨mi, n, us, cs, w, cs', -, -, -, -, h1, rfl, -⟩ := hs
  rw [List.length_map, (xTs_len h1).symm]
theorem l_l3 {as : List Int} {a b c : Int} (h : as.length = 3) (hr : xR [some a, some b, some c] as) : as = [a, b, c] := by
  match as, h, hr with
  | [x, y, z], _, ⟨h1, h2, h3, _⟩ => rw [h1, h2, h3]
theorem fk_think : XC (SQ g h0) (159, [some 271, some 290, some 1], 0, 1) := fun as h v h' hr hs hS => by
  have e := l_l3 (fS_len hS) hr
  rw [e] at hS
  obtain ⟨a1, a2, a3⟩ := sr_down hS (hs.2.1 (by decide)) (by omega)
  refine ⟨hs.1.tr (fun c k q => ?_), fun _ => a1, fun _ => a2⟩
  have := alQ_f q
  exact a3 c k (by omega) (by omega)
theorem fk_again : XC (SQ g h0) (159, [some 271, some 290, some 0], 2, 1) := fun as h v h' hr hs hS => by
  have e := l_l3 (fS_len hS) hr
  rw [e] at hS
  obtain ⟨a1, a2, a3⟩ := sr_up (G := g) hS (hs.2.2 (by decide)) (by omega)
  refine ⟨hs.1.tr (fun c k q => ?_), fun _ => a1, fun _ => a2⟩
  have := alQ_f q
  exact a3 c k (by omega) (by omega)
/-- what asks leaves all but this -/
noncomputable def alP (c k : Int) : Bool := alO [(285, 285), (294, 295), (297, 297)] [(271, 16), (271, 40)] c k
theorem alP_f {c k : Int} (h1 : c ≠ 285) (h2 : c ≠ 294) (h3 : c ≠ 295) (h4 : c ≠ 297) (h5 : c = 271 → k ≠ 16 ∧ k ≠ 40) : alP c k = false := by
  unfold alP alO
  simp only [List.any_cons, List.any_nil, Bool.or_false, Bool.or_eq_false_iff, Bool.and_eq_false_iff, decide_eq_false_iff_not]
  omega
noncomputable abbrev SPl (h0 : fH) : Nat → fH → Prop := SF alP h0
noncomputable abbrev pP : xP := pF [(285, 285), (294, 295), (297, 297)] [(271, 16), (271, 40)]
theorem SPl_P : XP (SPl h0) pP := SF_P
theorem SQ_lt {j : Nat} {rq : List (Option Int)} (s : Nat) (H : ∀ h, XC (SPl h) (j, rq, 0, 0)) : XC (SQ g h0) (j, rq, s, s) := fun as h v h' hr hs hS => by
  have a := H h as h v h' hr (fA.rf h) hS
  exact SQ_of hs (fun c k q => a c k (by
    have := alQ_f q
    exact alP_f (by omega) (by omega) (by omega) (by omega) (by omega))) (fun i => a _ _ (alP_f (by omega) (by omega) (by omega) (by omega) (by omega))) (fun c k j1 j2 j3 => a _ _ (alP_f (by omega) (by omega) (by omega) (by omega) (by omega)))
end RQ
theorem fp_vr_isFree {h0 : fH} : XC (SPl h0) ((167, [some 271, none], 0, 0)) := x_state (b := 271) (lps := [(true, 0)]) (tbl := []) SPl_P SF_L vr_isFree_k (by decide +kernel) (by decide +kernel) (x_n)
theorem fp_vr_trustOf {h0 : fH} : XC (SPl h0) ((168, [some 271, none, none, none], 0, 0)) := x_state (b := 271) (lps := []) (tbl := []) SPl_P SF_L vr_trustOf_k (by decide +kernel) (by decide +kernel) (x_n)
theorem fp_vr_asksOf {h0 : fH} : XC (SPl h0) ((170, [some 271, none], 0, 0)) := x_state (b := 271) (lps := []) (tbl := []) SPl_P SF_L vr_asksOf_k (by decide +kernel) (by decide +kernel) (x_n)
theorem fp_vr_isTaking {h0 : fH} : XC (SPl h0) ((169, [some 271, none, none, none, none], 0, 0)) := x_state (b := 271) (lps := []) (tbl := [(168, [some 271, none, none, none], 0, 0), (170, [some 271, none], 0, 0)]) SPl_P SF_L vr_isTaking_k (by decide +kernel) (by decide +kernel) (x_c (fp_vr_trustOf) (x_c (fp_vr_asksOf) (x_n)))
theorem fp_vr_couldBe {h0 : fH} : XC (SPl h0) ((166, [some 271, none, none, none, none], 0, 0)) := x_state (b := 271) (lps := []) (tbl := [(167, [some 271, none], 0, 0), (168, [some 271, none, none, none], 0, 0), (169, [some 271, none, none, none, none], 0, 0)]) SPl_P SF_L vr_couldBe_k (by decide +kernel) (by decide +kernel) (x_c (fp_vr_isFree) (x_c (fp_vr_trustOf) (x_c (fp_vr_isTaking) (x_n))))
theorem fp_vr_weepsOf {h0 : fH} : XC (SPl h0) ((176, [some 271, none], 0, 0)) := x_state (b := 271) (lps := []) (tbl := []) SPl_P SF_L vr_weepsOf_k (by decide +kernel) (by decide +kernel) (x_n)
theorem fp_vr_held {h0 : fH} : XC (SPl h0) ((177, [], 0, 0)) := x_state (b := 0) (lps := []) (tbl := []) SPl_P SF_L vr_held_k (by decide +kernel) (by decide +kernel) (x_n)
theorem fq2_vr_wed {g : gV} {h0 : fH} : XC (SQ g h0) ((175, [some 271, none, none], 2, 2)) := x_state (b := 271) (lps := []) (tbl := [(176, [some 271, none], 2, 2), (177, [], 2, 2)]) SQ_P SQ_L vr_wed_k (by decide +kernel) (by decide +kernel) (x_c (SQ_lt 2 (fun _ => fp_vr_weepsOf)) (x_c (SQ_lt 2 (fun _ => fp_vr_held)) (x_n)))
theorem fq2_vr_dropWager {g : gV} {h0 : fH} : XC (SQ g h0) ((178, [some 271, none], 2, 2)) := x_state (b := 271) (lps := [(true, 2)]) (tbl := []) SQ_P SQ_L vr_dropWager_k (by decide +kernel) (by decide +kernel) (x_n)
theorem fp_vr_learnsOf {h0 : fH} : XC (SPl h0) ((179, [some 271, none], 0, 0)) := x_state (b := 271) (lps := []) (tbl := []) SPl_P SF_L vr_learnsOf_k (by decide +kernel) (by decide +kernel) (x_n)
theorem fq2_vr_dayBy {g : gV} {h0 : fH} : XC (SQ g h0) ((173, [some 271, none], 2, 2)) := x_state (b := 271) (lps := [(true, 2), (true, 2)]) (tbl := [(177, [], 2, 2), (175, [some 271, none, none], 2, 2), (178, [some 271, none], 2, 2), (179, [some 271, none], 2, 2)]) SQ_P SQ_L vr_dayBy_k (by decide +kernel) (by decide +kernel) (x_c (SQ_lt 2 (fun _ => fp_vr_held)) (x_c fq2_vr_wed (x_c fq2_vr_dropWager (x_c (SQ_lt 2 (fun _ => fp_vr_learnsOf)) (x_n)))))
theorem fq1_vr_goDays {g : gV} {h0 : fH} : XC (SQ g h0) ((172, [some 271, none], 1, 2)) := x_state (b := 271) (lps := [(true, 2)]) (tbl := [(173, [some 271, none], 2, 2)]) SQ_P SQ_L vr_goDays_k (by decide +kernel) (by decide +kernel) (x_c fq2_vr_dayBy (x_n))
theorem fq2_vr_goDays {g : gV} {h0 : fH} : XC (SQ g h0) ((172, [some 271, none], 2, 2)) := x_state (b := 271) (lps := [(true, 2)]) (tbl := [(173, [some 271, none], 2, 2)]) SQ_P SQ_L vr_goDays_k (by decide +kernel) (by decide +kernel) (x_c fq2_vr_dayBy (x_n))
theorem fp_vr_personOf {h0 : fH} : XC (SPl h0) ((184, [some 271, none, none], 0, 0)) := x_state (b := 271) (lps := []) (tbl := [(170, [some 271, none], 0, 0), (176, [some 271, none], 0, 0), (179, [some 271, none], 0, 0)]) SPl_P SF_L vr_personOf_k (by decide +kernel) (by decide +kernel) (x_c (fp_vr_asksOf) (x_c (fp_vr_weepsOf) (x_c (fp_vr_learnsOf) (x_n))))
theorem fp_vr_belief {h0 : fH} : XC (SPl h0) ((185, [some 271, none, none], 0, 0)) := x_state (b := 271) (lps := []) (tbl := []) SPl_P SF_L vr_belief_k (by decide +kernel) (by decide +kernel) (x_n)
theorem fp_vr_eventOf {h0 : fH} : XC (SPl h0) ((186, [some 271, none, none], 0, 0)) := x_state (b := 271) (lps := []) (tbl := []) SPl_P SF_L vr_eventOf_k (by decide +kernel) (by decide +kernel) (x_n)
theorem fp_vr_wagerOf {h0 : fH} : XC (SPl h0) ((187, [some 271, none, none], 0, 0)) := x_state (b := 271) (lps := []) (tbl := []) SPl_P SF_L vr_wagerOf_k (by decide +kernel) (by decide +kernel) (x_n)
theorem fp_vr_wedBits {h0 : fH} : XC (SPl h0) ((198, [some 271], 0, 0)) := x_state (b := 271) (lps := [(true, 0)]) (tbl := []) SPl_P SF_L vr_wedBits_k (by decide +kernel) (by decide +kernel) (x_n)
theorem fp_vr_onesOf {h0 : fH} : XC (SPl h0) ((199, [], 0, 0)) := x_state (b := 0) (lps := [(false, 0)]) (tbl := []) SPl_P SF_L vr_onesOf_k (by decide +kernel) (by decide +kernel) (x_n)
theorem fq0_vr_personIn {g : gV} {h0 : fH} : XC (SQ g h0) ((200, [some 271, none, none, none], 0, 0)) := x_state (b := 271) (lps := []) (tbl := [(159, [some 271, some 290, some 1], 0, 1), (159, [some 271, some 290, some 0], 2, 1), (172, [some 271, none], 1, 2)]) SQ_P SQ_L vr_personIn_k (by decide +kernel) (by decide +kernel) (x_c fk_think (x_c fk_again (x_c fq1_vr_goDays (x_n))))
theorem fq0_vr_beliefThen {g : gV} {h0 : fH} : XC (SQ g h0) ((202, [some 271, none, none, none], 0, 1)) := x_state (b := 271) (lps := []) (tbl := [(159, [some 271, some 290, some 1], 0, 1), (159, [some 271, some 290, some 0], 2, 1), (172, [some 271, none], 1, 2)]) SQ_P SQ_L vr_beliefThen_k (by decide +kernel) (by decide +kernel) (x_c fk_think (x_c fk_again (x_c fq1_vr_goDays (x_n))))
theorem fq0_vr_beliefIn {g : gV} {h0 : fH} : XC (SQ g h0) ((201, [some 271, none, none, none], 0, 0)) := x_state (b := 271) (lps := []) (tbl := [(202, [some 271, none, none, none], 0, 1)]) SQ_P SQ_L vr_beliefIn_k (by decide +kernel) (by decide +kernel) (x_c fq0_vr_beliefThen (x_n))
theorem fq1_vr_wedThen {g : gV} {h0 : fH} : XC (SQ g h0) ((204, [some 271, none], 1, 1)) := x_state (b := 271) (lps := []) (tbl := [(159, [some 271, some 290, some 0], 2, 1), (172, [some 271, none], 1, 2), (198, [some 271], 2, 2), (199, [], 2, 2)]) SQ_P SQ_L vr_wedThen_k (by decide +kernel) (by decide +kernel) (x_c fk_again (x_c fq1_vr_goDays (x_c (SQ_lt 2 (fun _ => fp_vr_wedBits)) (x_c (SQ_lt 2 (fun _ => fp_vr_onesOf)) (x_n)))))
theorem fq2_vr_wedThen {g : gV} {h0 : fH} : XC (SQ g h0) ((204, [some 271, none], 2, 1)) := x_state (b := 271) (lps := []) (tbl := [(159, [some 271, some 290, some 0], 2, 1), (172, [some 271, none], 2, 2), (198, [some 271], 2, 2), (199, [], 2, 2)]) SQ_P SQ_L vr_wedThen_k (by decide +kernel) (by decide +kernel) (x_c fk_again (x_c fq2_vr_goDays (x_c (SQ_lt 2 (fun _ => fp_vr_wedBits)) (x_c (SQ_lt 2 (fun _ => fp_vr_onesOf)) (x_n)))))
theorem fq0_vr_wedIn {g : gV} {h0 : fH} : XC (SQ g h0) ((203, [some 271, none], 0, 0)) := x_state (b := 271) (lps := []) (tbl := [(159, [some 271, some 290, some 1], 0, 1), (204, [some 271, none], 1, 1)]) SQ_P SQ_L vr_wedIn_k (by decide +kernel) (by decide +kernel) (x_c fk_think (x_c fq1_vr_wedThen (x_n)))
theorem fq0_vr_wedSoon {g : gV} {h0 : fH} : XC (SQ g h0) ((206, [some 271, none], 0, 1)) := x_state (b := 271) (lps := [(true, 2)]) (tbl := [(159, [some 271, some 290, some 1], 0, 1), (159, [some 271, some 290, some 0], 2, 1), (173, [some 271, none], 2, 2)]) SQ_P SQ_L vr_wedSoon_k (by decide +kernel) (by decide +kernel) (x_c fk_think (x_c fk_again (x_c fq2_vr_dayBy (x_n))))
theorem fq0_vr_wedWhen {g : gV} {h0 : fH} : XC (SQ g h0) ((205, [some 271, none], 0, 0)) := x_state (b := 271) (lps := [(true, 0)]) (tbl := [(206, [some 271, none], 0, 1)]) SQ_P SQ_L vr_wedWhen_k (by decide +kernel) (by decide +kernel) (x_c fq0_vr_wedSoon (x_n))
theorem fp_vr_happens {h0 : fH} : XC (SPl h0) ((207, [some 271, none, none], 0, 0)) := x_state (b := 271) (lps := [(true, 0)]) (tbl := []) SPl_P SF_L vr_happens_k (by decide +kernel) (by decide +kernel) (x_n)
theorem fp_vr_isLost {h0 : fH} : XC (SPl h0) ((210, [some 271, none, none, none], 0, 0)) := x_state (b := 271) (lps := []) (tbl := []) SPl_P SF_L vr_isLost_k (by decide +kernel) (by decide +kernel) (x_n)
theorem fp_vr_betOf {h0 : fH} : XC (SPl h0) ((209, [some 271, none, none], 0, 0)) := x_state (b := 271) (lps := [(true, 0), (true, 0)]) (tbl := [(166, [some 271, none, none, none, none], 0, 0), (210, [some 271, none, none, none], 0, 0)]) SPl_P SF_L vr_betOf_k (by decide +kernel) (by decide +kernel) (x_c (fp_vr_couldBe) (x_c (fp_vr_isLost) (x_n)))
theorem fp_vr_bet {h0 : fH} : XC (SPl h0) ((208, [some 271, none, none], 0, 0)) := x_state (b := 271) (lps := []) (tbl := [(209, [some 271, none, none], 0, 0)]) SPl_P SF_L vr_bet_k (by decide +kernel) (by decide +kernel) (x_c (fp_vr_betOf) (x_n))
theorem fp_vr_takers {h0 : fH} : XC (SPl h0) ((211, [some 271, none, none, none], 0, 0)) := x_state (b := 271) (lps := [(true, 0)]) (tbl := [(169, [some 271, none, none, none, none], 0, 0)]) SPl_P SF_L vr_takers_k (by decide +kernel) (by decide +kernel) (x_c (fp_vr_isTaking) (x_n))
theorem fp_vr_wooersOf {h0 : fH} : XC (SPl h0) ((213, [some 271, none], 0, 0)) := x_state (b := 271) (lps := [(true, 0)]) (tbl := [(209, [some 271, none, none], 0, 0)]) SPl_P SF_L vr_wooersOf_k (by decide +kernel) (by decide +kernel) (x_c (fp_vr_betOf) (x_n))
theorem fp_vr_wooers {h0 : fH} : XC (SPl h0) ((212, [some 271, none], 0, 0)) := x_state (b := 271) (lps := []) (tbl := [(213, [some 271, none], 0, 0)]) SPl_P SF_L vr_wooers_k (by decide +kernel) (by decide +kernel) (x_c (fp_vr_wooersOf) (x_n))
theorem fp_vr_layMatch {h0 : fH} : XC (SPl h0) ((215, [some 271], 0, 0)) := x_state (b := 271) (lps := [(true, 0), (true, 0), (true, 0)]) (tbl := [(213, [some 271, none], 0, 0)]) SPl_P SF_L vr_layMatch_k (by decide +kernel) (by decide +kernel) (x_c (fp_vr_wooersOf) (x_n))
theorem fp_vr_partnerOf {h0 : fH} : XC (SPl h0) ((218, [some 271, none, none], 0, 0)) := x_state (b := 271) (lps := [(true, 0)]) (tbl := []) SPl_P SF_L vr_partnerOf_k (by decide +kernel) (by decide +kernel) (x_n)
theorem fp_vr_match {h0 : fH} : XC (SPl h0) ((214, [some 271, none], 0, 0)) := x_state (b := 271) (lps := [(true, 0)]) (tbl := [(215, [some 271], 0, 0), (218, [some 271, none, none], 0, 0)]) SPl_P SF_L vr_match_k (by decide +kernel) (by decide +kernel) (x_c (fp_vr_layMatch) (x_c (fp_vr_partnerOf) (x_n)))
theorem fq0_vr_fix {g : gV} {h0 : fH} : XC (SQ g h0) ((219, [some 271, none], 0, 0)) := x_state (b := 271) (lps := [(true, 1)]) (tbl := [(159, [some 271, some 290, some 1], 0, 1), (204, [some 271, none], 1, 1), (204, [some 271, none], 2, 1)]) SQ_P SQ_L vr_fix_k (by decide +kernel) (by decide +kernel) (x_c fk_think (x_c fq1_vr_wedThen (x_c fq2_vr_wedThen (x_n))))
theorem fp_vr_fair {h0 : fH} : XC (SPl h0) ((221, [some 271, none], 0, 0)) := x_state (b := 271) (lps := [(true, 0)]) (tbl := [(168, [some 271, none, none, none], 0, 0), (210, [some 271, none, none, none], 0, 0)]) SPl_P SF_L vr_fair_k (by decide +kernel) (by decide +kernel) (x_c (fp_vr_trustOf) (x_c (fp_vr_isLost) (x_n)))
theorem fp_vr_allTears {h0 : fH} : XC (SPl h0) ((224, [some 271], 0, 0)) := x_state (b := 271) (lps := [(true, 0)]) (tbl := []) SPl_P SF_L vr_allTears_k (by decide +kernel) (by decide +kernel) (x_n)
theorem fq1_vr_tearsWithout {g : gV} {h0 : fH} : XC (SQ g h0) ((223, [some 271, none, none], 1, 1)) := x_state (b := 271) (lps := [(true, 2)]) (tbl := [(159, [some 271, some 290, some 0], 2, 1), (178, [some 271, none], 2, 2), (172, [some 271, none], 2, 2), (224, [some 271], 2, 2)]) SQ_P SQ_L vr_tearsWithout_k (by decide +kernel) (by decide +kernel) (x_c fk_again (x_c fq2_vr_dropWager (x_c fq2_vr_goDays (x_c (SQ_lt 2 (fun _ => fp_vr_allTears)) (x_n)))))
theorem fq0_vr_hedge {g : gV} {h0 : fH} : XC (SQ g h0) ((222, [some 271, none, none], 0, 0)) := x_state (b := 271) (lps := [(true, 1)]) (tbl := [(159, [some 271, some 290, some 1], 0, 1), (199, [], 1, 1), (223, [some 271, none, none], 1, 1)]) SQ_P SQ_L vr_hedge_k (by decide +kernel) (by decide +kernel) (x_c fk_think (x_c (SQ_lt 1 (fun _ => fp_vr_onesOf)) (x_c fq1_vr_tearsWithout (x_n))))
theorem fp_vr_wagerWith {h0 : fH} : XC (SPl h0) ((226, [some 271, none], 0, 0)) := x_state (b := 271) (lps := [(true, 0)]) (tbl := []) SPl_P SF_L vr_wagerWith_k (by decide +kernel) (by decide +kernel) (x_n)
theorem fq2_vr_isRow {g : gV} {h0 : fH} : XC (SQ g h0) ((227, [some 271, none], 2, 1)) := x_state (b := 271) (lps := [(true, 2)]) (tbl := [(159, [some 271, some 290, some 0], 2, 1), (173, [some 271, none], 2, 2)]) SQ_P SQ_L vr_isRow_k (by decide +kernel) (by decide +kernel) (x_c fk_again (x_c fq2_vr_dayBy (x_n)))
theorem fq0_vr_uponWhat {g : gV} {h0 : fH} : XC (SQ g h0) ((225, [some 271, none, none], 0, 0)) := x_state (b := 271) (lps := [(true, 1)]) (tbl := [(159, [some 271, some 290, some 1], 0, 1), (226, [some 271, none], 0, 0), (227, [some 271, none], 2, 1)]) SQ_P SQ_L vr_uponWhat_k (by decide +kernel) (by decide +kernel) (x_c fk_think (x_c (SQ_lt 0 (fun _ => fp_vr_wagerWith)) (x_c fq2_vr_isRow (x_n))))
theorem fq0_vr_whatKind {g : gV} {h0 : fH} : XC (SQ g h0) ((228, [some 271, none, none], 0, 0)) := x_state (b := 271) (lps := [(true, 1)]) (tbl := [(159, [some 271, some 290, some 1], 0, 1), (227, [some 271, none], 2, 1)]) SQ_P SQ_L vr_whatKind_k (by decide +kernel) (by decide +kernel) (x_c fk_think (x_c fq2_vr_isRow (x_n)))
theorem fq0_vr_two {g : gV} {h0 : fH} : XC (SQ g h0) ((229, [some 271, none, none, none], 0, 0)) := x_state (b := 271) (lps := [(true, 1), (true, 1)]) (tbl := [(159, [some 271, some 290, some 1], 0, 1), (159, [some 271, some 290, some 0], 2, 1), (167, [some 271, none], 0, 0), (166, [some 271, none, none, none, none], 2, 2), (210, [some 271, none, none, none], 2, 2)]) SQ_P SQ_L vr_two_k (by decide +kernel) (by decide +kernel) (x_c fk_think (x_c fk_again (x_c (SQ_lt 0 (fun _ => fp_vr_isFree)) (x_c (SQ_lt 2 (fun _ => fp_vr_couldBe)) (x_c (SQ_lt 2 (fun _ => fp_vr_isLost)) (x_n))))))
theorem fp_vr_divisor {h0 : fH} : XC (SPl h0) ((232, [], 0, 0)) := x_state (b := 0) (lps := [(false, 0)]) (tbl := []) SPl_P SF_L vr_divisor_k (by decide +kernel) (by decide +kernel) (x_n)
theorem fp_vr_partOf {h0 : fH} : XC (SPl h0) ((231, [], 0, 0)) := x_state (b := 0) (lps := []) (tbl := [(232, [], 0, 0)]) SPl_P SF_L vr_partOf_k (by decide +kernel) (by decide +kernel) (x_c (fp_vr_divisor) (x_n))
theorem fq0_vr_sure {g : gV} {h0 : fH} : XC (SQ g h0) ((230, [some 271, none, none, none, none], 0, 0)) := x_state (b := 271) (lps := [(true, 0), (true, 1), (true, 2)]) (tbl := [(159, [some 271, some 290, some 1], 0, 1), (159, [some 271, some 290, some 0], 2, 1), (173, [some 271, none], 2, 2), (231, [], 1, 1)]) SQ_P SQ_L vr_sure_k (by decide +kernel) (by decide +kernel) (x_c fk_think (x_c fk_again (x_c fq2_vr_dayBy (x_c (SQ_lt 1 (fun _ => fp_vr_partOf)) (x_n)))))
theorem fp_vr_shares {h0 : fH} : XC (SPl h0) ((233, [some 271, none, none], 0, 0)) := x_state (b := 271) (lps := []) (tbl := [(224, [some 271], 0, 0)]) SPl_P SF_L vr_shares_k (by decide +kernel) (by decide +kernel) (x_c (fp_vr_allTears) (x_n))
theorem fp_vr_saddestOne {h0 : fH} : XC (SPl h0) ((235, [some 271], 0, 0)) := x_state (b := 271) (lps := [(true, 0)]) (tbl := []) SPl_P SF_L vr_saddestOne_k (by decide +kernel) (by decide +kernel) (x_n)
theorem fp_vr_twosOf {h0 : fH} : XC (SPl h0) ((236, [some 271, none], 0, 0)) := x_state (b := 271) (lps := [(true, 0), (true, 0)]) (tbl := []) SPl_P SF_L vr_twosOf_k (by decide +kernel) (by decide +kernel) (x_n)
theorem fp_vr_freeBits {h0 : fH} : XC (SPl h0) ((238, [some 271], 0, 0)) := x_state (b := 271) (lps := [(true, 0)]) (tbl := [(167, [some 271, none], 0, 0)]) SPl_P SF_L vr_freeBits_k (by decide +kernel) (by decide +kernel) (x_c (fp_vr_isFree) (x_n))
theorem fp_vr_saddest {h0 : fH} : XC (SPl h0) ((234, [some 271, none], 0, 0)) := x_state (b := 271) (lps := []) (tbl := [(235, [some 271], 0, 0), (236, [some 271, none], 0, 0), (238, [some 271], 0, 0)]) SPl_P SF_L vr_saddest_k (by decide +kernel) (by decide +kernel) (x_c (fp_vr_saddestOne) (x_c (fp_vr_twosOf) (x_c (fp_vr_freeBits) (x_n))))
theorem fp_vr_wished {h0 : fH} : XC (SPl h0) ((239, [some 271, none], 0, 0)) := x_state (b := 271) (lps := [(true, 0)]) (tbl := []) SPl_P SF_L vr_wished_k (by decide +kernel) (by decide +kernel) (x_n)
theorem fp_vr_mean {h0 : fH} : XC (SPl h0) ((240, [some 271, none, none], 0, 0)) := x_state (b := 271) (lps := [(true, 0)]) (tbl := [(231, [], 0, 0)]) SPl_P SF_L vr_mean_k (by decide +kernel) (by decide +kernel) (x_c (fp_vr_partOf) (x_n))
theorem fp_vr_scorn {h0 : fH} : XC (SPl h0) ((241, [some 271, none], 0, 0)) := x_state (b := 271) (lps := [(true, 0)]) (tbl := []) SPl_P SF_L vr_scorn_k (by decide +kernel) (by decide +kernel) (x_n)
theorem fp_vr_lastDays {h0 : fH} : XC (SPl h0) ((243, [some 271], 0, 0)) := x_state (b := 271) (lps := [(true, 0)]) (tbl := []) SPl_P SF_L vr_lastDays_k (by decide +kernel) (by decide +kernel) (x_n)
theorem fq0_vr_chasteRun {g : gV} {h0 : fH} : XC (SQ g h0) ((244, [some 271], 0, 1)) := x_state (b := 271) (lps := [(true, 2)]) (tbl := [(159, [some 271, some 290, some 1], 0, 1), (159, [some 271, some 290, some 0], 2, 1), (173, [some 271, none], 2, 2), (198, [some 271], 2, 2)]) SQ_P SQ_L vr_chasteRun_k (by decide +kernel) (by decide +kernel) (x_c fk_think (x_c fk_again (x_c fq2_vr_dayBy (x_c (SQ_lt 2 (fun _ => fp_vr_wedBits)) (x_n)))))
theorem fp_vr_oddBits {h0 : fH} : XC (SPl h0) ((245, [some 271], 0, 0)) := x_state (b := 271) (lps := [(true, 0)]) (tbl := []) SPl_P SF_L vr_oddBits_k (by decide +kernel) (by decide +kernel) (x_n)
theorem fq0_vr_left {g : gV} {h0 : fH} : XC (SQ g h0) ((242, [some 271, none], 0, 0)) := x_state (b := 271) (lps := []) (tbl := [(236, [some 271, none], 0, 0), (243, [some 271], 0, 0), (244, [some 271], 0, 1), (245, [some 271], 0, 0)]) SQ_P SQ_L vr_left_k (by decide +kernel) (by decide +kernel) (x_c (SQ_lt 0 (fun _ => fp_vr_twosOf)) (x_c (SQ_lt 0 (fun _ => fp_vr_lastDays)) (x_c fq0_vr_chasteRun (x_c (SQ_lt 0 (fun _ => fp_vr_oddBits)) (x_n)))))
theorem fq0_vr_hope {g : gV} {h0 : fH} : XC (SQ g h0) ((246, [some 271, none, none, none], 0, 0)) := x_state (b := 271) (lps := []) (tbl := [(202, [some 271, none, none, none], 0, 1)]) SQ_P SQ_L vr_hope_k (by decide +kernel) (by decide +kernel) (x_c fq0_vr_beliefThen (x_n))
theorem fp_vr_drawBelow {h0 : fH} : XC (SPl h0) ((251, [some 271, none], 0, 0)) := x_state (b := 271) (lps := []) (tbl := []) SPl_P SF_L vr_drawBelow_k (by decide +kernel) (by decide +kernel) (x_n)
theorem fq0_vr_lots {g : gV} {h0 : fH} : XC (SQ g h0) ((250, [some 271, none, none, none], 0, 0)) := x_state (b := 271) (lps := [(true, 1), (true, 2)]) (tbl := [(159, [some 271, some 290, some 1], 0, 1), (159, [some 271, some 290, some 0], 2, 1), (172, [some 271, none], 2, 2), (198, [some 271], 2, 2), (199, [], 2, 2), (224, [some 271], 2, 2), (251, [some 271, none], 2, 2)]) SQ_P SQ_L vr_lots_k (by decide +kernel) (by decide +kernel) (x_c fk_think (x_c fk_again (x_c fq2_vr_goDays (x_c (SQ_lt 2 (fun _ => fp_vr_wedBits)) (x_c (SQ_lt 2 (fun _ => fp_vr_onesOf)) (x_c (SQ_lt 2 (fun _ => fp_vr_allTears)) (x_c (SQ_lt 2 (fun _ => fp_vr_drawBelow)) (x_n))))))))
theorem fp_vr_count {h0 : fH} : XC (SPl h0) ((252, [some 271, none], 0, 0)) := x_state (b := 271) (lps := []) (tbl := [(198, [some 271], 0, 0), (224, [some 271], 0, 0)]) SPl_P SF_L vr_count_k (by decide +kernel) (by decide +kernel) (x_c (fp_vr_wedBits) (x_c (fp_vr_allTears) (x_n)))
end
section
/-! the class's methods that only ask: they count refusals, lay out twos, and no more (made by a program) -/
noncomputable abbrev S0 (h0 : fH) : Nat → fH → Prop := SF (alO [] []) h0
theorem S0_P {h0 : fH} : XP (S0 h0) (pF [] []) := SF_P
theorem S0_eq {j : Nat} {rq : List (Option Int)} (H : ∀ h, XC (S0 h) (j, rq, 0, 0)) {as : List Int} {h h' : fH} {v : Int} (hr : xR rq as) (hS : fS j as h v h') : h' = h := by
  have a := H h as h v h' hr (fA.rf h) hS
  funext c k
  exact a c k rfl
theorem S0_in {S : Nat → fH → Prop} {j : Nat} {rq : List (Option Int)} (s : Nat) (H : ∀ h, XC (S0 h) (j, rq, 0, 0)) : XC S (j, rq, s, s) := fun as h v h' hr hs hS => by
  have e := S0_eq H hr hS
  subst e
  exact hs
noncomputable abbrev Sq (h0 : fH) : Nat → fH → Prop := SF (alO [(3, 3), (268, 270)] []) h0
theorem Sq_P {h0 : fH} : XP (Sq h0) (pF [(3, 3), (268, 270)] []) := SF_P
theorem fz_vt_wagerWith {h0 : fH} : XC (S0 h0) ((59, [none, none], 0, 0)) := x_state (b := 0) (lps := [(false, 0)]) (tbl := []) S0_P SF_L vt_wagerWith_k (by decide +kernel) (by decide +kernel) (x_n)
theorem fz_vt_isFree {h0 : fH} : XC (S0 h0) ((57, [none, none], 0, 0)) := x_state (b := 0) (lps := []) (tbl := [(59, [none, none], 0, 0)]) S0_P SF_L vt_isFree_k (by decide +kernel) (by decide +kernel) (x_c fz_vt_wagerWith (x_n))
theorem fz_vt_trust {h0 : fH} : XC (S0 h0) ((60, [none, none, none, none], 0, 0)) := x_state (b := 0) (lps := []) (tbl := []) S0_P SF_L vt_trust_k (by decide +kernel) (by decide +kernel) (x_n)
theorem fz_vt_wouldTake {h0 : fH} : XC (S0 h0) ((61, [none, none, none, none, none], 0, 0)) := x_state (b := 0) (lps := []) (tbl := [(60, [none, none, none, none], 0, 0)]) S0_P SF_L vt_wouldTake_k (by decide +kernel) (by decide +kernel) (x_c fz_vt_trust (x_n))
theorem fz_vt_canBe {h0 : fH} : XC (S0 h0) ((56, [none, none, none, none, none], 0, 0)) := x_state (b := 0) (lps := []) (tbl := [(57, [none, none], 0, 0), (60, [none, none, none, none], 0, 0), (61, [none, none, none, none, none], 0, 0)]) S0_P SF_L vt_canBe_k (by decide +kernel) (by decide +kernel) (x_c fz_vt_isFree (x_c fz_vt_trust (x_c fz_vt_wouldTake (x_n))))
theorem fz_vt_isLost {h0 : fH} : XC (S0 h0) ((66, [none, none], 0, 0)) := x_state (b := 0) (lps := []) (tbl := []) S0_P SF_L vt_isLost_k (by decide +kernel) (by decide +kernel) (x_n)
theorem fz_vt_withMore {h0 : fH} : XC (S0 h0) ((69, [none, none], 0, 0)) := x_state (b := 0) (lps := []) (tbl := []) S0_P SF_L vt_withMore_k (by decide +kernel) (by decide +kernel) (x_n)
theorem fz_vt_learned {h0 : fH} : XC (S0 h0) ((72, [none, none, none], 0, 0)) := x_state (b := 0) (lps := []) (tbl := []) S0_P SF_L vt_learned_k (by decide +kernel) (by decide +kernel) (x_n)
theorem fz_vt_wedBits {h0 : fH} : XC (S0 h0) ((79, [none], 0, 0)) := x_state (b := 0) (lps := [(false, 0)]) (tbl := []) S0_P SF_L vt_wedBits_k (by decide +kernel) (by decide +kernel) (x_n)
theorem fz_vt_daysToWedding {h0 : fH} : XC (S0 h0) ((83, [none, none], 0, 0)) := x_state (b := 0) (lps := []) (tbl := [(59, [none, none], 0, 0), (66, [none, none], 0, 0)]) S0_P SF_L vt_daysToWedding_k (by decide +kernel) (by decide +kernel) (x_c fz_vt_wagerWith (x_c fz_vt_isLost (x_n)))
theorem fz_vt_isWedIn {h0 : fH} : XC (S0 h0) ((82, [none, none, none], 0, 0)) := x_state (b := 0) (lps := []) (tbl := [(83, [none, none], 0, 0)]) S0_P SF_L vt_isWedIn_k (by decide +kernel) (by decide +kernel) (x_c fz_vt_daysToWedding (x_n))
theorem fz_vt_tearsOf {h0 : fH} : XC (S0 h0) ((81, [none, none, none], 0, 0)) := x_state (b := 0) (lps := []) (tbl := [(69, [none, none], 0, 0), (82, [none, none, none], 0, 0)]) S0_P SF_L vt_tearsOf_k (by decide +kernel) (by decide +kernel) (x_c fz_vt_withMore (x_c fz_vt_isWedIn (x_n)))
theorem fz_vt_allTears {h0 : fH} : XC (S0 h0) ((80, [none, none], 0, 0)) := x_state (b := 0) (lps := [(false, 0)]) (tbl := [(81, [none, none, none], 0, 0)]) S0_P SF_L vt_allTears_k (by decide +kernel) (by decide +kernel) (x_c fz_vt_tearsOf (x_n))
theorem fz_vc_count {h0 : fH} : XC (S0 h0) ((78, [none, none], 0, 0)) := x_state (b := 0) (lps := []) (tbl := [(79, [none], 0, 0), (80, [none, none], 0, 0)]) S0_P SF_L vc_count_k (by decide +kernel) (by decide +kernel) (x_c fz_vt_wedBits (x_c fz_vt_allTears (x_n)))
theorem fz_vt_howManyWed {h0 : fH} : XC (S0 h0) ((91, [none, none], 0, 0)) := x_state (b := 0) (lps := [(false, 0)]) (tbl := [(82, [none, none, none], 0, 0)]) S0_P SF_L vt_howManyWed_k (by decide +kernel) (by decide +kernel) (x_c fz_vt_isWedIn (x_n))
theorem fz_vt_wedTo {h0 : fH} : XC (S0 h0) ((97, [none, none, none], 0, 0)) := x_state (b := 0) (lps := []) (tbl := [(59, [none, none], 0, 0), (82, [none, none, none], 0, 0)]) S0_P SF_L vt_wedTo_k (by decide +kernel) (by decide +kernel) (x_c fz_vt_wagerWith (x_c fz_vt_isWedIn (x_n)))
theorem fz_vt_beliefOf {h0 : fH} : XC (S0 h0) ((100, [none, none, none, none], 0, 0)) := x_state (b := 0) (lps := [(false, 0)]) (tbl := [(72, [none, none, none], 0, 0)]) S0_P SF_L vt_beliefOf_k (by decide +kernel) (by decide +kernel) (x_c fz_vt_learned (x_n))
theorem fz_vc_firstToWed {h0 : fH} : XC (S0 h0) ((104, [none], 0, 0)) := x_state (b := 0) (lps := [(false, 0)]) (tbl := [(83, [none, none], 0, 0)]) S0_P SF_L vc_firstToWed_k (by decide +kernel) (by decide +kernel) (x_c fz_vt_daysToWedding (x_n))
theorem fz_vt_bestBet {h0 : fH} : XC (S0 h0) ((107, [none, none, none], 0, 0)) := x_state (b := 0) (lps := [(false, 0), (false, 0)]) (tbl := [(56, [none, none, none, none, none], 0, 0)]) S0_P SF_L vt_bestBet_k (by decide +kernel) (by decide +kernel) (x_c fz_vt_canBe (x_n))
theorem fz_vt_wooerBits {h0 : fH} : XC (S0 h0) ((110, [none, none], 0, 0)) := x_state (b := 0) (lps := [(false, 0)]) (tbl := [(107, [none, none, none], 0, 0)]) S0_P SF_L vt_wooerBits_k (by decide +kernel) (by decide +kernel) (x_c fz_vt_bestBet (x_n))
theorem fz_vw_mostIn {h0 : fH} : XC (S0 h0) ((114, [none, none], 0, 0)) := x_state (b := 0) (lps := [(false, 0), (false, 0)]) (tbl := []) S0_P SF_L vw_mostIn_k (by decide +kernel) (by decide +kernel) (x_n)
theorem fz_vw_most {h0 : fH} : XC (S0 h0) ((115, [none], 0, 0)) := x_state (b := 0) (lps := []) (tbl := []) S0_P SF_L vw_most_k (by decide +kernel) (by decide +kernel) (x_n)
theorem fz_vw_firstPartner {h0 : fH} : XC (S0 h0) ((117, [none, none, none], 0, 0)) := x_state (b := 0) (lps := [(false, 0)]) (tbl := []) S0_P SF_L vw_firstPartner_k (by decide +kernel) (by decide +kernel) (x_n)
theorem fz_vw_partnerOf {h0 : fH} : XC (S0 h0) ((116, [none, none], 0, 0)) := x_state (b := 0) (lps := [(false, 0)]) (tbl := [(117, [none, none, none], 0, 0)]) S0_P SF_L vw_partnerOf_k (by decide +kernel) (by decide +kernel) (x_c fz_vw_firstPartner (x_n))
theorem fz_vj_bitCount {h0 : fH} : XC (S0 h0) ((120, [none], 0, 0)) := x_state (b := 0) (lps := []) (tbl := []) S0_P SF_L vj_bitCount_k (by decide +kernel) (by decide +kernel) (x_n)
theorem fz_vc_isRowSoInMind {h0 : fH} : XC (S0 h0) ((131, [none, none], 0, 0)) := x_state (b := 0) (lps := [(false, 0)]) (tbl := [(81, [none, none, none], 0, 0)]) S0_P SF_L vc_isRowSoInMind_k (by decide +kernel) (by decide +kernel) (x_c fz_vt_tearsOf (x_n))
theorem fz_vc_whoHasMostTears {h0 : fH} : XC (S0 h0) ((139, [none], 0, 0)) := x_state (b := 0) (lps := [(false, 0)]) (tbl := []) S0_P SF_L vc_whoHasMostTears_k (by decide +kernel) (by decide +kernel) (x_n)
theorem fz_vc_twosWhoWishEachOther {h0 : fH} : XC (S0 h0) ((140, [none, none], 0, 0)) := x_state (b := 0) (lps := [(false, 0)]) (tbl := []) S0_P SF_L vc_twosWhoWishEachOther_k (by decide +kernel) (by decide +kernel) (x_n)
theorem fz_vt_freeBits {h0 : fH} : XC (S0 h0) ((141, [none], 0, 0)) := x_state (b := 0) (lps := [(false, 0)]) (tbl := [(57, [none, none], 0, 0)]) S0_P SF_L vt_freeBits_k (by decide +kernel) (by decide +kernel) (x_c fz_vt_isFree (x_n))
theorem fz_vc_daysOfLastWager {h0 : fH} : XC (S0 h0) ((145, [none], 0, 0)) := x_state (b := 0) (lps := [(false, 0)]) (tbl := []) S0_P SF_L vc_daysOfLastWager_k (by decide +kernel) (by decide +kernel) (x_n)
theorem fz_vc_longestChasteRun {h0 : fH} : XC (S0 h0) ((146, [none], 0, 0)) := x_state (b := 0) (lps := [(false, 0)]) (tbl := [(91, [none, none], 0, 0)]) S0_P SF_L vc_longestChasteRun_k (by decide +kernel) (by decide +kernel) (x_c fz_vt_howManyWed (x_n))
theorem fz_vc_eventsToday {h0 : fH} : XC (S0 h0) ((147, [none], 0, 0)) := x_state (b := 0) (lps := [(false, 0)]) (tbl := []) S0_P SF_L vc_eventsToday_k (by decide +kernel) (by decide +kernel) (x_n)
theorem fz_vc_rivals {h0 : fH} : XC (S0 h0) ((148, [none], 0, 0)) := x_state (b := 0) (lps := [(false, 0), (false, 0)]) (tbl := []) S0_P SF_L vc_rivals_k (by decide +kernel) (by decide +kernel) (x_n)
theorem fc269_vj_fill {h0 : fH} : XC (Sq h0) ((47, [some 269, none], 0, 0)) := x_state (b := 269) (lps := [(true, 0)]) (tbl := []) Sq_P SF_L vj_fill_k (by decide +kernel) (by decide +kernel) (x_n)
theorem fc1_vc_personOf {h0 : fH} : XC (Sq h0) ((74, [some 1, none, none], 0, 0)) := x_state (b := 1) (lps := []) (tbl := []) Sq_P SF_L vc_personOf_k (by decide +kernel) (by decide +kernel) (x_n)
theorem fc1_vc_belief {h0 : fH} : XC (Sq h0) ((75, [some 1, none, none], 0, 0)) := x_state (b := 1) (lps := []) (tbl := []) Sq_P SF_L vc_belief_k (by decide +kernel) (by decide +kernel) (x_n)
theorem fc1_vc_eventOf {h0 : fH} : XC (Sq h0) ((76, [some 1, none, none], 0, 0)) := x_state (b := 1) (lps := []) (tbl := []) Sq_P SF_L vc_eventOf_k (by decide +kernel) (by decide +kernel) (x_n)
theorem fc1_vc_wagerOf {h0 : fH} : XC (Sq h0) ((77, [some 1, none, none], 0, 0)) := x_state (b := 1) (lps := []) (tbl := []) Sq_P SF_L vc_wagerOf_k (by decide +kernel) (by decide +kernel) (x_n)
theorem fc1_vc_personIn {h0 : fH} : XC (Sq h0) ((96, [some 1, none, none, none], 0, 0)) := x_state (b := 1) (lps := []) (tbl := [(81, [none, none, none], 0, 0), (97, [none, none, none], 0, 0)]) Sq_P SF_L vc_personIn_k (by decide +kernel) (by decide +kernel) (x_c (S0_in 0 (fun _ => fz_vt_tearsOf)) (x_c (S0_in 0 (fun _ => fz_vt_wedTo)) (x_n)))
theorem fc1_vc_beliefIn {h0 : fH} : XC (Sq h0) ((98, [some 1, none, none, none], 0, 0)) := x_state (b := 1) (lps := []) (tbl := [(100, [none, none, none, none], 0, 0)]) Sq_P SF_L vc_beliefIn_k (by decide +kernel) (by decide +kernel) (x_c (S0_in 0 (fun _ => fz_vt_beliefOf)) (x_n))
theorem fc1_vc_hope {h0 : fH} : XC (Sq h0) ((101, [some 1, none, none, none], 0, 0)) := x_state (b := 1) (lps := []) (tbl := [(100, [none, none, none, none], 0, 0)]) Sq_P SF_L vc_hope_k (by decide +kernel) (by decide +kernel) (x_c (S0_in 0 (fun _ => fz_vt_beliefOf)) (x_n))
theorem fc1_vc_wedIn {h0 : fH} : XC (Sq h0) ((102, [some 1, none], 0, 0)) := x_state (b := 1) (lps := []) (tbl := [(91, [none, none], 0, 0)]) Sq_P SF_L vc_wedIn_k (by decide +kernel) (by decide +kernel) (x_c (S0_in 0 (fun _ => fz_vt_howManyWed)) (x_n))
theorem fc1_vc_wedWhen {h0 : fH} : XC (Sq h0) ((103, [some 1, none], 0, 0)) := x_state (b := 1) (lps := []) (tbl := [(83, [none, none], 0, 0), (104, [none], 0, 0)]) Sq_P SF_L vc_wedWhen_k (by decide +kernel) (by decide +kernel) (x_c (S0_in 0 (fun _ => fz_vt_daysToWedding)) (x_c (S0_in 0 (fun _ => fz_vc_firstToWed)) (x_n)))
theorem fc1_vc_happens {h0 : fH} : XC (Sq h0) ((105, [some 1, none, none], 0, 0)) := x_state (b := 1) (lps := [(true, 0)]) (tbl := []) Sq_P SF_L vc_happens_k (by decide +kernel) (by decide +kernel) (x_n)
theorem fc1_vc_bet {h0 : fH} : XC (Sq h0) ((106, [some 1, none, none], 0, 0)) := x_state (b := 1) (lps := []) (tbl := [(107, [none, none, none], 0, 0)]) Sq_P SF_L vc_bet_k (by decide +kernel) (by decide +kernel) (x_c (S0_in 0 (fun _ => fz_vt_bestBet)) (x_n))
theorem fc1_vc_takers {h0 : fH} : XC (Sq h0) ((108, [some 1, none, none, none], 0, 0)) := x_state (b := 1) (lps := [(true, 0)]) (tbl := [(61, [none, none, none, none, none], 0, 0)]) Sq_P SF_L vc_takers_k (by decide +kernel) (by decide +kernel) (x_c (S0_in 0 (fun _ => fz_vt_wouldTake)) (x_n))
theorem fc1_vc_wooers {h0 : fH} : XC (Sq h0) ((109, [some 1, none], 0, 0)) := x_state (b := 1) (lps := []) (tbl := [(110, [none, none], 0, 0)]) Sq_P SF_L vc_wooers_k (by decide +kernel) (by decide +kernel) (x_c (S0_in 0 (fun _ => fz_vt_wooerBits)) (x_n))
theorem fc268_vw_reckon {h0 : fH} : XC (Sq h0) ((112, [some 268, none], 0, 0)) := x_state (b := 268) (lps := [(true, 0), (true, 0), (true, 0)]) (tbl := [(110, [none, none], 0, 0), (114, [none, none], 0, 0), (47, [some 269, none], 0, 0)]) Sq_P SF_L vw_reckon_k (by decide +kernel) (by decide +kernel) (x_c (S0_in 0 (fun _ => fz_vt_wooerBits)) (x_c (S0_in 0 (fun _ => fz_vw_mostIn)) (x_c fc269_vj_fill (x_n))))
theorem fc1_vc_match {h0 : fH} : XC (Sq h0) ((111, [some 1, none], 0, 0)) := x_state (b := 1) (lps := []) (tbl := [(115, [none], 0, 0), (116, [none, none], 0, 0), (112, [some 268, none], 0, 0)]) Sq_P SF_L vc_match_k (by decide +kernel) (by decide +kernel) (x_c (S0_in 0 (fun _ => fz_vw_most)) (x_c (S0_in 0 (fun _ => fz_vw_partnerOf)) (x_c fc268_vw_reckon (x_n))))
theorem fc1_vc_fair {h0 : fH} : XC (Sq h0) ((121, [some 1, none], 0, 0)) := x_state (b := 1) (lps := [(true, 0)]) (tbl := [(60, [none, none, none, none], 0, 0), (66, [none, none], 0, 0)]) Sq_P SF_L vc_fair_k (by decide +kernel) (by decide +kernel) (x_c (S0_in 0 (fun _ => fz_vt_trust)) (x_c (S0_in 0 (fun _ => fz_vt_isLost)) (x_n)))
theorem fc1_vc_sure {h0 : fH} : XC (Sq h0) ((133, [some 1, none, none, none, none], 0, 0)) := x_state (b := 1) (lps := []) (tbl := [(59, [none, none], 0, 0)]) Sq_P SF_L vc_sure_k (by decide +kernel) (by decide +kernel) (x_c (S0_in 0 (fun _ => fz_vt_wagerWith)) (x_n))
theorem fc1_vc_mean {h0 : fH} : XC (Sq h0) ((135, [some 1, none, none], 0, 0)) := x_state (b := 1) (lps := [(true, 0), (true, 0)]) (tbl := []) Sq_P SF_L vc_mean_k (by decide +kernel) (by decide +kernel) (x_n)
theorem fc1_vc_shares {h0 : fH} : XC (Sq h0) ((136, [some 1, none, none], 0, 0)) := x_state (b := 1) (lps := []) (tbl := [(80, [none, none], 0, 0)]) Sq_P SF_L vc_shares_k (by decide +kernel) (by decide +kernel) (x_c (S0_in 0 (fun _ => fz_vt_allTears)) (x_n))
theorem fc1_vc_saddest {h0 : fH} : XC (Sq h0) ((138, [some 1, none], 0, 0)) := x_state (b := 1) (lps := []) (tbl := [(139, [none], 0, 0), (140, [none, none], 0, 0), (141, [none], 0, 0)]) Sq_P SF_L vc_saddest_k (by decide +kernel) (by decide +kernel) (x_c (S0_in 0 (fun _ => fz_vc_whoHasMostTears)) (x_c (S0_in 0 (fun _ => fz_vc_twosWhoWishEachOther)) (x_c (S0_in 0 (fun _ => fz_vt_freeBits)) (x_n))))
theorem fc1_vc_wished {h0 : fH} : XC (Sq h0) ((142, [some 1, none], 0, 0)) := x_state (b := 1) (lps := [(true, 0)]) (tbl := []) Sq_P SF_L vc_wished_k (by decide +kernel) (by decide +kernel) (x_n)
theorem fc1_vc_scorn {h0 : fH} : XC (Sq h0) ((143, [some 1, none], 0, 0)) := x_state (b := 1) (lps := [(true, 0)]) (tbl := []) Sq_P SF_L vc_scorn_k (by decide +kernel) (by decide +kernel) (x_n)
theorem fc1_vc_left {h0 : fH} : XC (Sq h0) ((144, [some 1, none], 0, 0)) := x_state (b := 1) (lps := []) (tbl := [(140, [none, none], 0, 0), (145, [none], 0, 0), (146, [none], 0, 0), (147, [none], 0, 0), (148, [none], 0, 0)]) Sq_P SF_L vc_left_k (by decide +kernel) (by decide +kernel) (x_c (S0_in 0 (fun _ => fz_vc_twosWhoWishEachOther)) (x_c (S0_in 0 (fun _ => fz_vc_daysOfLastWager)) (x_c (S0_in 0 (fun _ => fz_vc_longestChasteRun)) (x_c (S0_in 0 (fun _ => fz_vc_eventsToday)) (x_c (S0_in 0 (fun _ => fz_vc_rivals)) (x_n))))))
end
section
/-! the class's methods that think in mind (the second town, object 34): nothing else changes but refusals -/
noncomputable def SC (h0 h : fH) : Prop := (∀ c k, ¬ (c = 3 ∨ (34 ≤ c ∧ c ≤ 56) ∨ (268 ≤ c ∧ c ≤ 270)) → h c k = h0 c k) ∧ RW h 34
section MI
variable {h h' h0 h1 : fH} {v z c k p f b e : Int} {g G : gV}
theorem SC.rf (hW : RW h0 34) : SC h0 h0 := ⟨fun _ _ _ => rfl, hW⟩
theorem SC.up (hS : SC h0 h) (hc : c = 3 ∨ (34 ≤ c ∧ c ≤ 56 ∧ c ≠ 53) ∨ (268 ≤ c ∧ c ≤ 270)) : SC h0 (fu h c k z) := by
  refine ⟨fun c' k' q => ?_, fun w j1 j2 => ?_, fun w w' j1 j2 j3 => ?_⟩
  · rw [fu_c (by omega)]
    exact hS.1 c' k' q
  · rw [fu_c (by omega)]
    exact hS.2.1 w j1 j2
  · rw [fu_c (by omega), fu_c (by omega)]
    exact hS.2.2 w w' j1 j2 j3
theorem SC.cp (hS : SC h0 h) {i n : Int} (hc : c = 3 ∨ (34 ≤ c ∧ c ≤ 56 ∧ c ≠ 53) ∨ (268 ≤ c ∧ c ≤ 270)) : SC h0 (fcp h i c n) := by
  refine ⟨fun c' k' q => ?_, fun w j1 j2 => ?_, fun w w' j1 j2 j3 => ?_⟩
  · rw [fcp_c (by omega)]
    exact hS.1 c' k' q
  · rw [fcp_c (by omega)]
    exact hS.2.1 w j1 j2
  · rw [fcp_c (by omega), fcp_c (by omega)]
    exact hS.2.2 w w' j1 j2 j3
theorem SC.frC (hS : SC h0 h) (hf : frC 34 h h') (hW : RW h' 34) : SC h0 h' := ⟨fun c k q => by rw [hf c k (by omega)]; exact hS.1 c k q, hW⟩
theorem SC.r11 (hS : SC h0 h) (R : RC h0 11 g) (hB : BG g) : RC h 11 g := RC_cg R hB (fun c k j1 j2 => hS.1 c k (by omega))
noncomputable abbrev SCs (h0 : fH) : Nat → fH → Prop := fun _ h => SC h0 h
noncomputable def pC : xP := fun s c k => match k with
  | some _ => none
  | none => match decide (c = 3 ∨ (34 ≤ c ∧ c ≤ 56 ∧ c ≠ 53) ∨ (268 ≤ c ∧ c ≤ 270)) with
    | true => some s
    | false => none
theorem SC_L : XL (SCs h0) := fun _ _ _ _ h => h
theorem SC_P : XP (SCs h0) pC := by
  refine ⟨fun s c k s' h z hp hs => ?_, fun s c s' h i z hp hs => ?_, fun s c s' h i n hp hs => ?_⟩
  · cases hp
  · unfold pC at hp
    dsimp only at hp
    split at hp
    · rename_i q
      exact hs.up (of_decide_eq_true q)
    · cases hp
  · unfold pC at hp
    dsimp only at hp
    split at hp
    · rename_i q
      exact hs.cp (of_decide_eq_true q)
    · cases hp
theorem l_l2 {as : List Int} {a b : Int} (h : as.length = 2) (hr : xR [some a, some b] as) : as = [a, b] := by
  match as, h, hr with
  | [x, y], _, ⟨h1, h2, _⟩ => rw [h1, h2]
theorem sm_copy (hs : fS 23 [34, 11] h v h') (hS : SC h0 h) (R : RC h0 11 g) (hB : BG g) : SC h0 h' ∧ RC h' 34 g := by
  obtain ⟨a1, a2⟩ := sc_copyFrom hs (hS.r11 R hB) hB hS.2 (by unfold tw; omega) (by unfold tw; omega) (by omega)
  exact ⟨hS.frC a2 a1.rw', a1⟩
theorem sm_copyX (R : RC h0 11 g) (hB : BG g) : XC (SCs h0) (23, [some 34, some 11], 0, 0) := fun as h v h' hr hs hS => by
  have e := l_l2 (fS_len hS) hr
  rw [e] at hS
  exact (sm_copy hS hs R hB).1
theorem sm_off {off : Int} (hs : fS 124 [1, off] h v h') (hS : SC h0 h) (R : RC h0 11 g) (hB : BG g) : SC h0 h' := by
  have hB' := hB
  unfold BG at hB'
  refine vc_callOffInMind hs (fun x0 x1 x2 q => -1 ≤ x2 ∧ x2 < 7 ∧ SC h0 q ∧ ∃ G, BG G ∧ RC q 34 G ∧ x2 < G 2) (fun _ q => SC h0 q) ?_ ?_
  · intro v1 k1 hs1 z3 e3 z4 e4
    obtain ⟨s1, r1⟩ := sm_copy hs1 hS R hB
    rw [(s1.r11 R hB).opn] at e3
    subst e3
    rw [wr_id (by omega) (by omega)] at e4
    subst e4
    exact ⟨by omega, by omega, s1, g, hB, r1, by omega⟩
  · rintro x0 x1 x2 q ⟨i1, i2, s1, G, bG, r1, i3⟩
    refine ⟨fun _ => s1, fun q0 z3 e3 z4 e4 => ⟨fun q1 z5 e5 => ?_, fun q1 v1 k1 hs1 z6 e6 => ?_⟩⟩
    · rw [wr_id (by omega) (by omega)] at e5
      subst e5
      exact ⟨by omega, by omega, s1, G, bG, r1, by omega⟩
    · obtain ⟨a1, a2⟩ := sc_close hs1 r1 bG q0 i3
      rw [wr_id (by omega) (by omega)] at e6
      subst e6
      have d0 : dropF G x2 0 = G 0 := by
        unfold dropF
        rw [if_neg (by omega), if_neg (by omega)]
      have d2 : dropF G x2 2 = G 2 - 1 := if_pos rfl
      refine ⟨by omega, by omega, s1.frC a2 a1.rw', _, ?_, a1, by omega⟩
      unfold BG at bG ⊢
      rw [d0, d2]
      omega
theorem sm_offX (R : RC h0 11 g) (hB : BG g) : XC (SCs h0) (124, [some 1, none], 0, 0) := fun as h v h' hr hs hS => by
  have hl := fS_len hS
  match as, hl, hr with
  | [x, y], _, ⟨hx, _⟩ =>
    subst hx
    exact sm_off hS hs R hB
theorem sm_row (hs : fS 131 [1, p] h v h') : h' = h := S0_eq (rq := [none, none]) (as := [1, p]) (fun _ => fz_vc_isRowSoInMind) trivial hs
theorem SC.bec (hS : SC h0 h) (hs : fS 29 [34, p, k, f] h v h') (h1 : 0 ≤ k) (h2 : k ≤ 5) (h3 : 0 ≤ f) (h4 : f ≤ 9) : SC h0 h' := by
  rw [sc_become hs h1 h2 h3 h4]
  exact ((((hS.up (by omega)).up (by omega)).up (by omega)).up (by omega)).up (by omega)
theorem sm_whatKind {a1 a2 : Int} (hs : fS 132 [1, a1, a2] h v h') (hS : SC h0 h) (R : RC h0 11 g) (W : WF g) : SC h0 h' := by
  have rf : ∀ {z2 z4 k1}, k1 = fu h 3 z2 z4 → SC h0 k1 := fun e => by rw [e]; exact hS.up (by omega)
  refine vc_whatKind hs (fun x0 x1 x2 x3 x4 q => x0 = 1 ∧ 0 ≤ x1 ∧ x1 < g 0 ∧ 0 ≤ x4 ∧ x4 ≤ 10 ∧ SC h0 q) (fun _ q => SC h0 q) ?_ ?_
  · refine ⟨fun _ z3 _ z4 _ z5 _ k1 ek1 => rf ek1, fun q1 z3 e3 => ⟨fun _ z4 _ z5 _ z6 _ k1 ek1 => rf ek1, fun q2 => ⟨fun _ z4 _ z5 _ z6 _ k1 ek1 => rf ek1, fun q3 => ⟨fun _ z4 _ z5 _ z6 _ k1 ek1 => rf ek1, fun q4 v1 k1 hs1 => ?_⟩⟩⟩⟩
    have := (hS.r11 R W.bg).many
    exact ⟨rfl, q1, by omega, by omega, by omega, (sm_copy hs1 hS R W.bg).1⟩
  · rintro x0 x1 x2 x3 x4 q ⟨rfl, i1, i2, i3, i4, s1⟩
    have r1 := s1.r11 R W.bg
    have wp := W.per i1 i2
    have f6 : f_len 4 = 6 := by decide +kernel
    have key : ∀ {kk ff : Int} {v1 v2 : Int} {k1 k2 : fH}, fS 29 [34, x1, kk, ff] q v1 k1 → fS 131 [1, x1] k1 v2 k2 → 0 ≤ kk → kk ≤ 5 → 0 ≤ ff → ff ≤ 9 → SC h0 k2 := fun a1 a2 c1 c2 c3 c4 => by
      rw [sm_row a2]
      exact s1.bec a1 c1 c2 c3 c4
    refine ⟨fun q1 => ⟨fun _ => s1, fun q2 => ⟨fun _ z5 e5 v1 k1 hs1 v2 k2 hs2 => ?_, fun q3 => absurd q3 q1⟩⟩, fun q1 z5 e5 => ⟨fun _ => s1, fun q2 => ⟨fun q3 => absurd q1 q3, fun _ z6 e6 v1 k1 hs1 v2 k2 hs2 => ?_⟩⟩⟩
    · have e5 := e5.trans (r1.kind i1 i2)
      have s2 := key hs1 hs2 (by omega) (by omega) (by omega) (by omega)
      refine ⟨fun _ z8 e8 => ?_, fun _ z8 e8 z9 e9 z10 e10 => ?_⟩
      · rw [wr_id (by omega) (by omega)] at e8
        exact ⟨rfl, i1, i2, by omega, by omega, s2⟩
      · rw [wr_id (by omega) (by omega)] at e10
        exact ⟨rfl, i1, i2, by omega, by omega, s2⟩
    · rw [f6] at e5
      have e6 := e6.trans (r1.fig i1 i2)
      have s2 := key hs1 hs2 (by omega) (by omega) (by omega) (by omega)
      refine ⟨fun _ z8 e8 => ?_, fun _ z8 e8 z9 e9 z10 e10 => ?_⟩
      · rw [wr_id (by omega) (by omega)] at e8
        exact ⟨rfl, i1, i2, by omega, by omega, s2⟩
      · rw [wr_id (by omega) (by omega)] at e10
        exact ⟨rfl, i1, i2, by omega, by omega, s2⟩
theorem sm_uponWhat {a1 a2 : Int} (hs : fS 130 [1, a1, a2] h v h') (hS : SC h0 h) (R : RC h0 11 g) (W : WF g) : SC h0 h' := by
  have hB := W.bg
  unfold BG at hB
  have rf : ∀ {z2 z4 k1}, k1 = fu h 3 z2 z4 → SC h0 k1 := fun e => by rw [e]; exact hS.up (by omega)
  refine vc_uponWhat hs (fun x0 x1 x2 x4 x5 x6 q => x0 = 1 ∧ 54 ≤ x4 ∧ x4 ≤ 56 ∧ SC h0 q) (fun _ q => SC h0 q) ?_ ?_
  · refine ⟨fun _ z3 _ z4 _ z5 _ k1 ek1 => rf ek1, fun q1 z3 e3 => ⟨fun _ z4 _ z5 _ z6 _ k1 ek1 => rf ek1, fun q2 => ⟨fun _ z4 _ z5 _ z6 _ k1 ek1 => rf ek1, fun q3 => ⟨fun _ z4 _ z5 _ z6 _ k1 ek1 => rf ek1, fun q4 v1 k1 hs1 v2 k2 hs2 => ?_⟩⟩⟩⟩
    obtain ⟨s1, r1⟩ := sm_copy hs1 hS R W.bg
    obtain ⟨rfl, w2⟩ := sc_wagerWith hs2 r1 W
    refine ⟨fun q5 z6 e6 => ?_, fun _ => s1⟩
    rcases w2 with w2 | w2
    · omega
    · have := r1.wr q5 (by omega : v2 < 3)
      have e53 : (34 : Int) + 19 = 53 := rfl
      rw [e53] at this
      exact ⟨rfl, by omega, by omega, s1⟩
  · rintro x0 x1 x2 x4 x5 x6 q ⟨rfl, i1, i2, s1⟩
    have key : ∀ {kk zz : Int} {v2 : Int} {k1 k2 : fH}, k1 = fu q x4 kk zz → fS 131 [1, x1] k1 v2 k2 → SC h0 k2 := fun a1 a2 => by
      rw [sm_row a2, a1]
      exact s1.up (by omega)
    refine ⟨fun q1 => ⟨fun _ => s1, fun q2 => ⟨fun _ k1 ek1 v2 k2 hs2 => ?_, fun q3 => absurd q3 q1⟩⟩, fun q1 => ⟨fun _ => s1, fun q2 => ⟨fun q3 => absurd q1 q3, fun _ k1 ek1 v2 k2 hs2 => ?_⟩⟩⟩
    · have s2 := key ek1 hs2
      exact ⟨fun _ z8 e8 => ⟨rfl, i1, i2, s2⟩, fun _ z8 e8 z9 e9 z10 e10 => ⟨rfl, i1, i2, s2⟩⟩
    · have s2 := key ek1 hs2
      exact ⟨fun _ z8 e8 => ⟨rfl, i1, i2, s2⟩, fun _ z8 e8 z9 e9 z10 e10 => ⟨rfl, i1, i2, s2⟩⟩
theorem sm_bits (hs : fS 120 [p] h v h') : h' = h := S0_eq (rq := [none]) (as := [p]) (fun _ => fz_vj_bitCount) trivial hs
theorem sm_woo (hs : fS 110 [b, p] h v h') : h' = h := S0_eq (rq := [none, none]) (as := [b, p]) (fun _ => fz_vt_wooerBits) trivial hs
theorem sm_preach {a1 : Int} (hs : fS 119 [1, a1] h v h') (hS : SC h0 h) (R : RC h0 11 g) (W : WF g) : SC h0 h' := by
  have hB := W.bg
  unfold BG at hB
  have rf : ∀ {z2 z4 k1}, k1 = fu h 3 z2 z4 → SC h0 k1 := fun e => by rw [e]; exact hS.up (by omega)
  refine vc_preach hs (fun x0 x1 x2 x3 x4 q => x0 = 1 ∧ 0 ≤ x4 ∧ x4 ≤ 7 ∧ SC h0 q) (fun _ q => SC h0 q) ?_ ?_
  · refine ⟨fun _ z3 _ z4 _ z5 _ k1 ek1 => rf ek1, fun q1 => ⟨fun _ z4 _ z5 _ z6 _ k1 ek1 => rf ek1, fun q2 v1 k1 hs1 => ?_⟩⟩
    exact ⟨rfl, by omega, by omega, (sm_copy hs1 hS R W.bg).1⟩
  · rintro x0 x1 x2 x3 x4 q ⟨rfl, i1, i2, s1⟩ z5 e5
    rw [(s1.r11 R W.bg).many] at e5
    refine ⟨fun _ => s1, fun q1 z6 e6 z7 e7 z8 e8 z9 e9 k1 ek1 v2 k2 hs2 v3 k3 hs3 => ?_⟩
    have s2 : SC h0 k1 := by
      rw [ek1]
      exact s1.up (by omega)
    have e2 := sm_woo hs2
    have e3 := sm_bits hs3
    have s2' : SC h0 k3 := by
      rw [e3, e2]
      exact s2
    have s3 : ∀ {zz z6 z7 : Int} {kb kk : fH}, kb = k3 → zz = 43 + 1 + 1 * x4 → kk = fu kb zz x1 z6 → z7 = wr (x4 + 1) → (1 : Int) = 1 ∧ 0 ≤ z7 ∧ z7 ≤ 7 ∧ SC h0 kk := fun a0 a1 a2 a3 => by
      rw [wr_id (by omega) (by omega)] at a3
      rw [a2, a0]
      exact ⟨rfl, by omega, by omega, s2'.up (by omega)⟩
    refine ⟨fun _ z12 e12 z13 e13 z14 e14 k4 ek4 z15 e15 => s3 rfl e12 ek4 e15, fun _ v4 k4 hs4 v5 k5 hs5 => ?_⟩
    have e4 := sm_woo hs4
    have e5 := sm_bits hs5
    have e6 : k5 = k3 := e5.trans e4
    exact ⟨fun _ z14 e14 z15 e15 z16 e16 k6 ek6 z17 e17 => s3 e6 e14 ek6 e17, fun _ z14 e14 z15 e15 z16 e16 k6 ek6 z17 e17 => s3 e6 e14 ek6 e17⟩
theorem sm_can {a1 a2 a3 a4 : Int} (hs : fS 56 [b, a1, a2, a3, a4] h v h') : h' = h := S0_eq (rq := [none, none, none, none, none]) (as := [b, a1, a2, a3, a4]) (fun _ => fz_vt_canBe) trivial hs
theorem sm_gain {a1 a2 a3 a4 a5 : Int} (hs : fS 126 [1, a1, a2, a3, a4, a5] h v h') (hS : SC h0 h) (p1 : 0 ≤ a1) (p2 : a1 < 7) (p3 : 0 ≤ a2) (p4 : a2 < 7) : SC h0 h' := by
  refine vc_gainOfTwo hs (fun _ q => SC h0 q) ?_
  intro z6 e6 z7 e7 k1 ek1 z8 e8 z9 e9 k2 ek2 v3 k3 hs3
  have s2 : SC h0 k2 := by
    rw [ek2, ek1]
    exact (hS.up (by omega)).up (by omega)
  have e3 := sm_can hs3
  subst e3
  exact ⟨fun _ => s2, fun _ z11 _ z12 _ z13 _ z14 _ z15 _ z16 _ => ⟨fun _ => s2, fun _ => s2⟩⟩
theorem sm_fre (hs : fS 57 [b, p] h v h') : h' = h := S0_eq (rq := [none, none]) (as := [b, p]) (fun _ => fz_vt_isFree) trivial hs
theorem sm_two {a1 a2 a3 : Int} (hs : fS 125 [1, a1, a2, a3] h v h') (hS : SC h0 h) (R : RC h0 11 g) (W : WF g) : SC h0 h' := by
  have hB := W.bg
  unfold BG at hB
  have rf : ∀ {z2 z4 k1}, k1 = fu h 3 z2 z4 → SC h0 k1 := fun e => by rw [e]; exact hS.up (by omega)
  have r0 := (hS.r11 R W.bg).many
  refine vc_two hs (fun x0 x1 x2 x3 x4 q => x0 = 1 ∧ (0 ≤ x1 ∧ x1 < 7 ∧ 0 ≤ x2 ∧ x2 < 7) ∧ SC h0 q) (fun x0 x1 x2 x3 x4 x5 q => x0 = 1 ∧ (0 ≤ x1 ∧ x1 < 7 ∧ 0 ≤ x2 ∧ x2 < 7) ∧ SC h0 q) (fun _ q => SC h0 q) ?_ ?_ ?_
  · refine ⟨fun _ z4 _ z5 _ z6 _ k1 ek1 => rf ek1, fun q1 z4 e4 => ⟨fun _ z5 _ z6 _ z7 _ k1 ek1 => rf ek1, fun q2 => ⟨fun _ z5 _ z6 _ z7 _ k1 ek1 => rf ek1, fun q3 z5 e5 => ⟨fun _ z6 _ z7 _ z8 _ k1 ek1 => rf ek1, fun q4 => ⟨fun _ z6 _ z7 _ z8 _ k1 ek1 => rf ek1, fun q5 => ⟨fun _ z6 _ z7 _ z8 _ k1 ek1 => rf ek1, fun q6 => ⟨fun _ z6 _ z7 _ z8 _ k1 ek1 => rf ek1, fun q7 v1 k1 hs1 => ?_⟩⟩⟩⟩⟩⟩⟩
    have e1 := sm_fre hs1
    subst e1
    refine ⟨fun _ z7 _ z8 _ z9 _ k2 ek2 => rf ek2, fun _ v2 k2 hs2 => ?_⟩
    have e2 := sm_fre hs2
    subst e2
    exact ⟨fun _ v3 k3 hs3 => ⟨rfl, ⟨q1, by omega, q3, by omega⟩, (sm_copy hs3 hS R W.bg).1⟩, fun _ z8 _ z9 _ z10 _ k3 ek3 => rf ek3⟩
  · rintro x0 x1 x2 x3 x4 q ⟨rfl, i1, s1⟩
    exact ⟨fun _ => s1, fun _ => ⟨rfl, i1, s1⟩⟩
  · rintro x0 x1 x2 x3 x4 x5 q ⟨rfl, i1, s1⟩
    refine ⟨fun _ z6 _ => ⟨rfl, i1, s1⟩, fun _ v1 k1 hs1 z7 _ z8 _ z9 _ v2 k2 hs2 z11 _ z12 _ z13 _ => ?_⟩
    have s2 := sm_gain hs2 (sm_gain hs1 s1 i1.1 i1.2.1 i1.2.2.1 i1.2.2.2) i1.1 i1.2.1 i1.2.2.1 i1.2.2.2
    refine ⟨fun _ z14 _ z15 _ z16 _ v3 k3 hs3 z18 _ z19 _ z20 _ => ?_, fun _ z14 _ z15 _ z16 _ v3 k3 hs3 z18 _ z19 _ z20 _ => ?_⟩
    · have s3 := sm_gain hs3 s2 i1.1 i1.2.1 i1.2.2.1 i1.2.2.2
      exact ⟨fun _ z21 _ => ⟨rfl, i1, s3⟩, fun _ z21 _ => ⟨rfl, i1, s3⟩⟩
    · have s3 := sm_gain hs3 s2 i1.1 i1.2.1 i1.2.2.1 i1.2.2.2
      exact ⟨fun _ z21 _ => ⟨rfl, i1, s3⟩, fun _ z21 _ z22 _ => s3⟩
end MI
end
section
/-! the same, by the program -/
theorem fm_vc_fix {h0 : fH} {g : gV} (R : RC h0 11 g) (W : WF g) : XC (SCs h0) ((118, [some 1, none], 0, 0)) := x_state (b := 1) (lps := [(true, 0), (true, 0)]) (tbl := [(91, [none, none], 0, 0), (23, [some 34, some 11], 0, 0)]) SC_P SC_L vc_fix_k (by decide +kernel) (by decide +kernel) (x_c (S0_in 0 (fun _ => fz_vt_howManyWed)) (x_c (sm_copyX R W.bg) (x_n)))
theorem fm_vc_hedge {h0 : fH} {g : gV} (R : RC h0 11 g) (W : WF g) : XC (SCs h0) ((123, [some 1, none, none], 0, 0)) := x_state (b := 1) (lps := [(true, 0)]) (tbl := [(80, [none, none], 0, 0), (120, [none], 0, 0), (124, [some 1, none], 0, 0)]) SC_P SC_L vc_hedge_k (by decide +kernel) (by decide +kernel) (x_c (S0_in 0 (fun _ => fz_vt_allTears)) (x_c (S0_in 0 (fun _ => fz_vj_bitCount)) (x_c (sm_offX R W.bg) (x_n))))
theorem fm_vc_lots {h0 : fH} {g : gV} (R : RC h0 11 g) (W : WF g) : XC (SCs h0) ((137, [some 1, none, none, none], 0, 0)) := x_state (b := 1) (lps := [(true, 0), (true, 0)]) (tbl := [(80, [none, none], 0, 0), (91, [none, none], 0, 0), (23, [some 34, some 11], 0, 0)]) SC_P SC_L vc_lots_k (by decide +kernel) (by decide +kernel) (x_c (S0_in 0 (fun _ => fz_vt_allTears)) (x_c (S0_in 0 (fun _ => fz_vt_howManyWed)) (x_c (sm_copyX R W.bg) (x_n))))
end
