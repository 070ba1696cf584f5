/-! what a method leaves as it is, read off its tree: states of the cells (S), what a store does to them (put), what the methods called do (tables) -/
def fA (al : Int → Int → Bool) (h h' : fH) : Prop := ∀ c k, al c k = false → h' c k = h c k
theorem fA.rf {al : Int → Int → Bool} (h : fH) : fA al h h := fun _ _ _ => rfl
theorem fA.tr {al : Int → Int → Bool} {h h1 h2 : fH} (a : fA al h h1) (b : fA al h1 h2) : fA al h h2 := fun c k q => (b c k q).trans (a c k q)
theorem fA.mono {al bl : Int → Int → Bool} {h h' : fH} (a : fA al h h') (hi : ∀ c k, bl c k = false → al c k = false) : fA bl h h' := fun c k q => a c k (hi c k q)
theorem fA.up {al : Int → Int → Bool} {h h1 : fH} {c k z : Int} (a : fA al h h1) (hc : al c k = true) : fA al h (fu h1 c k z) := fun c' k' q => by
  unfold fu
  split
  · rename_i e
    rw [e.1, e.2, hc] at q
    cases q
  · exact a c' k' q
theorem fA.cp {al : Int → Int → Bool} {h h1 : fH} {i j n : Int} (a : fA al h h1) (hc : ∀ k, al j k = true) : fA al h (fcp h1 i j n) := fun c' k' q => by
  unfold fcp
  split
  · rename_i e
    rw [e.1, hc] at q
    cases q
  · exact a c' k' q
/-- the first operand's cell, where it is known: the base by its name or outright -/
def x_fb (b : Int) (fl : Bool) (o : xO) : Option Int := match o with
  | .inr z => some z
  | .inl 0 => if fl then some b else none
  | .inl _ => none
theorem x_fb_ok {b : Int} {fl : Bool} {o : xO} {c : Int} {ρ : List Int} (h : x_fb b fl o = some c) (hr : fl = true → ρ.head? = some b) : xe ρ o = c := by
  unfold x_fb at h
  split at h
  · cases h
    rfl
  · split at h
    · rename_i hf
      cases h
      cases ρ with
      | nil => cases hr hf
      | cons a t =>
        have := hr hf
        cases this
        rfl
    · cases h
  · cases h
/-- arguments that must be some number -/
def xR : List (Option Int) → List Int → Prop
  | [], _ => True
  | none :: r, _ :: as => xR r as
  | some c :: r, a :: as => a = c ∧ xR r as
  | _ :: _, [] => False
def x_fbl (b : Int) (fl : Bool) : List (Option Int) → List xO → Bool
  | [], _ => true
  | none :: r, _ :: as => x_fbl b fl r as
  | some c :: r, o :: as => (match x_fb b fl o with
    | some d => decide (d = c)
    | none => false) && x_fbl b fl r as
  | _ :: _, [] => false
theorem x_fbl_ok {b : Int} {fl : Bool} {ρ : List Int} (hr : fl = true → ρ.head? = some b) : ∀ {rq : List (Option Int)} {as : List xO}, x_fbl b fl rq as = true → xR rq (xes ρ as)
  | [], _, _ => trivial
  | none :: r, [], h => by cases h
  | some c :: r, [], h => by cases h
  | none :: r, o :: as, h => x_fbl_ok (as := as) hr h
  | some c :: r, o :: as, h => by
    simp only [x_fbl, Bool.and_eq_true] at h
    obtain ⟨h1, h2⟩ := h
    split at h1
    · rename_i d hd
      have e := of_decide_eq_true h1
      rw [e] at hd
      exact ⟨x_fb_ok hd hr, x_fbl_ok hr h2⟩
    · cases h1
/-- is the first argument the base -/
def x_fl (b : Int) (rq : List (Option Int)) : Bool := match rq with
  | some c :: _ => decide (c = b)
  | _ => false
theorem x_fl_ok {b : Int} {rq : List (Option Int)} {as : List Int} (h : x_fl b rq = true) (hr : xR rq as) : as.head? = some b := by
  unfold x_fl at h
  split at h
  · have e := of_decide_eq_true h
    cases as with
    | nil => exact absurd hr id
    | cons a t =>
      show some a = some b
      rw [hr.1, e]
  · cases h
abbrev xP : Type := Nat → Int → Option Int → Option Nat
-- a method, arguments that it must have, the state before and behind
abbrev xEn : Type := Nat × List (Option Int) × Nat × Nat
def x_le (s p : Nat) : Bool := decide (s = p) || decide (s = 1)
def x_cl (b : Int) (fl : Bool) (tbl : List xEn) (j : Nat) (as : List xO) (s : Nat) : Option Nat := match tbl.find? (fun e => decide (e.1 = j) && (x_le s e.2.2.1 && x_fbl b fl e.2.1 as)) with
  | some e => some e.2.2.2
  | none => none
def xkn (put : xP) (tbl : List xEn) (b : Int) (lps : List (Bool × Nat)) (fl : Bool) (s1 : Nat) (nd : xN) (ih : Nat → Nat → Bool) (s : Nat) : Bool := match nd with
  | (0, _, _, _) => ih 0 s
  | (1, _, _, _) => ih 0 s
  | (2, [o, _], k, _) => match x_fb b fl o with
    | some c => match put s c (some (k : Int)) with
      | some s' => ih 0 s'
      | none => false
    | none => false
  | (3, [o, _, _], _, _) => match x_fb b fl o with
    | some c => match put s c none with
      | some s' => ih 0 s'
      | none => false
    | none => false
  | (4, _, _, _) => ih 0 s
  | (5, _, _, _) => ih 0 s
  | (6, _, _, _) => ih 0 s
  | (7, [_, o, _], _, _) => match x_fb b fl o with
    | some c => match put s c none with
      | some s' => ih 0 s'
      | none => false
    | none => false
  | (8, _, _, _) => ih 0 s
  | (9, _, _, _) => ih 0 s
  | (10, _, _, m) => ih 0 s && ih (Int.toNat m) s
  | (11, _, _, _) => x_le s s1
  | (12, as, k, _) => match lps[k]? with
    | some (f, p) => x_le s p && (!f || x_fbl b fl [some b] as)
    | none => false
  | (13, as, j, _) => match x_cl b fl tbl j as s with
    | some s' => ih 0 s'
    | none => false
  | _ => false
def xk (put : xP) (tbl : List xEn) (b : Int) (lps : List (Bool × Nat)) (fl : Bool) (s1 : Nat) : xT → Nat → Nat → Bool
  | [], _, _ => true
  | _ :: T, m + 1, s => xk put tbl b lps fl s1 T m s
  | nd :: T, 0, s => xkn put tbl b lps fl s1 nd (xk put tbl b lps fl s1 T) s
def xkl (put : xP) (tbl : List xEn) (b : Int) (lps : List (Bool × Nat)) (s1 : Nat) : List xT → List (Bool × Nat) → Bool
  | [], [] => true
  | T :: Ts, l :: ls => xk put tbl b lps l.1 s1 T 0 l.2 && xkl put tbl b lps s1 Ts ls
  | _, _ => false
def XC (S : Nat → fH → Prop) (e : xEn) : Prop := ∀ (as : List Int) (h : fH) (v : Int) (h' : fH), xR e.2.1 as → S e.2.2.1 h → fS e.1 as h v h' → S e.2.2.2 h'
def XA (S : Nat → fH → Prop) (tbl : List xEn) : Prop := ∀ e ∈ tbl, XC S e
theorem x_n {S : Nat → fH → Prop} : XA S [] := fun e h => by cases h
theorem x_c {S : Nat → fH → Prop} {e : xEn} {t : List xEn} (h1 : XC S e) (h2 : XA S t) : XA S (e :: t) := List.forall_mem_cons.mpr ⟨h1, h2⟩
/-- what a store does is sound -/
def XP (S : Nat → fH → Prop) (put : xP) : Prop := (∀ s c k s' h z, put s c (some k) = some s' → S s h → S s' (fu h c k z)) ∧ (∀ s c s' h i z, put s c none = some s' → S s h → S s' (fu h c i z)) ∧ (∀ s c s' h i n, put s c none = some s' → S s h → S s' (fcp h i c n))
def XL (S : Nat → fH → Prop) : Prop := ∀ s p h, x_le s p = true → S s h → S p h
theorem xk_ok {put : xP} {tbl : List xEn} {b : Int} {lps : List (Bool × Nat)} {fl : Bool} {s1 : Nat} {S : Nat → fH → Prop} (hP : XP S put) (hA : XA S tbl) (hL : XL S) : ∀ (T : xT) (m s : Nat) (ρ : List Int) (h : fH), xk put tbl b lps fl s1 T m s = true → (fl = true → ρ.head? = some b) → S s h → xd (fun i vals h => ∀ f p, lps[i]? = some (f, p) → (f = true → vals.head? = some b) ∧ S p h) (fun _ h => S s1 h) T m ρ h
  | [], _, _, _, _, _, _, _ => trivial
  | _ :: T, m + 1, s, ρ, h, hk, hr, hs => xk_ok hP hA hL T m s ρ h hk hr hs
  | nd :: T, 0, s, ρ, h, hk, hr, hs => by
    have ih := xk_ok (b := b) (lps := lps) (fl := fl) (s1 := s1) hP hA hL T
    have hr' : ∀ z : Int, fl = true → (ρ ++ [z]).head? = some b := fun z hf => by
      have h1 := hr hf
      cases ρ with
      | nil => cases h1
      | cons a t => exact h1
    have hk : xkn put tbl b lps fl s1 nd (xk put tbl b lps fl s1 T) s = true := hk
    show xnd (fun i vals h => ∀ f p, lps[i]? = some (f, p) → (f = true → vals.head? = some b) ∧ S p h) (fun _ h => S s1 h) nd (xd (fun i vals h => ∀ f p, lps[i]? = some (f, p) → (f = true → vals.head? = some b) ∧ S p h) (fun _ h => S s1 h) T) ρ h
    unfold xnd
    split
    · exact fun z _ => ih 0 s _ h hk (hr' z) hs
    · exact fun z _ => ih 0 s _ h hk (hr' z) hs
    · rename_i o v k z0 _
      have hk : (match x_fb b fl o with
        | some c => match put s c (some (k : Int)) with
          | some s' => xk put tbl b lps fl s1 T 0 s'
          | none => false
        | none => false) = true := hk
      split at hk
      · rename_i c hc
        split at hk
        · rename_i s' hs'
          intro h' e
          rw [e, x_fb_ok hc hr]
          exact ih 0 s' ρ _ hk hr (hP.1 _ _ _ _ _ _ hs' hs)
        · cases hk
      · cases hk
    · rename_i o i v k z0 _
      have hk : (match x_fb b fl o with
        | some c => match put s c none with
          | some s' => xk put tbl b lps fl s1 T 0 s'
          | none => false
        | none => false) = true := hk
      split at hk
      · rename_i c hc
        split at hk
        · rename_i s' hs'
          intro h' e
          rw [e, x_fb_ok hc hr]
          exact ih 0 s' ρ _ hk hr (hP.2.1 _ _ _ _ _ _ hs' hs)
        · cases hk
      · cases hk
    · exact fun z _ => ih 0 s _ h hk (hr' z) hs
    · exact fun z _ => ih 0 s _ h hk (hr' z) hs
    · exact fun z _ => ih 0 s _ h hk (hr' z) hs
    · rename_i i o n k z0 _
      have hk : (match x_fb b fl o with
        | some c => match put s c none with
          | some s' => xk put tbl b lps fl s1 T 0 s'
          | none => false
        | none => false) = true := hk
      split at hk
      · rename_i c hc
        split at hk
        · rename_i s' hs'
          intro h' e
          rw [e, x_fb_ok hc hr]
          exact ih 0 s' ρ _ hk hr (hP.2.2 _ _ _ _ _ _ hs' hs)
        · cases hk
      · cases hk
    · exact fun z _ => ih 0 s _ h hk (hr' z) hs
    · exact fun z _ => ih 0 s _ h hk (hr' z) hs
    · rename_i a c o m _
      have hk : (xk put tbl b lps fl s1 T 0 s && xk put tbl b lps fl s1 T (Int.toNat m) s) = true := hk
      rw [Bool.and_eq_true] at hk
      exact ⟨fun _ => ih 0 s ρ h hk.1 hr hs, fun _ => ih _ s ρ h hk.2 hr hs⟩
    · exact hL _ _ _ hk hs
    · rename_i as k z0 _
      have hk : (match lps[k]? with
        | some (f, p) => x_le s p && (!f || x_fbl b fl [some b] as)
        | none => false) = true := hk
      split at hk
      · rename_i f p hl
        rw [Bool.and_eq_true] at hk
        intro f' p' hl'
        rw [hl] at hl'
        cases hl'
        refine ⟨fun hf => ?_, hL _ _ _ hk.1 hs⟩
        rw [hf] at hk
        exact x_fl_ok (rq := [some b]) (decide_eq_true rfl) (x_fbl_ok hr hk.2)
      · cases hk
    · rename_i as j z0 _
      have hk2 : (match x_cl b fl tbl j as s with
        | some s' => xk put tbl b lps fl s1 T 0 s'
        | none => false) = true := hk
      split at hk2
      · rename_i s' hc
        intro v h' hS
        unfold x_cl at hc
        split at hc
        · rename_i e he
          cases hc
          have h1 := List.mem_of_find?_eq_some he
          have h2 := List.find?_some he
          simp only [Bool.and_eq_true, decide_eq_true_eq] at h2
          obtain ⟨h3, h4, h5⟩ := h2
          subst h3
          exact ih 0 _ _ h' hk2 (hr' v) (hA e h1 _ h v h' (x_fbl_ok hr h5) (hL _ _ _ h4 hs) hS)
        · cases hc
      · cases hk2
    · trivial
theorem xkl_at {put : xP} {tbl : List xEn} {b : Int} {lps : List (Bool × Nat)} {s1 : Nat} : ∀ {Ts : List xT} {ls : List (Bool × Nat)}, xkl put tbl b lps s1 Ts ls = true → ∀ (i : Nat) (T : xT), Ts[i]? = some T → ∃ f p, ls[i]? = some (f, p) ∧ xk put tbl b lps f s1 T 0 p = true
  | [], [], _, i, T, hT => by simp at hT
  | [], _ :: _, h, _, _, _ => by cases h
  | _ :: _, [], h, _, _, _ => by cases h
  | T0 :: Ts, (f, p) :: ls, h, i, T, hT => by
    simp only [xkl, Bool.and_eq_true] at h
    cases i with
    | zero =>
      cases hT
      exact ⟨f, p, rfl, h.1⟩
    | succ i => exact xkl_at h.2 i T hT
theorem x_state {put : xP} {tbl : List xEn} {b : Int} {S : Nat → fH → Prop} {lps : List (Bool × Nat)} {e : xEn} {hd : xHd} {T : xT} {Ts : List xT} {n : Nat} (hP : XP S put) (hL : XL S) (hc : x_chk e.1 hd T Ts n = true) (h1 : xk put tbl b lps (x_fl b e.2.1) e.2.2.2 T 0 e.2.2.1 = true) (h2 : xkl put tbl b lps e.2.2.2 Ts lps = true) (hA : XA S tbl) : XC S e := by
  intro as h v h' hb hs hS
  refine x_met hc hS (fun i vals h => ∀ f p, lps[i]? = some (f, p) → (f = true → vals.head? = some b) ∧ S p h) (fun _ h => S e.2.2.2 h) (xk_ok hP hA hL T 0 _ as h h1 (fun hf => x_fl_ok hf hb) hs) ?_
  intro i Ti hT vals h hI
  obtain ⟨f, p, hl, hk⟩ := xkl_at h2 i Ti hT
  obtain ⟨i1, i2⟩ := hI f p hl
  exact xk_ok hP hA hL Ti 0 p vals h hk i1 i2
-- cells that may change whole, fields that may change
def alO (aw af : List (Int × Int)) (c k : Int) : Bool := aw.any (fun r => decide (r.1 ≤ c) && decide (c ≤ r.2)) || af.any (fun r => decide (c = r.1) && decide (k = r.2))
def SF (al : Int → Int → Bool) (h0 : fH) : Nat → fH → Prop := fun _ h => fA al h0 h
def pF (aw af : List (Int × Int)) : xP := fun s c k => match aw.any (fun r => decide (r.1 ≤ c) && decide (c ≤ r.2)) with
  | true => some s
  | false => match k with
    | some k => match af.any (fun r => decide (c = r.1) && decide (k = r.2)) with
      | true => some s
      | false => none
    | none => none
theorem SF_L {al : Int → Int → Bool} {h0 : fH} : XL (SF al h0) := fun _ _ _ _ h => h
theorem SF_P {aw af : List (Int × Int)} {h0 : fH} : XP (SF (alO aw af) h0) (pF aw af) := by
  have hw : ∀ {c : Int}, aw.any (fun r => decide (r.1 ≤ c) && decide (c ≤ r.2)) = true → ∀ k, alO aw af c k = true := fun h k => by
    unfold alO
    rw [h]
    rfl
  refine ⟨fun s c k s' h z hp hs => ?_, fun s c s' h i z hp hs => ?_, fun s c s' h i n hp hs => ?_⟩
  · unfold pF at hp
    split at hp
    · rename_i q
      exact fA.up hs (hw q k)
    · dsimp only at hp
      split at hp
      · rename_i q
        refine fA.up hs ?_
        unfold alO
        rw [q, Bool.or_true]
      · cases hp
  · unfold pF at hp
    split at hp
    · rename_i q
      exact fA.up hs (hw q i)
    · cases hp
  · unfold pF at hp
    split at hp
    · rename_i q
      exact fA.cp hs (hw q)
    · cases hp
