/-! THE FUNCTIONAL VIEW: a value as an int, the cells as a function of cell and place to an int; what never changes of the cells: their kinds, the references of final fields and of arrays that stay -/
def fv (v : Value) : Int := match v with
  | .int x => x.toInt
  | .long x => x.toInt
  | .ref i => ((i : Nat) : Int)
  | _ => -1
def fo (o : Option Nat) : Int := match o with
  | some i => (i : Int)
  | none => -1
theorem fv_rf (o : Option Nat) : fv (va_rf o) = fo o := by cases o <;> rfl
def fcl (c : zz_C) (k : Nat) : Int := match c with
  | .inl xs => match xs[k]? with
    | some x => x.toInt
    | none => 0
  | .inr (.inl (_, rs)) => match rs[k]? with
    | some o => fo o
    | none => 0
  | .inr (.inr (_, fs)) => match fs[k]? with
    | some v => fv v
    | none => 0
abbrev fH : Type := Int → Int → Int
def fh (cs : zz_W) : fH := fun c k => match c with
  | .ofNat c => match k with
    | .ofNat k => match zz_cell cs c with
      | some d => fcl d k
      | none => 0
    | .negSucc _ => 0
  | .negSucc _ => 0
def fu (h : fH) (c k z : Int) : fH := fun c' k' => if c' = c ∧ k' = k then z else h c' k'
def fcp (h : fH) (i j n : Int) : fH := fun c k => if c = j ∧ 0 ≤ k ∧ k < n then h i k else h c k
theorem fh_at (cs : zz_W) (i k : Nat) {d : zz_C} (h : zz_cell cs i = some d) : fh cs i k = fcl d k := by
  show (match zz_cell cs i with | some d => fcl d k | none => 0) = _
  rw [h]
-- the kind of a cell
def f1 (v : Value) : Bool := match v with
  | .long _ => false
  | .double _ => false
  | _ => true
theorem f1_iff {v : Value} : f1 v = true ↔ v.category = 1 := by cases v <;> simp [f1, Value.category]
def fct (c : Option zz_C) : Nat × Nat × Nat := match c with
  | none => (3, 0, 0)
  | some (.inl xs) => (0, 0, xs.length)
  | some (.inr (.inl (t, rs))) => (1, t, rs.length)
  | some (.inr (.inr (ci, fs))) => match fs.all f1 with
    | true => (2, ci, fs.length)
    | false => (4, ci, fs.length)
def fFX (cs : zz_W) : Prop := cs.map fct = f_ct ∧ ∀ e ∈ f_fx, fh cs e.1 e.2.1 = e.2.2
theorem f_set_ct {cs : zz_W} {i : Nat} {d d' : zz_C} (h : zz_cell cs i = some d) (hd : fct (some d') = fct (some d)) : (cs.set i (some d')).map fct = cs.map fct := by
  rw [List.map_set, hd]
  apply List.ext_getElem?
  intro j
  rw [List.getElem?_set]
  by_cases hj : i = j
  · subst hj
    have h1 := zz_cell_eq h
    rw [if_pos rfl, List.getElem?_map, h1]
    have hl := (List.getElem?_eq_some_iff.mp h1).1
    rw [List.length_map, if_pos hl]
    rfl
  · rw [if_neg hj]
theorem fh_set {cs : zz_W} {i k0 : Nat} {d d' : zz_C} {z : Int} (h : zz_cell cs i = some d) (hd : ∀ k, fcl d' k = if k = k0 then z else fcl d k) : fh (cs.set i (some d')) = fu (fh cs) i k0 z := by
  funext c k
  match c, k with
  | .ofNat c, .ofNat k =>
    show (match zz_cell (cs.set i (some d')) c with | some d => fcl d k | none => 0) = if (Int.ofNat c = (i : Int) ∧ Int.ofNat k = (k0 : Int)) then z else (match zz_cell cs c with | some d => fcl d k | none => 0)
    rw [t_cell_set h]
    by_cases hc : i = c
    · subst hc
      rw [if_pos rfl, h]
      dsimp only
      rw [hd]
      by_cases hk : k = k0
      · subst hk
        rw [if_pos rfl, if_pos ⟨rfl, rfl⟩]
      · rw [if_neg hk, if_neg (fun q => hk (Int.ofNat.inj q.2))]
    · rw [if_neg hc, if_neg (fun q => hc (Int.ofNat.inj q.1).symm)]
  | .ofNat c, .negSucc k =>
    show 0 = if (Int.ofNat c = (i : Int) ∧ Int.negSucc k = (k0 : Int)) then z else 0
    rw [if_neg (fun q => by cases q.2)]
  | .negSucc c, k =>
    show 0 = if (Int.negSucc c = (i : Int) ∧ k = (k0 : Int)) then z else 0
    rw [if_neg (fun q => by cases q.1)]
theorem f_kind {cs : zz_W} (hF : fFX cs) {i : Nat} {d : zz_C} (h : zz_cell cs i = some d) : f_ct[i]? = some (fct (some d)) := by
  rw [← hF.1, List.getElem?_map, zz_cell_eq h]
  rfl
theorem f_obj {cs : zz_W} (hF : fFX cs) {i ci : Nat} {fs : List Value} (h : zz_cell cs i = some (.inr (.inr (ci, fs)))) : f_ct[i]? = some (2, ci, fs.length) ∧ ∀ v ∈ fs, v.category = 1 := by
  have h1 := f_kind hF h
  simp only [fct] at h1
  split at h1
  · rename_i ha
    exact ⟨h1, fun v hv => f1_iff.mp (List.all_eq_true.mp ha v hv)⟩
  · exfalso
    have h2 : f_ct.all (fun e => decide (e.1 ≠ 4)) = true := by decide +kernel
    have h3 := List.all_eq_true.mp h2 _ (List.mem_of_getElem? h1)
    simp at h3
theorem fx_set {cs : zz_W} {i k0 : Nat} {d d' : zz_C} {z : Int} (hF : fFX cs) (h : zz_cell cs i = some d) (hk : fct (some d') = fct (some d)) (hd : ∀ k, fcl d' k = if k = k0 then z else fcl d k) (hn : ∀ e ∈ f_fx, ¬ (e.1 = i ∧ e.2.1 = k0)) : fFX (cs.set i (some d')) := by
  refine ⟨by rw [f_set_ct h hk]; exact hF.1, fun e he => ?_⟩
  rw [fh_set h hd]
  show (if ((e.1 : Int) = (i : Int) ∧ ((e.2.1 : Nat) : Int) = (k0 : Int)) then z else fh cs e.1 e.2.1) = _
  rw [if_neg (fun q => hn e he ⟨Int.ofNat.inj q.1, Int.ofNat.inj q.2⟩)]
  exact hF.2 e he
-- rules
def f_fnd (ci k : Nat) : Option (Bool × Int × Nat) := (f_rl.find? (fun e => Nat.beq e.1 ci && Nat.beq e.2.1 k)).map (fun e => e.2.2)
def f_arr (t : Nat) : Option Int := (f_as.find? (fun e => Nat.beq e.1 t)).map (fun e => e.2)
def f_to (i : Nat) (e : Bool × Int × Nat) : Int := match e.1 with
  | true => e.2.1
  | false => (i : Int) + e.2.1
def f_tgB (τ : Nat) (z : Int) : Bool := match τ with
  | 0 => true
  | 1 => false
  | t + 2 => match z with
    | .ofNat i => match f_ct[i]? with
      | some (a, u, _) => Nat.beq a 1 && Nat.beq u t
      | none => false
    | .negSucc _ => false
def f_k1 : Bool := f_rl.all (fun e => (List.range 298).all (fun i => match f_ct[i]? with
  | some (a, ci, _) => !(Nat.beq a 2 && Nat.beq ci e.1) || (f_fx.any (fun x => Nat.beq x.1 i && (Nat.beq x.2.1 e.2.1 && decide (((x.2.2 : Nat) : Int) = f_to i e.2.2))) && f_tgB e.2.2.2.2 (f_to i e.2.2))
  | none => true))
def f_k2 : Bool := f_as.all (fun e => (List.range 298).all (fun i => match f_ct[i]? with
  | some (a, t, n) => !(Nat.beq a 1 && Nat.beq t e.1) || (List.range n).all (fun p => f_fx.any (fun x => Nat.beq x.1 i && (Nat.beq x.2.1 p && decide (((x.2.2 : Nat) : Int) = (i : Int) + 1 + e.2 * p))))
  | none => true))
def f_k3 : Bool := f_fx.all (fun x => match f_ct[x.1]? with
  | some (a, c, _) => (Nat.beq a 2 && (f_fnd c x.2.1).isSome) || (Nat.beq a 1 && (f_arr c).isSome)
  | none => false)
set_option maxRecDepth 1000000 in
theorem f_c1 : f_k1 = true := by decide +kernel
set_option maxRecDepth 1000000 in
theorem f_c2 : f_k2 = true := by decide +kernel
set_option maxRecDepth 1000000 in
theorem f_c3 : f_k3 = true := by decide +kernel
theorem f_cl : f_ct.length = 298 := by decide +kernel
theorem f_lt {i : Nat} {x : Nat × Nat × Nat} (h : f_ct[i]? = some x) : i ∈ List.range 298 := List.mem_range.mpr (by rw [← f_cl]; exact (List.getElem?_eq_some_iff.mp h).1)
theorem f_find {α β : Type} {l : List α} {p : α → Bool} {g : α → β} {y : β} (h : (l.find? p).map g = some y) : ∃ a ∈ l, p a = true ∧ g a = y := by
  rw [Option.map_eq_some_iff] at h
  obtain ⟨a, h1, h2⟩ := h
  exact ⟨a, List.mem_of_find?_eq_some h1, List.find?_some h1, h2⟩
theorem f_rule {cs : zz_W} {i ci k n : Nat} {e : Bool × Int × Nat} (hF : fFX cs) (h : f_fnd ci k = some e) (hi : f_ct[i]? = some (2, ci, n)) : fh cs i k = f_to i e ∧ f_tgB e.2.2 (f_to i e) = true := by
  obtain ⟨a, h1, h2, h3⟩ := f_find h
  have h4 := List.all_eq_true.mp (List.all_eq_true.mp f_c1 a h1) i (f_lt hi)
  rw [hi] at h4
  simp only [Bool.and_eq_true] at h2
  have e1 := Nat.eq_of_beq_eq_true h2.1
  have e2 := Nat.eq_of_beq_eq_true h2.2
  subst e1
  subst e2
  subst h3
  simp only [Nat.beq_refl, Bool.and_self, Bool.not_true, Bool.false_or, Bool.and_eq_true, List.any_eq_true, decide_eq_true_eq] at h4
  obtain ⟨⟨x, h5, h6, h7, h8⟩, h9⟩ := h4
  have e3 := Nat.eq_of_beq_eq_true h6
  have e4 := Nat.eq_of_beq_eq_true h7
  refine ⟨?_, h9⟩
  rw [← h8, ← hF.2 x h5, e3, e4]
theorem f_arule {cs : zz_W} {i t n p : Nat} {m : Int} (hF : fFX cs) (h : f_arr t = some m) (hi : f_ct[i]? = some (1, t, n)) (hp : p < n) : fh cs i p = (i : Int) + 1 + m * p := by
  obtain ⟨a, h1, h2, h3⟩ := f_find h
  have h4 := List.all_eq_true.mp (List.all_eq_true.mp f_c2 a h1) i (f_lt hi)
  rw [hi] at h4
  have e1 := Nat.eq_of_beq_eq_true h2
  subst e1
  subst h3
  simp only [Nat.beq_refl, Bool.and_self, Bool.not_true, Bool.false_or] at h4
  have h5 := List.all_eq_true.mp h4 p (List.mem_range.mpr hp)
  simp only [List.any_eq_true, Bool.and_eq_true, decide_eq_true_eq] at h5
  obtain ⟨x, h6, h7, h8, h9⟩ := h5
  rw [← h9, ← hF.2 x h6, Nat.eq_of_beq_eq_true h7, Nat.eq_of_beq_eq_true h8]
theorem f_nfx {i c k n : Nat} (h : f_fnd c k = none) (hi : f_ct[i]? = some (2, c, n)) : ∀ e ∈ f_fx, ¬ (e.1 = i ∧ e.2.1 = k) := fun e he q => by
  have h1 := List.all_eq_true.mp f_c3 e he
  rw [q.1, q.2, hi] at h1
  dsimp only at h1
  rw [h] at h1
  exact Bool.noConfusion (show false = true from h1)
theorem f_nfa {i c k n : Nat} (h : f_arr c = none) (hi : f_ct[i]? = some (1, c, n)) : ∀ e ∈ f_fx, ¬ (e.1 = i ∧ e.2.1 = k) := fun e he q => by
  have h1 := List.all_eq_true.mp f_c3 e he
  rw [q.1, hi] at h1
  dsimp only at h1
  rw [h] at h1
  exact Bool.noConfusion (show false = true from h1)
theorem f_nfi {i k n m : Nat} (hi : f_ct[i]? = some (0, n, m)) : ∀ e ∈ f_fx, ¬ (e.1 = i ∧ e.2.1 = k) := fun e he q => by
  have h1 := List.all_eq_true.mp f_c3 e he
  rw [q.1, hi] at h1
  exact Bool.noConfusion (show false = true from h1)
-- an update of a slot
theorem f_cl_i {xs : List Int32} {j : Nat} (hj : j < xs.length) (x : Int32) (k : Nat) : fcl (.inl (xs.set j x)) k = if k = j then x.toInt else fcl (.inl xs) k := by
  simp only [fcl, List.getElem?_set]
  by_cases hk : j = k
  · subst hk
    rw [if_pos rfl, if_pos hj, if_pos rfl]
  · rw [if_neg hk, if_neg (fun q => hk q.symm)]
theorem f_cl_q {t : Nat} {rs : List (Option Nat)} {j : Nat} (hj : j < rs.length) (o : Option Nat) (k : Nat) : fcl (.inr (.inl (t, rs.set j o))) k = if k = j then fo o else fcl (.inr (.inl (t, rs))) k := by
  simp only [fcl, List.getElem?_set]
  by_cases hk : j = k
  · subst hk
    rw [if_pos rfl, if_pos hj, if_pos rfl]
  · rw [if_neg hk, if_neg (fun q => hk q.symm)]
theorem f_cl_o {c : Nat} {fs : List Value} {j : Nat} (hj : j < fs.length) (v : Value) (k : Nat) : fcl (.inr (.inr (c, fs.set j v))) k = if k = j then fv v else fcl (.inr (.inr (c, fs))) k := by
  simp only [fcl, List.getElem?_set]
  by_cases hk : j = k
  · subst hk
    rw [if_pos rfl, if_pos hj, if_pos rfl]
  · rw [if_neg hk, if_neg (fun q => hk q.symm)]
theorem f_all_set {fs : List Value} {j : Nat} {v : Value} (ha : ∀ u ∈ fs, u.category = 1) (hv : v.category = 1) : (fs.set j v).all f1 = true ∧ fs.all f1 = true := by
  refine ⟨List.all_eq_true.mpr (fun u hu => f1_iff.mpr ?_), List.all_eq_true.mpr (fun u hu => f1_iff.mpr (ha u hu))⟩
  rcases List.mem_or_eq_of_mem_set hu with q | q
  · exact ha u q
  · rw [q]
    exact hv
theorem f_put {cs : zz_W} {i ci k : Nat} {fs : List Value} {v : Value} (hF : fFX cs) (h : zz_cell cs i = some (.inr (.inr (ci, fs)))) (hk : k < fs.length) (hr : f_fnd ci k = none) (hv : v.category = 1) : fFX (cs.set i (some (.inr (.inr (ci, fs.set k v))))) ∧ fh (cs.set i (some (.inr (.inr (ci, fs.set k v))))) = fu (fh cs) i k (fv v) := by
  obtain ⟨h1, h2⟩ := f_obj hF h
  obtain ⟨a1, a2⟩ := f_all_set (j := k) h2 hv
  exact ⟨fx_set hF h (by simp only [fct]; rw [a1, a2, List.length_set]) (f_cl_o hk v) (f_nfx hr h1), fh_set h (f_cl_o hk v)⟩
theorem f_sti {cs : zz_W} {i j : Nat} {xs : List Int32} {x : Int32} (hF : fFX cs) (h : zz_cell cs i = some (.inl xs)) (hj : j < xs.length) : fFX (cs.set i (some (.inl (xs.set j x)))) ∧ fh (cs.set i (some (.inl (xs.set j x)))) = fu (fh cs) i j x.toInt :=
  ⟨fx_set hF h (by simp only [fct]; rw [List.length_set]) (f_cl_i hj x) (f_nfi (f_kind hF h)), fh_set h (f_cl_i hj x)⟩
theorem f_sta {cs : zz_W} {i j t w : Nat} {rs : List (Option Nat)} (hF : fFX cs) (h : zz_cell cs i = some (.inr (.inl (t, rs)))) (hj : j < rs.length) (ht : f_arr t = none) : fFX (cs.set i (some (.inr (.inl (t, rs.set j (some w)))))) ∧ fh (cs.set i (some (.inr (.inl (t, rs.set j (some w)))))) = fu (fh cs) i j w :=
  ⟨fx_set hF h (by simp only [fct]; rw [List.length_set]) (f_cl_q hj (some w)) (f_nfa ht (f_kind hF h)), fh_set h (f_cl_q hj (some w))⟩
theorem f_cpy {cs : zz_W} {i j n : Nat} {xs ys : List Int32} (hF : fFX cs) (hi : zz_cell cs i = some (.inl xs)) (hj : zz_cell cs j = some (.inl ys)) (h1 : n ≤ xs.length) (h2 : n ≤ ys.length) : fFX (cs.set j (some (.inl (xs.take n ++ ys.drop n)))) ∧ fh (cs.set j (some (.inl (xs.take n ++ ys.drop n)))) = fcp (fh cs) i j n := by
  have hlen : (xs.take n ++ ys.drop n).length = ys.length := by
    rw [List.length_append, List.length_take, List.length_drop]
    omega
  have hcl : ∀ k : Nat, fcl (.inl (xs.take n ++ ys.drop n)) k = if k < n then fcl (.inl xs) k else fcl (.inl ys) k := fun k => by
    simp only [fcl]
    by_cases hk : k < n
    · rw [if_pos hk, List.getElem?_append_left (by rw [List.length_take]; omega), List.getElem?_take, if_pos hk]
    · rw [if_neg hk, List.getElem?_append_right (by rw [List.length_take]; omega), List.length_take, List.getElem?_drop]
      have e : n + (k - min n xs.length) = k := by omega
      rw [e]
  have hfh : fh (cs.set j (some (.inl (xs.take n ++ ys.drop n)))) = fcp (fh cs) i j n := by
    funext c k
    match c, k with
    | .ofNat c, .ofNat k =>
      show (match zz_cell (cs.set j (some (.inl (xs.take n ++ ys.drop n)))) c with | some d => fcl d k | none => 0) = if (Int.ofNat c = (j : Int) ∧ 0 ≤ Int.ofNat k ∧ Int.ofNat k < (n : Int)) then fh cs i (Int.ofNat k) else (match zz_cell cs c with | some d => fcl d k | none => 0)
      rw [t_cell_set hj]
      by_cases hc : j = c
      · subst hc
        rw [if_pos rfl, hj]
        dsimp only
        rw [hcl]
        by_cases hk : k < n
        · rw [if_pos hk, if_pos ⟨rfl, Int.natCast_nonneg k, Int.ofNat_lt.mpr hk⟩]
          exact (fh_at cs i k hi).symm
        · rw [if_neg hk, if_neg (fun q => hk (Int.ofNat_lt.mp q.2.2))]
      · rw [if_neg hc, if_neg (fun q => hc (Int.ofNat.inj q.1).symm)]
    | .ofNat c, .negSucc k =>
      show 0 = if (Int.ofNat c = (j : Int) ∧ 0 ≤ Int.negSucc k ∧ Int.negSucc k < (n : Int)) then fh cs i (Int.negSucc k) else 0
      rw [if_neg (fun q => absurd q.2.1 (by omega))]
    | .negSucc c, k =>
      show 0 = if (Int.negSucc c = (j : Int) ∧ 0 ≤ k ∧ k < (n : Int)) then fh cs i k else 0
      rw [if_neg (fun q => by cases q.1)]
  refine ⟨⟨by rw [f_set_ct hj (by simp only [fct]; rw [hlen])]; exact hF.1, fun e he => ?_⟩, hfh⟩
  rw [hfh]
  show (if ((e.1 : Int) = (j : Int) ∧ 0 ≤ ((e.2.1 : Nat) : Int) ∧ ((e.2.1 : Nat) : Int) < (n : Int)) then fh cs i e.2.1 else fh cs e.1 e.2.1) = _
  rw [if_neg (fun q => f_nfi (k := e.2.1) (f_kind hF hj) e he ⟨Int.ofNat.inj q.1, rfl⟩)]
  exact hF.2 e he
-- which methods a call may come to; instructions that leave what never changes
def f_alts : List Nat → List Nat
  | _ :: k :: _ :: r => k :: f_alts r
  | _ => []
def f_tg (r : List Nat) : List Nat := match r with
  | 8 :: _ :: _ :: _ :: alts => f_alts alts
  | _ :: k :: _ => [k]
  | _ => []
def f_ok (k : Nat) : Bool := !f_bad.contains k
def f_okI (e : zz_I) : Bool := match e.2.1 with
  | .new _ => false
  | .newarray _ => false
  | .anewarray _ => false
  | .multianewarray _ _ => false
  | .putfield _ => match e.2.2.2.1 with
    | [ci, k, _, tc] => (f_fnd ci k).isNone && !Nat.beq tc 3
    | _ => false
  | .aastore => match e.2.2.2.1 with
    | [t, _, _] => (f_arr t).isNone
    | _ => false
  | .invokestatic _ => match e.2.2.2.1 with
    | [_, _, _, _, _] => true
    | r => (f_tg r).all f_ok
  | .invokespecial _ => (f_tg e.2.2.2.1).all f_ok
  | .invokevirtual _ => (f_tg e.2.2.2.1).all f_ok
  | _ => true
def f_okM (mi : zz_Mi) : Bool := mi.2.2.2.2.2.2.2.2.all (fun ch => ch.all f_okI)
set_option maxRecDepth 1000000 in
theorem f_okA : (List.range 253).all (fun j => !f_ok j || match zz_mts[j]? with
  | some mi => f_okM mi
  | none => true) = true := by decide +kernel
theorem f_mtl : zz_mts.length = 253 := by decide +kernel
theorem f_okm {j : Nat} {mi : zz_Mi} (h : zz_mts[j]? = some mi) (ho : f_ok j = true) : f_okM mi = true := by
  have h1 := List.all_eq_true.mp f_okA j (List.mem_range.mpr (by rw [← f_mtl]; exact (List.getElem?_eq_some_iff.mp h).1))
  rw [h, ho] at h1
  exact h1
theorem f_oke {mi : zz_Mi} {pc : Nat} {e : zz_I} (ho : f_okM mi = true) (hf : zz_fetch mi.2.2.2.2.2.2.2.2 pc = some e) : f_okI e = true := by
  obtain ⟨⟨ch, h1, h2⟩, -⟩ := zz_fetch_ok hf
  exact List.all_eq_true.mp (List.all_eq_true.mp ho ch h1) e h2
