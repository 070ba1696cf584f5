/-! the law's start -/
theorem l_cell_of {cs : zz_W} {i : Nat} {c : zz_C} (h : cs[i]? = some (some c)) : zz_cell cs i = some c := by
  unfold zz_cell
  rw [h]
noncomputable def zz_leB : zz_W → zz_W → Bool
  | [], [] => true
  | none :: a, _ :: b => zz_leB a b
  | some c :: a, some d :: b => zz_eqC (some c) (some d) && zz_leB a b
  | _, _ => false
theorem zz_leB_ok : ∀ {a b : zz_W}, zz_leB a b = true → zz_le a b
  | [], [], _ => ⟨rfl, fun i c h => h⟩
  | [], _ :: _, h => by cases h
  | none :: a, [], h => by cases h
  | some c :: a, [], h => by cases h
  | none :: a, d :: b, h => by
    have h : zz_leB a b = true := h
    obtain ⟨h1, h2⟩ := zz_leB_ok h
    refine ⟨by rw [List.length_cons, List.length_cons, h1], fun i c hi => ?_⟩
    cases i with
    | zero => cases hi
    | succ i => exact h2 i c hi
  | some c :: a, none :: b, h => by cases h
  | some c :: a, some d :: b, h => by
    have h : (zz_eqC (some c) (some d) && zz_leB a b) = true := h
    have h := (Bool.and_eq_true _ _).mp h
    obtain ⟨h1, h2⟩ := zz_leB_ok h.2
    refine ⟨by rw [List.length_cons, List.length_cons, h1], fun i c' hi => ?_⟩
    cases i with
    | zero =>
      rw [← zz_eqC_ok h.1]
      exact hi
    | succ i => exact h2 i c' hi
noncomputable def lw_b : zz_W := zx_1 ++ [some (.inr (.inr (12, [.int 0, .null, .null, .null, .null, .null, .null, .null, .null, .int 0, .null, .null, .null, .null, .null, .int 0, .int 0, .null, .null, .int 0, .int 0, .int 0, .int 0, .null, .null, .null, .null, .null, .int 0, .int 0, .int 0, .null, .null, .null, .int 0, .null, .null, .null, .int 0, .null, .int 0])))]
set_option maxRecDepth 1000000 in
theorem lw_b1 : zz_leB zy_0 lw_b = true := by decide +kernel
/-- both objects when they are new -/
noncomputable def l_w0 : zz_W := zx_1 ++ zy_c
noncomputable def lw_r1 (b : zz_W) (w : Option zz_C) (y : Option zz_C) : List (Option zz_C) → Bool
  | none :: _ => zz_eqC (b[0]?.getD none) w
  | _ => match y with
    | some d => zz_eqC (some d) w
    | none => false
noncomputable def lw_r : zz_W → zz_W → zz_W → zz_W → Bool
  | w :: ws, y :: ys, z, b => lw_r1 b w y z && lw_r ws ys z.tail b.tail
  | [], [], _, _ => true
  | _, _, _, _ => false
theorem lw_r_ok : ∀ (w y z b : zz_W), lw_r w y z b = true → ∀ i, i < w.length → (match z[i]? with
  | some none => zz_eqC (b[i]?.getD none) (w[i]?.getD none)
  | _ => match y[i]? with
    | some (some d) => zz_eqC (some d) (w[i]?.getD none)
    | _ => false) = true
  | [], _, _, _, _, i, hi => absurd hi (Nat.not_lt_zero i)
  | w :: ws, [], _, _, h, _, _ => by cases h
  | w :: ws, y :: ys, z, b, h, 0, _ => by
    have h : (lw_r1 b w y z && lw_r ws ys z.tail b.tail) = true := h
    have h1 := ((Bool.and_eq_true _ _).mp h).1
    match z, h1 with
    | [], h1 =>
      match y, h1 with
      | some d, h1 => exact h1
      | none, h1 => cases h1
    | none :: _, h1 => exact h1
    | some q :: _, h1 =>
      match y, h1 with
      | some d, h1 => exact h1
      | none, h1 => cases h1
  | w :: ws, y :: ys, z, b, h, i + 1, hi => by
    have h : (lw_r1 b w y z && lw_r ws ys z.tail b.tail) = true := h
    have h1 := lw_r_ok ws ys z.tail b.tail ((Bool.and_eq_true _ _).mp h).2 i (Nat.lt_of_succ_lt_succ hi)
    rw [List.getElem?_tail, List.getElem?_tail] at h1
    exact h1
set_option maxRecDepth 1000000 in
theorem lw_rb : lw_r l_w0 zy_1 zy_0 lw_b = true := by decide +kernel
set_option maxRecDepth 1000000 in
theorem lw_len : zy_1.length = 298 ∧ l_w0.length = 298 ∧ lw_b.length = 272 ∧ zy_0.length = 272 := by decide +kernel
theorem lw_b2 : ∀ i, i < 298 → (match zy_0[i]? with
  | some none => zz_eqC (lw_b[i]?.getD none) (l_w0[i]?.getD none)
  | _ => match zy_1[i]? with
    | some (some d) => zz_eqC (some d) (l_w0[i]?.getD none)
    | _ => false) = true := fun i hi => lw_r_ok l_w0 zy_1 zy_0 lw_b lw_rb i (by rw [lw_len.2.1]; exact hi)
theorem lw_b3 {b' : zz_W} (hF : zz_F zy_0 lw_b zy_1 b') : b' = l_w0 := by
  obtain ⟨n1, n2, n3, n4⟩ := lw_len
  have hl : b'.length = 298 := by rw [← hF.1.1, n1]
  apply List.ext_getElem?
  intro i
  by_cases hi : i < 298
  · have h1 := lw_b2 i hi
    have e0 : l_w0[i]? = some (l_w0[i]?.getD none) := by rw [List.getElem?_eq_getElem (by rw [n2]; exact hi)]; rfl
    split at h1
    · rename_i hn
      have hi2 : i < 272 := by rw [← n4]; exact (List.getElem?_eq_some_iff.mp hn).1
      have e1 : lw_b[i]? = some (lw_b[i]?.getD none) := by rw [List.getElem?_eq_getElem (by rw [n3]; exact hi2)]; rfl
      rw [(hF.2 i hn).2, e1, e0, zz_eqC_ok h1]
    · split at h1
      · rename_i d hd
        rw [hF.1.2 i d hd, e0, ← zz_eqC_ok h1]
      · cases h1
  · rw [List.getElem?_eq_none (by omega), List.getElem?_eq_none (by omega)]
-- both objects when they are new are as their types say
noncomputable def l_slB (s : tS) (v : Value) : Bool := match s with
  | .inl (lo, hi) => match v with
    | .int x => t_and (t_le lo x.toInt) (t_le x.toInt hi)
    | _ => false
  | .inr (alts, nul) => match v with
    | .ref i => match zz_pth t_rl i with
      | some r => decide (r ∈ alts)
      | none => false
    | .null => nul
    | _ => false
noncomputable def l_flB : List tS → List Value → Bool
  | [], [] => true
  | s :: ss, v :: vs => match l_slB s v with
    | true => l_flB ss vs
    | false => false
  | _, _ => false
noncomputable def l_ceB (T : tC) (d : zz_C) : Bool := match T with
  | .inl (n, lo, hi) => match d with
    | .inl xs => decide (xs.length = n) && xs.all (fun x => t_and (t_le lo x.toInt) (t_le x.toInt hi))
    | _ => false
  | .inr (.inl (t, n, alts)) => match d with
    | .inr (.inl (u, rs)) => decide (u = t) && (decide (rs.length = n) && rs.all (fun o => match o with
      | some i => match zz_pth t_rl i with
        | some r => decide (r ∈ alts)
        | none => false
      | none => false))
    | _ => false
  | .inr (.inr (ci, fts)) => match d with
    | .inr (.inr (cj, fs)) => decide (cj = ci) && l_flB fts fs
    | _ => false
noncomputable def l_ty1 (r : Nat) (c : Option zz_C) : Bool := match t_ro[r]? with
  | some (_, _, _, T) => match c with
    | some d => l_ceB T d
    | none => false
  | none => true
noncomputable def l_tyR : List Nat → zz_W → Bool
  | r :: rs, c :: cs => l_ty1 r c && l_tyR rs cs
  | [], [] => true
  | _, _ => false
theorem l_slB_ok {s : tS} {v : Value} (h : l_slB s v = true) : t_slot s v := by
  unfold l_slB at h
  split at h
  · split at h
    · rename_i x
      simp only [t_and_iff, t_le_iff] at h
      exact ⟨x, rfl, h.1, h.2⟩
    · cases h
  · split at h
    · rename_i i
      split at h
      · rename_i r hr
        exact Or.inl ⟨i, r, rfl, (zz_pth_eq t_rl i).symm.trans hr, of_decide_eq_true h⟩
      · cases h
    · exact Or.inr ⟨h, rfl⟩
    · cases h
theorem l_flB_ok : ∀ {ss : List tS} {vs : List Value}, l_flB ss vs = true → vs.length = ss.length ∧ ∀ (k : Nat) (s : tS), ss[k]? = some s → ∃ v : Value, vs[k]? = some v ∧ t_slot s v
  | [], [], _ => ⟨rfl, fun k s h => by simp at h⟩
  | [], _ :: _, h => by cases h
  | _ :: _, [], h => by cases h
  | s :: ss, v :: vs, h => by
    unfold l_flB at h
    obtain ⟨h1, h2⟩ := t_bool h
    obtain ⟨i1, i2⟩ := l_flB_ok h2
    refine ⟨by rw [List.length_cons, List.length_cons, i1], fun k s' hk => ?_⟩
    cases k with
    | zero =>
      cases hk
      exact ⟨v, rfl, l_slB_ok h1⟩
    | succ k => exact i2 k s' hk
theorem l_ceB_ok {T : tC} {d : zz_C} (h : l_ceB T d = true) : t_cel T d := by
  unfold l_ceB at h
  split at h
  · split at h
    · rename_i xs
      rw [Bool.and_eq_true, decide_eq_true_eq] at h
      refine ⟨h.1, fun x hx => ?_⟩
      have h1 := List.all_eq_true.mp h.2 x hx
      simp only [t_and_iff, t_le_iff] at h1
      exact h1
    · cases h
  · split at h
    · rename_i u rs
      rw [Bool.and_eq_true, decide_eq_true_eq, Bool.and_eq_true, decide_eq_true_eq] at h
      refine ⟨h.1, h.2.1, fun o ho => ?_⟩
      have h1 := List.all_eq_true.mp h.2.2 o ho
      split at h1
      · rename_i i
        split at h1
        · rename_i r hr
          exact ⟨i, r, rfl, (zz_pth_eq t_rl i).symm.trans hr, of_decide_eq_true h1⟩
        · cases h1
      · cases h1
    · cases h
  · split at h
    · rename_i cj fs
      rw [Bool.and_eq_true, decide_eq_true_eq] at h
      obtain ⟨i1, i2⟩ := l_flB_ok h.2
      exact ⟨h.1, i1, i2⟩
    · cases h
set_option maxRecDepth 1000000 in
theorem l_ty0 : l_tyR t_rl l_w0 = true := by decide +kernel
theorem l_tyR_ok : ∀ (rs : List Nat) (cs : zz_W), l_tyR rs cs = true → ∀ (i r c : Nat) (o : Bool) (b : Nat) (T : tC), rs[i]? = some r → t_ro[r]? = some (c, o, b, T) → ∃ d : zz_C, cs[i]? = some (some d) ∧ t_cel T d
  | [], _, _, i, r, _, _, _, _, h, _ => by simp at h
  | _ :: _, [], h, _, _, _, _, _, _, _, _ => by cases h
  | r0 :: rs, c0 :: cs, h, i, r, c, o, b, T, h1, h2 => by
    have h : (l_ty1 r0 c0 && l_tyR rs cs) = true := h
    have h := (Bool.and_eq_true _ _).mp h
    cases i with
    | zero =>
      have h1 : r0 = r := Option.some.inj h1
      subst h1
      have h3 := h.1
      clear h
      unfold l_ty1 at h3
      rw [h2] at h3
      match c0, h3 with
      | some d, h3 =>
        have h3 : l_ceB T d = true := h3
        exact ⟨d, rfl, l_ceB_ok h3⟩
      | none, h3 =>
        have h3 : false = true := h3
        cases h3
    | succ i => exact l_tyR_ok rs cs h.2 i r c o b T h1 h2
theorem l_w0_ty : t_ty l_w0 := by
  refine ⟨by rw [lw_len.2.1, t_rl_len], rfl, fun i r c o b T h1 h2 => ?_⟩
  obtain ⟨d, hd, hc⟩ := l_tyR_ok t_rl l_w0 l_ty0 i r c o b T h1 h2
  exact ⟨d, l_cell_of hd, hc⟩
noncomputable def l_i0 (cs : zz_W) (key : Nat) : Bool := match t_sv cs (key / 1024) (key % 1024) with
  | some (.int x) => decide (x = 0)
  | _ => false
theorem l_i0_ok {cs : zz_W} {key : Nat} (hs : t_sg key = true) (h : l_i0 cs key = true) : t_inP cs [(key, 0, 0)] := fun p hp => by
  have hp : p = (key, 0, 0) := by simpa using hp
  subst hp
  unfold l_i0 at h
  split at h
  · rename_i x hx
    have h := of_decide_eq_true h
    subst h
    exact ⟨t_sg_ok hs, 0, hx, Int.le_refl _, Int.le_refl _⟩
  · cases h
set_option maxRecDepth 1000000 in
theorem l_w0_F : fFX l_w0 := by
  refine ⟨by decide +kernel, ?_⟩
  have h1 : f_fx.all (fun e => decide (fh l_w0 e.1 e.2.1 = e.2.2)) = true := by decide +kernel
  exact fun e he => of_decide_eq_true (List.all_eq_true.mp h1 e he)
noncomputable def l_g0 : gV := fun i => if i = 73 then 2 else if i = 75 then 3 else if i = 77 then 4 else if i = 79 then 5 else if i = 81 then 6 else 0
theorem l_g0_W : WF l_g0 := by
  have z0 : l_g0 0 = 0 := rfl
  have z2 : l_g0 2 = 0 := rfl
  refine ⟨by decide, fun p j1 j2 => by omega, fun p e j1 j2 => by omega, fun e j1 j2 => ?_, fun w j1 j2 => by omega, fun w w' j1 j2 j3 => by omega⟩
  have hj : e = 0 ∨ e = 1 ∨ e = 2 ∨ e = 3 ∨ e = 4 := by omega
  rcases hj with rfl | rfl | rfl | rfl | rfl <;> decide
noncomputable def l_G0 : gS := (l_g0, (0, l_g0), (0, fun _ => l_g0), (0, l_g0), (0, l_g0))
theorem l_G0_W : GW l_G0 := ⟨⟨l_g0_W, by decide⟩, ⟨Or.inl rfl, fun q => absurd q (by decide)⟩, ⟨by decide, by decide, fun t j1 j2 => by have j2 : t < 0 := j2; omega⟩, ⟨by decide, by decide, fun t j1 j2 => by have j2 : t < 0 := j2; omega⟩, ⟨by decide, by decide, fun t j1 j2 => by have j2 : t < 0 := j2; omega⟩⟩
noncomputable def l_kv : List (Nat × Nat × Int) := [(11, 1, 0), (11, 15, 0), (11, 14, 0), (28, 0, 2), (28, 1, 3), (28, 2, 4), (28, 3, 5), (28, 4, 6), (29, 0, 0), (29, 1, 0), (29, 2, 0), (29, 3, 0), (29, 4, 0), (1, 3, 0), (80, 2, 0), (80, 1, 0), (266, 1, 0), (1, 8, 0), (271, 28, 0), (271, 34, 0), (271, 19, 0), (271, 38, 0)]
set_option maxRecDepth 1000000 in
theorem l_kv_ok : l_kv.all (fun e => decide (fh l_w0 e.1 e.2.1 = e.2.2)) = true := by decide +kernel
theorem l_at {c k : Nat} {z : Int} (hm : (c, k, z) ∈ l_kv) : fh l_w0 c k = z := of_decide_eq_true (List.all_eq_true.mp l_kv_ok _ hm)
noncomputable def l_tws : List Nat := [11, 34, 57, 82, 105, 128, 151, 174, 197, 220, 243]
set_option maxRecDepth 1000000 in
theorem l_tw_ok : l_tws.all (fun b => (List.range 3).all (fun w => decide (fh l_w0 ((b + 19 : Nat) : Int) (w : Int) = ((b + 20 + w : Nat) : Int)))) = true := by decide +kernel
theorem l_tw_at {b w : Int} (hb : tw b) (h1 : 0 ≤ w) (h2 : w < 3) : fh l_w0 (b + 19) w = b + 20 + w := by
  obtain ⟨b', rfl, hm⟩ : ∃ b' : Nat, b = (b' : Int) ∧ b' ∈ l_tws := by
    rcases hb with rfl | rfl | rfl | rfl | rfl | rfl | rfl | rfl | rfl | rfl | rfl
    · exact ⟨11, rfl, by decide⟩
    · exact ⟨34, rfl, by decide⟩
    · exact ⟨57, rfl, by decide⟩
    · exact ⟨82, rfl, by decide⟩
    · exact ⟨105, rfl, by decide⟩
    · exact ⟨128, rfl, by decide⟩
    · exact ⟨151, rfl, by decide⟩
    · exact ⟨174, rfl, by decide⟩
    · exact ⟨197, rfl, by decide⟩
    · exact ⟨220, rfl, by decide⟩
    · exact ⟨243, rfl, by decide⟩
  obtain ⟨w', rfl⟩ : ∃ w' : Nat, w = (w' : Int) := ⟨w.toNat, by omega⟩
  have h3 := of_decide_eq_true (List.all_eq_true.mp (List.all_eq_true.mp l_tw_ok b' hm) w' (List.mem_range.mpr (by omega)))
  rw [show ((b' : Nat) : Int) + 19 = ((b' + 19 : Nat) : Int) by omega, h3]
  omega
theorem l_w0_CW : CW (fh l_w0) := fun b hb => ⟨fun w h1 h2 => by rw [l_tw_at hb h1 h2]; omega, fun w w' h1 h2 h3 => by rw [l_tw_at hb h1 (by omega), l_tw_at hb (by omega) h3]; omega⟩
theorem l_w0_R : RC (fh l_w0) 11 l_g0 := by
  refine ⟨⟨l_at (c := 11) (k := 1) (z := 0) (by decide), l_at (c := 11) (k := 15) (z := 0) (by decide), l_at (c := 11) (k := 14) (z := 0) (by decide)⟩, fun p j1 j2 => ?_, fun p e j1 j2 => ?_, fun e j1 j2 => ?_, fun w j j1 j2 => ?_, l_w0_CW 11 (Or.inl rfl)⟩
  · have z0 : l_g0 0 = 0 := rfl
    omega
  · have z0 : l_g0 0 = 0 := rfl
    omega
  · have hj : e = 0 ∨ e = 1 ∨ e = 2 ∨ e = 3 ∨ e = 4 := by omega
    rcases hj with rfl | rfl | rfl | rfl | rfl
    · exact ⟨l_at (c := 28) (k := 0) (z := 2) (by decide), l_at (c := 29) (k := 0) (z := 0) (by decide)⟩
    · exact ⟨l_at (c := 28) (k := 1) (z := 3) (by decide), l_at (c := 29) (k := 1) (z := 0) (by decide)⟩
    · exact ⟨l_at (c := 28) (k := 2) (z := 4) (by decide), l_at (c := 29) (k := 2) (z := 0) (by decide)⟩
    · exact ⟨l_at (c := 28) (k := 3) (z := 5) (by decide), l_at (c := 29) (k := 3) (z := 0) (by decide)⟩
    · exact ⟨l_at (c := 28) (k := 4) (z := 6) (by decide), l_at (c := 29) (k := 4) (z := 0) (by decide)⟩
  · have z2 : l_g0 2 = 0 := rfl
    omega
set_option maxRecDepth 1000000 in
theorem l_rm_ok : (List.range 113).all (fun i => decide (fh l_w0 (mc (i : Int)) (ms (i : Int)) = l_g0 (i : Int))) = true := by decide +kernel
theorem l_w0_M : RM (fh l_w0) l_g0 := fun i h1 h2 => by
  obtain ⟨i', rfl⟩ : ∃ i' : Nat, i = (i' : Int) := ⟨i.toNat, by omega⟩
  exact of_decide_eq_true (List.all_eq_true.mp l_rm_ok i' (List.mem_range.mpr (by omega)))
theorem l_w0_S : SJ (fh l_w0) := ⟨l_G0, l_G0_W, ⟨l_w0_R, ⟨l_at (c := 1) (k := 3) (z := 0) (by decide), fun q => absurd (show (0 : Int) = 1 from q) (by decide)⟩, CP_zero (l_at (c := 80) (k := 2) (z := 0) (by decide)) (by rw [show fh l_w0 80 1 = 0 from l_at (c := 80) (k := 1) (z := 0) (by decide)]; decide), ⟨l_at (c := 266) (k := 1) (z := 0) (by decide), fun i j1 j2 => by have j2 : i < 0 := j2; omega⟩, ⟨l_at (c := 1) (k := 8) (z := 0) (by decide), fun i j1 j2 => by have j2 : i < 0 := j2; omega⟩, l_w0_CW⟩, ⟨l_w0_M, ⟨l_at (c := 271) (k := 28) (z := 0) (by decide), fun q => absurd (show (0 : Int) = 1 from q) (by decide)⟩, MP_zero (l_at (c := 271) (k := 34) (z := 0) (by decide)), ⟨l_at (c := 271) (k := 19) (z := 0) (by decide), fun i j1 j2 => by have j2 : i < 0 := j2; omega⟩, ⟨l_at (c := 271) (k := 38) (z := 0) (by decide), fun i j1 j2 => by have j2 : i < 0 := j2; omega⟩⟩⟩
theorem l_w0_J : l_JJ l_w0 := by
  refine ⟨⟨0, Int.le_refl _, by decide, ⟨0, 0, Nat.zero_le _, Or.inl rfl, l_w0_ty, l_two (l_i0_ok (by decide +kernel) (by decide +kernel)) (l_i0_ok (by decide +kernel) (by decide +kernel)), fun p hp => ?_, Or.inl rfl⟩, l_i0_ok (by decide +kernel) (by decide +kernel), l_i0_ok (by decide +kernel) (by decide +kernel)⟩, l_w0_F, l_w0_S⟩
  cases hp
noncomputable def lw_q (o : Option zz_S) (t : zz_S) : Bool := match o with
  | some (pc, L, st, cs, cu, su) => match t with
    | (pc', L', st', cs', cu', su') => decide (pc = pc') && (decide (L = L') && (decide (st = st') && (zz_eqW cs cs' && (decide (cu = cu') && decide (su = su')))))
  | none => false
theorem lw_q_ok {o : Option zz_S} {t : zz_S} (h : lw_q o t = true) : o = some t := by
  unfold lw_q at h
  split at h
  · obtain ⟨pc', L', st', cs', cu', su'⟩ := t
    simp only [Bool.and_eq_true, decide_eq_true_eq] at h
    obtain ⟨rfl, rfl, rfl, h4, rfl, rfl⟩ := h
    rw [zz_eqW_ok h4]
  · cases h
set_option maxRecDepth 1000000 in
theorem lw_s1 : zz_rn 2 zz_law 0 ([some (.ref 0), none, none, none], [], [none], 0, 0) = some (4, [some (.ref 0), none, none, none], [.ref 1, .ref 1], zx_0, 1, 10) := lw_q_ok (by decide +kernel)
set_option maxRecDepth 1000000 in
theorem lw_s2 : zz_rn 3 zz_law 7 ([some (.ref 0), none, none, none], [.ref 1], zx_1, 270, 1844) = some (12, [some (.ref 0), some (.ref 1), none, none], [.ref 271, .ref 271], lw_b, 271, 1885) := lw_q_ok (by decide +kernel)
set_option maxRecDepth 1000000 in
theorem lw_f4 : zz_fetch zz_law.2.2.2.2.2.2.2.2 4 = some (4, .invokespecial 9, 3, [5, 0, 91], .null) := by decide +kernel
set_option maxRecDepth 1000000 in
theorem lw_f12 : zz_fetch zz_law.2.2.2.2.2.2.2.2 12 = some (12, .invokespecial 12, 3, [5, 149, 916], .null) := by decide +kernel
set_option maxRecDepth 1000000 in
theorem lw_rc1 : (zz_rc 0 [.ref 1, .ref 1] zx_0).isSome = true := by decide +kernel
set_option maxRecDepth 1000000 in
theorem lw_rc2 : (zz_rc 0 [.ref 271, .ref 271] lw_b).isSome = true := by decide +kernel
set_option maxRecDepth 1000000 in
theorem whole_start {p : Program} (l : Launch) (_ : l.flags = flags0) {e : Env} {s : State} {m : MethodId} {below : List Frame} {meth : Method} {c : Code} {b L : Nat} {xs : Nat → Int32} (hL : L ≤ 3072) (C0 : lw_At p s m meth c b L xs) : W p l e room_1 s m #[Value.ref b] below meth c s.heap [] 0 0 (lw_Z below #[Value.ref b] s) (entryFrame m ([Value.ref b] : List Value).toArray 4) := by
  obtain ⟨g, X, hgb, hsz, hbg⟩ := zz_law0 C0
  obtain ⟨-, -, hr, -, -, -, hX, -, hlk, -⟩ := C0
  have K : zz_LZ g p l e s m below meth c b 0 [some (.ref 0), none, none, none] [] [none] 0 0 := by
    refine zz_runs X 2 (by show 0 ≤ 600000 ∧ 0 ≤ 7302250; omega) lw_s1 (fun _ => ?_)
    refine zz_call X lw_f4 (mk := zm_0) ?_ (by decide) (by decide) (by decide) (by decide) (P := fun w x => w = none ∧ x = zx_1) (zz_Gm_ev 2132 (List.mem_of_getElem? (i := 0) rfl) (by decide) zx_new l g) ?_
    · obtain ⟨q, hq⟩ := Option.isSome_iff_exists.mp lw_rc1
      show (match zz_rc 0 [.ref 1, .ref 1] zx_0 with | some _ => some zm_0 | none => none) = _
      rw [hq]
    rintro v cs1 ⟨rfl, rfl⟩
    refine zz_runs X 3 (by show 270 ≤ 600000 ∧ 1844 ≤ 7302250; omega) lw_s2 (fun _ => ?_)
    refine zz_call X lw_f12 (mk := zm_149) ?_ (by decide) (by decide) (by decide) (by decide) (P := fun v b' => ∃ a', (v = none ∧ a' = zy_1) ∧ zz_F zy_0 lw_b a' b') (((zz_Gm_ev 180 (List.mem_of_getElem? (i := 149) rfl) (by decide) zy_new).le (zz_leB_ok lw_b1)) l g) ?_
    · obtain ⟨q, hq⟩ := Option.isSome_iff_exists.mp lw_rc2
      show (match zz_rc 0 [.ref 271, .ref 271] lw_b with | some _ => some zm_149 | none => none) = _
      rw [hq]
    rintro v b' ⟨a', ⟨rfl, rfl⟩, hF⟩
    have hB : 297 ≤ 600000 ∧ 4735 ≤ 7302250 := by omega
    show zz_LZ g p l e s m below meth c b 15 [some (.ref 0), some (.ref 1), none, none] [.ref 271] b' 297 4735
    refine lw_st X hB (ins := .astore_n 2) (by decide +kernel) rfl ?_
    refine lw_st X hB (ins := .iconst 0) (by decide +kernel) rfl ?_
    refine lw_st X hB (ins := .istore_n 3) (pc' := 18) (L' := lw_L 0) (st' := []) (by decide +kernel) rfl ?_
    have h0 : (0 : Int32).toInt = 0 := rfl
    exact lw_loop X hX hL ⟨hgb, hbg⟩ hr hlk hsz hB (L + 1) 0 b' (by omega) (by omega) (by omega) (by rw [lw_b3 hF]; exact l_w0_J)
  have hl := lv_entry [Value.ref b] (n := 4) (show 1 ≤ 4 by omega)
  rw [lg_entry_eq]
  refine K rfl s.heap [] _ ⟨⟨hsz, fun i c hi => ?_⟩, Nat.le_refl _, fun _ _ => rfl, fun q h => (by cases h), fun i hi => ⟨hi, rfl⟩⟩ ⟨hl.1, hl.2.1, fun q hq => hl.2.2 q ?_⟩
  · match i, hi with
    | 0, hi => cases hi
    | i + 1, hi => cases hi
  · obtain ⟨v, hv, he⟩ := zz_as_of hq
    obtain ⟨qi, qv⟩ := q
    have h0 : qi = 0 ∧ v = .ref 0 := by
      match qi, hv with
      | 0, hv => cases hv; exact ⟨rfl, rfl⟩
      | 1, hv => cases hv
      | 2, hv => cases hv
      | 3, hv => cases hv
      | n + 4, hv => cases hv
    obtain ⟨rfl, rfl⟩ := h0
    have h2 : qv = .ref b := by
      rw [show qv = zz_tr g (.ref 0) from he]
      show Value.ref (zz_ad g 0) = _
      unfold zz_ad
      rw [if_pos rfl, hgb]
    rw [h2]
    exact List.mem_cons_self
