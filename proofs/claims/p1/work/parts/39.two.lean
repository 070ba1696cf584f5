/-! the two new objects: their cells for the abstract machine; one call of each -/
def zs_qv (v : zv) (u : Value) : Bool := match v with
  | .inl x => match u with
    | .int y => decide (Int32.ofInt x = y)
    | _ => false
  | .inr (.inr (.inl (some a))) => zs_eqv a u
  | _ => false
noncomputable def zs_qS (s : List zv) : List Value → Bool := List.rec (motive := fun _ => List Value → Bool) (fun t => match t with | [] => true | _ :: _ => false) (fun v _ ih t => match t with
  | x :: t' => match zs_qv v x with
    | true => ih t'
    | false => false
  | [] => false) s
noncomputable def zs_qI (s : List zv) : List Int32 → Bool := List.rec (motive := fun _ => List Int32 → Bool) (fun t => match t with | [] => true | _ :: _ => false) (fun v _ ih t => match t with
  | x :: t' => match zs_qv v (.int x) with
    | true => ih t'
    | false => false
  | [] => false) s
noncomputable def zs_qC (c : zs_C) (d : zz_C) : Bool := match c with
  | .inl s => match d with
    | .inl t => zs_qI s t
    | _ => false
  | .inr (.inl (n, s)) => match d with
    | .inr (.inl (m, t)) => decide (n = m) && decide (s = t)
    | _ => false
  | .inr (.inr (n, s)) => match d with
    | .inr (.inr (m, t)) => decide (n = m) && zs_qS s t
    | _ => false
noncomputable def zs_qW (w : zs_W) (cs : zz_W) : Bool := (List.range 320).all (fun i => match zs_get w i with
  | none => true
  | some c => match zz_cell cs i with
    | some d => zs_qC c d
    | none => false)
section ZS6
variable {ρ : Nat → Int}
theorem zs_qv_ok {v : zv} {u : Value} (h : zs_qv v u = true) : zs_g ρ v u := by
  unfold zs_qv at h
  split at h
  · split at h
    · exact congrArg Value.int (of_decide_eq_true h).symm
    · cases h
  · exact (zs_eqv_ok h).symm
  · cases h
theorem zs_qS_ok : ∀ {s : List zv} {t : List Value}, zs_qS s t = true → zs_rS ρ s t
  | [], [], _ => trivial
  | v :: s, x :: t, h => by
    replace h : (match zs_qv v x with | true => zs_qS s t | false => false) = true := h
    obtain ⟨h1, h2⟩ := zs_bool h
    exact ⟨zs_qv_ok h1, zs_qS_ok h2⟩
  | [], _ :: _, h => by
    replace h : false = true := h
    cases h
  | _ :: _, [], h => by
    replace h : false = true := h
    cases h
theorem zs_qI_ok : ∀ {s : List zv} {t : List Int32}, zs_qI s t = true → zs_rS ρ s (t.map Value.int)
  | [], [], _ => trivial
  | v :: s, x :: t, h => by
    replace h : (match zs_qv v (.int x) with | true => zs_qI s t | false => false) = true := h
    obtain ⟨h1, h2⟩ := zs_bool h
    exact ⟨zs_qv_ok h1, zs_qI_ok h2⟩
  | [], _ :: _, h => by
    replace h : false = true := h
    cases h
  | _ :: _, [], h => by
    replace h : false = true := h
    cases h
theorem zs_qC_ok {c : zs_C} {d : zz_C} (h : zs_qC c d = true) : zs_gc ρ c d := by
  unfold zs_qC at h
  split at h
  · split at h
    · exact zs_qI_ok h
    · cases h
  · split at h
    · simp only [Bool.and_eq_true, decide_eq_true_eq] at h
      show (_, _) = (_, _)
      rw [h.1, h.2]
    · cases h
  · split at h
    · simp only [Bool.and_eq_true, decide_eq_true_eq] at h
      exact ⟨h.1, zs_qS_ok h.2⟩
    · cases h
theorem zs_qW_ok {N : Nat} {w : zs_W} {cs : zz_W} (h : zs_qW w cs = true) (hl : cs.length = N) : zs_rW ρ N w cs := by
  refine ⟨hl, fun i c hc => ?_⟩
  have h1 := List.all_eq_true.mp h i (List.mem_range.mpr (zs_get_eq _ _ hc).1)
  rw [hc] at h1
  dsimp only at h1
  split at h1
  · rename_i d hd
    exact ⟨d, zz_cell_eq hd, zs_qC_ok h1⟩
  · cases h1
end ZS6
def zx_c : zz_W := zx_1 ++ List.replicate 27 none
set_option maxRecDepth 1000000 in
theorem zs_wc1 : zs_qW zs_wc zx_c = true := by decide +kernel
set_option maxRecDepth 1000000 in
theorem zs_wm1 : zs_qW zs_wm zy_1 = true := by decide +kernel
set_option maxRecDepth 1000000 in
theorem zs_wc2 : zx_c.length = 298 := by decide +kernel
set_option maxRecDepth 1000000 in
theorem zs_wm2 : zy_1.length = 298 := by decide +kernel
def zs_r0 : zs_R := [(.negSucc 2147483647, .ofNat 2147483647), (.negSucc 2147483647, .ofNat 2147483647), (.negSucc 2147483647, .ofNat 2147483647), (.negSucc 2147483647, .ofNat 2147483647), (.negSucc 2147483647, .ofNat 2147483647), (.negSucc 2147483647, .ofNat 2147483647)]
noncomputable def zs_two (Ka : zv → zs_K) (n : Nat) (mc mm : zz_Mi) (xs : List zv) (rs : zs_R) (a : zv) : Bool := match zs_ev zs_og n mc 0 (zs_ent (.inr (.inr (.inl (some (.ref 1)))) :: xs) mc.2.2.1) [] zs_wc rs (Ka a) with
  | true => zs_ev zs_og n mm 0 (zs_ent (.inr (.inr (.inl (some (.ref 271)))) :: xs) mm.2.2.1) [] zs_wm rs (Ka a)
  | false => false
theorem zs_pair {Ka : zv → zs_K} {V : (Nat → Int) → zv → Value} (HK : ∀ a rs v w ρ u, Ka a rs v w = true → zs_ok ρ rs → zs_go ρ v u → u = some (V ρ a)) {n jc jm : Nat} {mc mm : zz_Mi} (hc : zz_mts[jc]? = some mc) (hm : zz_mts[jm]? = some mm) {xs : List zv} (hlc : zs_css xs + 1 ≤ mc.2.2.1) (hlm : zs_css xs + 1 ≤ mm.2.2.1) {l : List (Nat × Int × Bool × zv)} {fin : zv} (h : zs_ch l fin zs_r0 (zs_two Ka n mc mm xs) = true) {ρ : Nat → Int} (hr : zs_ok ρ zs_r0) {us : List Value} (ha : zs_rS ρ xs us) : ∃ v, zz_Gm mc (.ref 1 :: us) zx_c (fun u cs' => u = some v ∧ cs'.length = 298) ∧ zz_Gm mm (.ref 271 :: us) zy_1 (fun u cs' => u = some v ∧ cs'.length = 298) := by
  obtain ⟨rs, a, h1, h2⟩ := zs_ch_ok h hr
  unfold zs_two at h1
  obtain ⟨h1, h3⟩ := zs_bool h1
  exact ⟨V ρ a, zs_con zs_og_ok hc h1 (show Nat.succ (zs_css xs) ≤ _ from hlc) h2 (zs_rS_mk rfl ha) (zs_qW_ok zs_wc1 zs_wc2) (fun rs' v w' u cs' q1 q2 q3 q4 => ⟨HK a rs' v w' ρ u q1 q2 q3, q4.1⟩), zs_con zs_og_ok hm h3 (show Nat.succ (zs_css xs) ≤ _ from hlm) h2 (zs_rS_mk rfl ha) (zs_qW_ok zs_wm1 zs_wm2) (fun rs' v w' u cs' q1 q2 q3 q4 => ⟨HK a rs' v w' ρ u q1 q2 q3, q4.1⟩)⟩
theorem zs_ka_ok : ∀ a rs v w ρ u, zs_ka a rs v w = true → zs_ok ρ rs → zs_go ρ v u → u = some (zs_val ρ a) := by
  intro a rs v w ρ u h hr hu
  unfold zs_ka at h
  split at h
  · match u, hu with
    | some u, hu => rw [zs_same_ok h hr hu]
  · cases h
/-- how often an event comes in n days of a new town -/
def zs_v17 (ρ : Nat → Int) (a : zv) : Value := match a with
  | .inr (.inr (.inl none)) => .int (Int32.ofInt (Int.ofNat (Nat.div (ρ 2).toNat (Nat.add (ρ 1).toNat 2))))
  | a => zs_val ρ a
noncomputable def zs_k17 (a : zv) : zs_K := fun rs v w => match a with
  | .inr (.inr (.inl none)) => match zs_nth rs 1 with
    | some p => match zs_nth rs 2 with
      | some q => match zs_le p.2 p.1 with
        | true => match zs_le q.2 q.1 with
          | true => match v with
            | some v => zs_same rs v (.inl (.ofNat (Nat.div q.1.toNat (Nat.add p.1.toNat 2))))
            | none => false
          | false => false
        | false => false
      | none => false
    | none => false
  | a => zs_ka a rs v w
theorem zs_k17_ok : ∀ a rs v w ρ u, zs_k17 a rs v w = true → zs_ok ρ rs → zs_go ρ v u → u = some (zs_v17 ρ a) := by
  intro a rs v w ρ u h hr hu
  unfold zs_k17 at h
  split at h
  · rw [zs_nth_eq, zs_nth_eq] at h
    split at h
    · rename_i p hp
      split at h
      · rename_i q hq
        obtain ⟨e1, h⟩ := zs_bool h
        obtain ⟨e2, h⟩ := zs_bool h
        rw [zs_le_iff] at e1 e2
        split at h
        · match u, hu with
          | some u, hu =>
            rw [zs_same_ok h hr hu]
            have r1 := hr 1 p.1 p.2 hp
            have r2 := hr 2 q.1 q.2 hq
            show some (Value.int _) = some (Value.int _)
            rw [show ρ 1 = p.1 by omega, show ρ 2 = q.1 by omega]
        · cases h
      · cases h
    · cases h
  · rename_i b hn
    have : zs_v17 ρ a = zs_val ρ a := by
      unfold zs_v17
      split
      · exact (hn rfl).elim
      · rfl
    rw [this]
    exact zs_ka_ok a rs v w ρ u h hr hu
