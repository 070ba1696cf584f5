/-! the abstract machine: contracts over some cells as oracles; the cells of the new objects; chains of cuts -/
def zs_eqv (a b : Value) : Bool := match a with
  | .ref i => match b with
    | .ref j => Nat.beq i j
    | _ => false
  | .null => match b with
    | .null => true
    | _ => false
  | _ => false
def zs_leV (v t : zv) : Bool := match t with
  | .inl x => match v with
    | .inl y => zs_eq x y
    | _ => false
  | .inr (.inr (.inl none)) => zs_isI v
  | .inr (.inr (.inl (some a))) => match v with
    | .inr (.inr (.inl (some b))) => zs_eqv a b
    | _ => false
  | _ => false
noncomputable def zs_leS (s : List zv) : List zv → Bool := List.rec (motive := fun _ => List zv → Bool) (fun t => match t with | [] => true | _ :: _ => false) (fun v _ ih t => match t with
  | x :: t' => match zs_leV v x with
    | true => ih t'
    | false => false
  | [] => false) s
noncomputable def zs_leC (c t : zs_C) : Bool := match c with
  | .inl s => match t with
    | .inl s' => zs_leS s s'
    | _ => false
  | .inr (.inr (n, s)) => match t with
    | .inr (.inr (m, s')) => match Nat.beq n m with
      | true => zs_leS s s'
      | false => false
    | _ => false
  | _ => false
noncomputable def zs_leO (o p : Option zs_C) : Bool := match o with
  | some c => match p with
    | some t => zs_leC c t
    | none => false
  | none => false
noncomputable def zs_inT (w wT : zs_W) (ix : List Nat) : Bool := List.rec (motive := fun _ => Bool) true (fun i _ ih => match zs_leO (zs_get w i) (zs_get wT i) with | true => ih | false => false) ix
noncomputable def zs_wr (w : zs_W) (i : Nat) (o : Option zs_C) : zs_W := match o with
  | some c => match zs_nth w (zs_hi i) with
    | some ch => zs_upd w (zs_hi i) (zs_upd ch (zs_lo i) (some c) (fun x => x)) (fun x => x)
    | none => w
  | none => w
noncomputable def zs_wrs (w wU : zs_W) (ix : List Nat) : zs_W := List.rec (motive := fun _ => zs_W → zs_W) (fun w => w) (fun i _ ih w => ih (zs_wr w i (zs_get wU i))) ix w
noncomputable def zs_tpl (ix : List Nat) (wT wU w : zs_W) : Option (Option zv × zs_W) := match zs_inT w wT ix with
  | true => some (none, zs_wrs w wU ix)
  | false => none
noncomputable def zs_kt (ix : List Nat) (wU : zs_W) : zs_K := fun _ v w => match v with
  | none => zs_inT w wU ix
  | some _ => false
def zs_mem (i : Nat) (ix : List Nat) : Bool := ix.any (fun j => Nat.beq i j)
-- a template speaks of its cells alone
noncomputable def zs_tx (ix : List Nat) (wT : zs_W) : Bool := (List.range 320).all (fun i => zs_mem i ix || (match zs_get wT i with | none => true | some _ => false))
theorem zs_mem_iff {i : Nat} {ix : List Nat} : zs_mem i ix = true ↔ i ∈ ix := by
  unfold zs_mem
  rw [List.any_eq_true]
  constructor
  · rintro ⟨j, h1, h2⟩
    rw [Nat.eq_of_beq_eq_true h2]
    exact h1
  · intro h
    exact ⟨i, h, Nat.beq_refl i⟩
section ZS5
variable {ρ : Nat → Int}
theorem zs_eqv_ok {a b : Value} (h : zs_eqv a b = true) : a = b := by
  unfold zs_eqv at h
  split at h
  · split at h
    · rw [Nat.eq_of_beq_eq_true h]
    · cases h
  · split at h
    · rfl
    · cases h
  · cases h
theorem zs_leV_ok (ρ' : Nat → Int) {v t : zv} {u : Value} (h : zs_leV v t = true) (hg : zs_g ρ v u) : zs_g ρ' t u := by
  unfold zs_leV at h
  split at h
  · split at h
    · rw [zs_eq_iff] at h
      subst h
      exact hg
    · cases h
  · exact zs_isI_of h hg
  · split at h
    · rw [zs_eqv_ok h]
      exact hg
    · cases h
  · cases h
theorem zs_leS_ok (ρ' : Nat → Int) : ∀ {s t : List zv} {us : List Value}, zs_leS s t = true → zs_rS ρ s us → zs_rS ρ' t us
  | [], [], [], _, _ => trivial
  | v :: s, x :: t, u :: us, h, hS => by
    replace h : (match zs_leV v x with | true => zs_leS s t | false => false) = true := h
    obtain ⟨h1, h2⟩ := zs_bool h
    exact ⟨zs_leV_ok ρ' h1 hS.1, zs_leS_ok ρ' h2 hS.2⟩
  | [], _ :: _, _, h, _ => by
    replace h : false = true := h
    cases h
  | _ :: _, [], _, h, _ => by
    replace h : false = true := h
    cases h
  | [], _, _ :: _, _, hS => hS.elim
  | _ :: _, _, [], _, hS => hS.elim
theorem zs_leC_ok (ρ' : Nat → Int) {c t : zs_C} {d : zz_C} (h : zs_leC c t = true) (hg : zs_gc ρ c d) : zs_gc ρ' t d := by
  unfold zs_leC at h
  split at h
  · split at h
    · match d, hg with
      | .inl xs, hg => exact zs_leS_ok ρ' h hg
    · cases h
  · split at h
    · match d, hg with
      | .inr (.inr (m, us)), hg =>
        obtain ⟨h1, h2⟩ := zs_bool h
        exact ⟨by rw [← Nat.eq_of_beq_eq_true h1]; exact hg.1, zs_leS_ok ρ' h2 hg.2⟩
    · cases h
  · cases h
theorem zs_inT_ok {w wT : zs_W} : ∀ {ix : List Nat}, zs_inT w wT ix = true → ∀ i ∈ ix, ∃ c t, zs_get w i = some c ∧ zs_get wT i = some t ∧ zs_leC c t = true
  | [], _, i, hi => absurd hi List.not_mem_nil
  | j :: ix, h, i, hi => by
    replace h : (match zs_leO (zs_get w j) (zs_get wT j) with | true => zs_inT w wT ix | false => false) = true := h
    obtain ⟨h1, h2⟩ := zs_bool h
    rcases List.mem_cons.mp hi with rfl | hi
    · unfold zs_leO at h1
      split at h1
      · rename_i c hc
        split at h1
        · rename_i t ht
          exact ⟨c, t, hc, ht, h1⟩
        · cases h1
      · cases h1
    · exact zs_inT_ok h2 i hi
theorem zs_wr_get {w : zs_W} {i j : Nat} {o : Option zs_C} {c : zs_C} (h : zs_get (zs_wr w i o) j = some c) (hi : i < 320) : (i = j ∧ o = some c) ∨ (zs_get w j = some c ∧ (i = j → o = none ∨ ∃ x, o = some x)) := by
  unfold zs_wr at h
  split at h
  · rename_i c0
    rw [zs_nth_eq] at h
    split at h
    · rename_i ch hch
      rw [zs_upd_eq, zs_upd_eq] at h
      obtain ⟨hj, ch2, h1, h2⟩ := zs_get_eq _ j h
      have hl : zs_hi i < w.length := (List.getElem?_eq_some_iff.mp hch).1
      by_cases hh : zs_hi i = zs_hi j
      · rw [← hh, List.getElem?_set_self hl] at h1
        cases h1
        by_cases hll : zs_lo i = zs_lo j
        · by_cases hcl : zs_lo i < ch.length
          · rw [← hll, List.getElem?_set_self hcl] at h2
            cases h2
            exact Or.inl ⟨zs_hl i j hi hj hh hll, rfl⟩
          · rw [← hll, List.getElem?_eq_none (by rw [List.length_set]; omega)] at h2
            cases h2
        · rw [List.getElem?_set_ne hll] at h2
          exact Or.inr ⟨zs_get_of hj (by rw [← hh]; exact hch) h2, fun _ => Or.inr ⟨_, rfl⟩⟩
      · rw [List.getElem?_set_ne hh] at h1
        exact Or.inr ⟨zs_get_of hj h1 h2, fun _ => Or.inr ⟨_, rfl⟩⟩
    · exact Or.inr ⟨h, fun _ => Or.inr ⟨_, rfl⟩⟩
  · exact Or.inr ⟨h, fun _ => Or.inl rfl⟩
/-- what stands after a template was written: its cells, or another's -/
theorem zs_wr_ne {w : zs_W} {i j : Nat} {o : Option zs_C} {c : zs_C} (h : zs_get (zs_wr w i o) j = some c) (hi : i < 320) (hw : ∃ c0, zs_get w i = some c0) (ho : ∃ x, o = some x) : (i = j ∧ o = some c) ∨ (zs_get w j = some c ∧ i ≠ j) := by
  by_cases hij : i = j
  · left
    refine ⟨hij, ?_⟩
    subst hij
    obtain ⟨x, rfl⟩ := ho
    obtain ⟨c0, hc0⟩ := hw
    obtain ⟨-, ch, h1, h2⟩ := zs_get_eq _ _ hc0
    unfold zs_wr at h
    dsimp only at h
    rw [zs_nth_eq, h1] at h
    dsimp only at h
    rw [zs_upd_eq, zs_upd_eq] at h
    obtain ⟨hj, ch2, h3, h4⟩ := zs_get_eq _ _ h
    rw [List.getElem?_set_self (List.getElem?_eq_some_iff.mp h1).1] at h3
    cases h3
    rw [List.getElem?_set_self (List.getElem?_eq_some_iff.mp h2).1] at h4
    cases h4
    rfl
  · right
    rcases zs_wr_get h hi with ⟨q, -⟩ | ⟨q, -⟩
    · exact absurd q hij
    · exact ⟨q, hij⟩
theorem zs_wr_dom {w : zs_W} {i j : Nat} {o : Option zs_C} (hw : ∃ c0, zs_get w j = some c0) (hi : i < 320) (ho : ∃ x, o = some x) (hwi : ∃ c0, zs_get w i = some c0) : ∃ c0, zs_get (zs_wr w i o) j = some c0 := by
  obtain ⟨x, rfl⟩ := ho
  obtain ⟨c0, hc0⟩ := hw
  obtain ⟨c1, hc1⟩ := hwi
  obtain ⟨-, ch, h1, h2⟩ := zs_get_eq _ _ hc1
  obtain ⟨hj, ch2, h3, h4⟩ := zs_get_eq _ _ hc0
  have hl := (List.getElem?_eq_some_iff.mp h1).1
  have hcl := (List.getElem?_eq_some_iff.mp h2).1
  unfold zs_wr
  dsimp only
  rw [zs_nth_eq, h1]
  dsimp only
  rw [zs_upd_eq, zs_upd_eq]
  by_cases hh : zs_hi i = zs_hi j
  · rw [← hh, h1] at h3
    cases h3
    by_cases hll : zs_lo i = zs_lo j
    · exact ⟨x, zs_get_of hj (by rw [← hh, List.getElem?_set_self hl]) (by rw [← hll, List.getElem?_set_self hcl])⟩
    · exact ⟨c0, zs_get_of hj (by rw [← hh, List.getElem?_set_self hl]) (by rw [List.getElem?_set_ne hll]; exact h4)⟩
  · exact ⟨c0, zs_get_of hj (by rw [List.getElem?_set_ne hh]; exact h3) h4⟩
theorem zs_wrs_get {wU : zs_W} : ∀ {ix : List Nat} {w : zs_W} {j : Nat} {c : zs_C}, zs_get (zs_wrs w wU ix) j = some c → (∀ i ∈ ix, i < 320 ∧ (∃ c0, zs_get w i = some c0) ∧ ∃ x, zs_get wU i = some x) → (j ∈ ix ∧ zs_get wU j = some c) ∨ (j ∉ ix ∧ zs_get w j = some c)
  | [], w, j, c, h, _ => Or.inr ⟨List.not_mem_nil, h⟩
  | i :: ix, w, j, c, h, hx => by
    replace h : zs_get (zs_wrs (zs_wr w i (zs_get wU i)) wU ix) j = some c := h
    obtain ⟨hi, hwi, hui⟩ := hx i List.mem_cons_self
    rcases zs_wrs_get h (fun k hk => by
      obtain ⟨q1, q2, q3⟩ := hx k (List.mem_cons_of_mem _ hk)
      exact ⟨q1, zs_wr_dom q2 hi hui hwi, q3⟩) with ⟨q1, q2⟩ | ⟨q1, q2⟩
    · exact Or.inl ⟨List.mem_cons_of_mem _ q1, q2⟩
    · rcases zs_wr_ne q2 hi hwi hui with ⟨rfl, q3⟩ | ⟨q3, q4⟩
      · exact Or.inl ⟨List.mem_cons_self, q3⟩
      · exact Or.inr ⟨fun hm => by
          rcases List.mem_cons.mp hm with rfl | hm
          · exact q4 rfl
          · exact q1 hm, q3⟩
/-- the cells of some places alone -/
def zs_rst (ix : List Nat) (cs : zz_W) : zz_W := cs.mapIdx (fun i c => if zs_mem i ix = true then c else none)
theorem zs_rst_le (ix : List Nat) (cs : zz_W) : zz_le (zs_rst ix cs) cs := by
  refine ⟨by unfold zs_rst; rw [List.length_mapIdx], fun i c hi => ?_⟩
  unfold zs_rst at hi
  rw [List.getElem?_mapIdx] at hi
  cases hc : cs[i]? with
  | none => rw [hc] at hi; cases hi
  | some o =>
    rw [hc] at hi
    replace hi : some (if zs_mem i ix = true then o else none) = some (some c) := hi
    split at hi
    · exact hi
    · cases hi
theorem zs_noO (N : Nat) : zs_HO (fun _ _ _ _ => none) N := fun _ _ _ _ _ _ _ h => by cases h
/-- an oracle out of a walk over a template -/
theorem zs_tpl_ok {N j n : Nat} {mi : zz_Mi} (hj : zz_mts[j]? = some mi) {ix : List Nat} {wT wU w w' : zs_W} {args : List zv} {rs : zs_R} {v : Option zv} (h : zs_ev (fun _ _ _ _ => none) n mi 0 (zs_ent args mi.2.2.1) [] wT rs (zs_kt ix wU) = true) (hl : zs_css args ≤ mi.2.2.1) (hx : zs_tx ix wT = true) {ρ0 : Nat → Int} (hr : zs_ok ρ0 rs) {cargs : List Value} {cs : zz_W} (ha : zs_rS ρ0 args cargs) (hO : zs_tpl ix wT wU w = some (v, w')) (hW : zs_rW ρ N w cs) (hU : ∀ i ∈ ix, ∃ x, zs_get wU i = some x) : zz_Gm mi cargs cs (fun u cs' => zs_go ρ v u ∧ zs_rW ρ N w' cs') := by
  unfold zs_tpl at hO
  split at hO
  · rename_i hin
    cases hO
    have hin := zs_inT_ok hin
    have h0 : zz_Gm mi cargs (zs_rst ix cs) (fun u cs' => u = none ∧ cs'.length = N ∧ ∀ i ∈ ix, ∀ t, zs_get wU i = some t → ∃ d, cs'[i]? = some (some d) ∧ zs_gc ρ t d) := by
      refine zs_con (zs_noO N) hj h hl hr ha ⟨by unfold zs_rst; rw [List.length_mapIdx]; exact hW.1, fun i t ht => ?_⟩ ?_
      · have hi : i ∈ ix := by
          have hlt := (zs_get_eq _ _ ht).1
          have := List.all_eq_true.mp hx i (List.mem_range.mpr hlt)
          rw [ht] at this
          rw [← zs_mem_iff]
          simpa using this
        obtain ⟨c, t', hc, ht', hle⟩ := hin i hi
        rw [ht] at ht'
        cases ht'
        obtain ⟨d, hd, hg⟩ := hW.2 i c hc
        refine ⟨d, ?_, zs_leC_ok ρ0 hle hg⟩
        unfold zs_rst
        rw [List.getElem?_mapIdx, hd]
        show some (if zs_mem i ix = true then some d else none) = _
        rw [if_pos (zs_mem_iff.mpr hi)]
      · intro rs' v' w2 u cs' hK hr' hu hW'
        unfold zs_kt at hK
        split at hK
        · have hK := zs_inT_ok hK
          refine ⟨?_, hW'.1, fun i hi t ht => ?_⟩
          · match u, hu with
            | none, _ => rfl
          · obtain ⟨c, t', hc, ht', hle⟩ := hK i hi
            rw [ht] at ht'
            cases ht'
            obtain ⟨d, hd, hg⟩ := hW'.2 i c hc
            exact ⟨d, hd, zs_leC_ok ρ hle hg⟩
        · cases hK
    refine (h0.le (zs_rst_le ix cs)).mono ?_
    rintro u cs' ⟨a', ⟨rfl, hlen, hcell⟩, hF⟩
    refine ⟨trivial, by rw [← hF.1.1]; exact hlen, fun i c hi => ?_⟩
    rcases zs_wrs_get hi (fun i hi => by
      obtain ⟨c, t', hc, ht', -⟩ := hin i hi
      exact ⟨(zs_get_eq _ _ hc).1, ⟨c, hc⟩, hU i hi⟩) with ⟨q1, q2⟩ | ⟨q1, q2⟩
    · obtain ⟨d, hd, hg⟩ := hcell i q1 c q2
      exact ⟨d, hF.1.2 i d hd, hg⟩
    · obtain ⟨d, hd, hg⟩ := hW.2 i c q2
      refine ⟨d, ?_, hg⟩
      rw [(hF.2 i ?_).2]
      · exact hd
      · unfold zs_rst
        rw [List.getElem?_mapIdx, hd]
        show some (if zs_mem i ix = true then some d else none) = _
        rw [if_neg (fun hm => q1 (zs_mem_iff.mp hm))]
  · cases hO
end ZS5
-- chains of cuts
noncomputable def zs_ch (l : List (Nat × Int × Bool × zv)) (fin : zv) (rs : zs_R) (f : zs_R → zv → Bool) : Bool := List.rec (motive := fun _ => zs_R → Bool) (fun rs => f rs fin) (fun e _ ih rs => match e with
  | (j, t, b, a) => match b with
    | true => zs_cut2 rs j t (fun r => f r a) ih
    | false => zs_cut2 rs j t ih (fun r => f r a)) l rs
theorem zs_ch_ok {ρ : Nat → Int} {fin : zv} {f : zs_R → zv → Bool} : ∀ {l : List (Nat × Int × Bool × zv)} {rs : zs_R}, zs_ch l fin rs f = true → zs_ok ρ rs → ∃ rs' a, f rs' a = true ∧ zs_ok ρ rs'
  | [], rs, h, hr => ⟨rs, fin, h, hr⟩
  | (j, t, b, a) :: l, rs, h, hr => by
    cases b with
    | true =>
      replace h : zs_cut2 rs j t (fun r => f r a) (fun r => zs_ch l fin r f) = true := h
      rcases zs_cut2_ok h hr with ⟨r, h1, h2⟩ | ⟨r, h1, h2⟩
      · exact ⟨r, a, h1, h2⟩
      · exact zs_ch_ok h1 h2
    | false =>
      replace h : zs_cut2 rs j t (fun r => zs_ch l fin r f) (fun r => f r a) = true := h
      rcases zs_cut2_ok h hr with ⟨r, h1, h2⟩ | ⟨r, h1, h2⟩
      · exact zs_ch_ok h1 h2
      · exact ⟨r, a, h1, h2⟩
-- answers
def zs_val (ρ : Nat → Int) (a : zv) : Value := match a with
  | .inl x => .int (Int32.ofInt x)
  | .inr (.inl (j, c)) => .int (Int32.ofInt (ρ j + c))
  | .inr (.inr (.inl (some v))) => v
  | .inr (.inr (.inl none)) => .null
  | .inr (.inr (.inr (j, c))) => .long (Int64.ofInt (ρ j + c))
def zs_one1 (p : Option (Int × Int)) (q : Option (Int × Int)) : Bool := match p with
  | some p => match q with
    | some q => match zs_le p.2 p.1 with
      | true => match zs_le q.2 q.1 with
        | true => zs_eq p.1 q.1
        | false => false
      | false => false
    | none => false
  | none => false
noncomputable def zs_same (rs : zs_R) (v a : zv) : Bool := match zs_isI v with
  | true => zs_one1 (zs_iv rs v) (zs_iv rs a)
  | false => match zs_one1 (zs_jv rs v) (zs_jv rs a) with
    | true => match zs_isJ v with
      | true => zs_isJ a
      | false => false
    | false => false
noncomputable def zs_ka (a : zv) : zs_K := fun rs v _ => match v with
  | some v => zs_same rs v a
  | none => false
theorem zs_g_val {ρ : Nat → Int} {a : zv} {u : Value} (h : zs_g ρ a u) (hn : a ≠ .inr (.inr (.inl none))) : u = zs_val ρ a := by
  match a, h, hn with
  | .inl x, h, _ => exact h
  | .inr (.inl (j, c)), h, _ => exact h
  | .inr (.inr (.inl (some v))), h, _ => exact h
  | .inr (.inr (.inl none)), _, hn => exact absurd rfl hn
  | .inr (.inr (.inr (j, c))), h, _ => exact h
theorem zs_val_g (ρ : Nat → Int) {a : zv} (hn : a ≠ .inr (.inr (.inl none))) : zs_g ρ a (zs_val ρ a) := by
  match a, hn with
  | .inl x, _ => rfl
  | .inr (.inl (j, c)), _ => rfl
  | .inr (.inr (.inl (some v))), _ => rfl
  | .inr (.inr (.inl none)), hn => exact absurd rfl hn
  | .inr (.inr (.inr (j, c))), _ => rfl
theorem zs_one1_of {p q : Option (Int × Int)} (h : zs_one1 p q = true) : ∃ a b c d : Int, p = some (a, b) ∧ q = some (c, d) ∧ b ≤ a ∧ d ≤ c ∧ a = c := by
  unfold zs_one1 at h
  split at h
  · rename_i p
    split at h
    · rename_i q
      obtain ⟨h1, h⟩ := zs_bool h
      obtain ⟨h2, h⟩ := zs_bool h
      rw [zs_le_iff] at h1 h2
      rw [zs_eq_iff] at h
      exact ⟨p.1, p.2, q.1, q.2, rfl, rfl, h1, h2, h⟩
    · cases h
  · cases h
/-- as a long, without a look at its range -/
theorem zs_jv_of2 {ρ : Nat → Int} {rs : zs_R} {v : zv} {u : Value} {a b : Int} (h : zs_jv rs v = some (a, b)) (hr : zs_ok ρ rs) (hg : zs_g ρ v u) : ∃ z : Int, u = .long (Int64.ofInt z) ∧ a ≤ z ∧ z ≤ b := by
  unfold zs_jv at h
  split at h
  · rename_i x
    cases h
    exact ⟨x.toInt, by rw [Int64.ofInt_toInt]; exact hg, Int.le_refl _, Int.le_refl _⟩
  · have := zs_sh_of h hr
    exact ⟨_, hg, this.1, this.2⟩
  · cases h
theorem zs_same_ok {ρ : Nat → Int} {rs : zs_R} {v a : zv} {u : Value} (h : zs_same rs v a = true) (hr : zs_ok ρ rs) (hg : zs_g ρ v u) : u = zs_val ρ a := by
  unfold zs_same at h
  split at h
  · obtain ⟨p, q, c, d, h1, h2, l1, l2, e⟩ := zs_one1_of h
    obtain ⟨z, rfl, z1, z2⟩ := zs_iv_of h1 hr hg
    have hn : a ≠ .inr (.inr (.inl none)) := fun e => by rw [e] at h2; cases h2
    obtain ⟨y, hy, y1, y2⟩ := zs_iv_of h2 hr (zs_val_g ρ hn)
    rw [hy, show z = y by omega]
  · obtain ⟨h, -⟩ := zs_bool h
    obtain ⟨p, q, c, d, h1, h2, l1, l2, e⟩ := zs_one1_of h
    obtain ⟨z, rfl, z1, z2⟩ := zs_jv_of2 h1 hr hg
    have hn : a ≠ .inr (.inr (.inl none)) := fun e => by rw [e] at h2; cases h2
    obtain ⟨y, hy, y1, y2⟩ := zs_jv_of2 h2 hr (zs_val_g ρ hn)
    rw [hy, show z = y by omega]
