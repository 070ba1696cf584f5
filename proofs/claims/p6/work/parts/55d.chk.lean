/-! the typed machine is sound: measures, heads of loops, the check of a contract -/
def t_lv (o : Option Value) : Int := match o with
  | some (.int v) => v.toInt
  | _ => 0
def t_dot : List Int → List Int → Int
  | [], _ => 0
  | _ :: _, [] => 0
  | c :: cs, x :: xs => c * x + t_dot cs xs
def t_rp (ρ : List Int) : List ta → List Int → Prop
  | [], [] => True
  | s :: S, x :: X => (∀ y, s = .inl y → tg ρ y x) ∧ t_rp ρ S X
  | [], _ :: _ => False
  | _ :: _, [] => False
def t_vec (nd : tN) (L : List (Option Value)) (cs : zz_W) : List Int := L.map t_lv ++ nd.2.2.1.map (fun e => t_pv cs e.1)
def t_mv (nd : tN) (L : List (Option Value)) (cs : zz_W) : Int := nd.2.2.2.2.1 + t_dot nd.2.2.2.2.2 (t_vec nd L cs)
def t_Hd (ρ : List Int) (nd : tN) (L : List (Option Value)) (cs : zz_W) : Prop := t_loc ρ nd.2.1 L ∧ t_fac ρ nd.2.2.1 cs ∧ t_tks nd.2.2.2.1 cs ∧ t_ty cs
noncomputable def t_g1 (args : List ta) (rs : tB) (k : tL → tB → Bool) : Bool := List.rec (motive := fun _ => tB → (tL → tB → Bool) → Bool) (fun rs k => k [] rs) (fun v _ ih rs k => match v with
  | .inl (_, a, b) => t_fn (t_len rs) (fun j => t_app rs (a, b) (fun rs' => ih rs' (fun A rs2 => k (.inl (Nat.succ j, .ofNat 0, .ofNat 0) :: A) rs2)))
  | .inr (.inl (_, a, b)) => t_fn (t_len rs) (fun j => t_app rs (a, b) (fun rs' => ih rs' (fun A rs2 => k (.inr (.inl (Nat.succ j, .ofNat 0, .ofNat 0)) :: A) rs2)))
  | _ => ih rs (fun A rs2 => k (v :: A) rs2)) args rs k
section TS10
variable {ρ : List Int} {rs : tB} {F : tF} {tk : List Nat} {cs cs' : zz_W} {A : tL} {L : List (Option Value)} {st : List ta} {t : List Value} {mi mj : zz_Mi} {Mw pc : Nat} {P : Option Value → zz_W → Prop}
theorem t_wlo_ok {c z : Int} {x : tT} {k : Int → Bool} (h : t_wlo rs c x k = true) (hr : t_okr ρ rs) (hx : tg ρ x z) : ∃ d, k d = true ∧ d ≤ c * z := by
  unfold t_wlo at h
  split at h
  · rename_i p q hiv
    obtain ⟨h1, h2⟩ := t_iv_ok hiv hr hx
    split at h
    · rename_i hc
      rw [t_le_iff] at hc
      exact ⟨_, h, Int.mul_le_mul_of_nonneg_left h1 hc⟩
    · rename_i hc
      have hc := t_le_f.mp hc
      have hc : c < 0 := hc
      exact ⟨_, h, Int.mul_le_mul_of_nonpos_left (by omega) h2⟩
  · cases h
theorem t_whi_ok {c z : Int} {x : tT} {k : Int → Bool} (h : t_whi rs c x k = true) (hr : t_okr ρ rs) (hx : tg ρ x z) : ∃ d, k d = true ∧ c * z ≤ d := by
  unfold t_whi at h
  split at h
  · rename_i p q hiv
    obtain ⟨h1, h2⟩ := t_iv_ok hiv hr hx
    split at h
    · rename_i hc
      rw [t_le_iff] at hc
      exact ⟨_, h, Int.mul_le_mul_of_nonneg_left h2 hc⟩
    · rename_i hc
      have hc := t_le_f.mp hc
      have hc : c < 0 := hc
      exact ⟨_, h, Int.mul_le_mul_of_nonpos_left (by omega) h1⟩
  · cases h
theorem t_m1_ok {c c' x z : Int} {s v : ta} {k : Int → Bool} (h : t_m1 rs c s c' v k = true) (hr : t_okr ρ rs) (hs : ∀ y, s = .inl y → tg ρ y x) (hv : ∀ y, v = .inl y → tg ρ y z) : ∃ d, k d = true ∧ d ≤ c * x - c' * z := by
  unfold t_m1 at h
  split at h
  · rename_i hc
    rw [t_eq_iff] at hc
    have hc : c = 0 := hc
    subst hc
    split at h
    · rename_i hc'
      rw [t_eq_iff] at hc'
      have hc' : c' = 0 := hc'
      subst hc'
      refine ⟨_, h, ?_⟩
      rw [Int.zero_mul, Int.zero_mul]
      exact Int.le_refl _
    · split at h
      · rename_i y
        obtain ⟨d, h1, h2⟩ := t_whi_ok h hr (hv y rfl)
        refine ⟨_, h1, ?_⟩
        rw [Int.zero_mul]
        show -d ≤ _
        omega
      · cases h
  · split at h
    · rename_i y
      have hy := hs y rfl
      split at h
      · rename_i hc'
        rw [t_eq_iff] at hc'
        have hc' : c' = 0 := hc'
        subst hc'
        obtain ⟨d, h1, h2⟩ := t_wlo_ok h hr hy
        refine ⟨_, h1, ?_⟩
        rw [Int.zero_mul]
        omega
      · split at h
        · rename_i w
          have hw := hv w rfl
          split at h
          · rename_i hb
            rw [t_and_iff, t_eq_iff] at hb
            obtain ⟨hb1, hb2⟩ := hb
            have hb1 := Nat.eq_of_beq_eq_true hb1
            subst hb2
            obtain ⟨y0, a1, a2, a3⟩ := hy
            obtain ⟨w0, b1, b2, b3⟩ := hw
            rw [← hb1, a1] at b1
            cases b1
            have e : c * x - c * z = c * (x - z) := (Int.mul_sub c x z).symm
            rw [e]
            split at h
            · split at h
              · rename_i hc
                rw [t_le_iff] at hc
                refine ⟨_, h, Int.mul_le_mul_of_nonneg_left ?_ hc⟩
                show y.2.1 - w.2.2 ≤ _
                omega
              · rename_i hc
                have hc := t_le_f.mp hc
                have hc : c < 0 := hc
                refine ⟨_, h, Int.mul_le_mul_of_nonpos_left (by omega) ?_⟩
                show _ ≤ y.2.2 - w.2.1
                omega
            · cases h
          · obtain ⟨d, h1, h2⟩ := t_wlo_ok h hr hy
            obtain ⟨b, h3, h4⟩ := t_whi_ok h1 hr hw
            refine ⟨_, h3, ?_⟩
            show d - b ≤ _
            omega
        · cases h
    · cases h
theorem t_mes_ok (hr : t_okr ρ rs) : ∀ {cc : List Int} {S : List ta} {X cc' : List Int} {V : List ta} {Y : List Int} {acc : Int} {k : Int → Bool}, t_mes rs cc S cc' V acc k = true → t_rp ρ S X → t_rp ρ V Y → ∃ d, k d = true ∧ d ≤ acc + t_dot cc X - t_dot cc' Y
  | [], S, X, [], V, Y, acc, k, h, _, _ => ⟨acc, h, by show acc ≤ acc + 0 - 0; omega⟩
  | [], S, X, _ :: _, V, Y, acc, k, h, _, _ => by cases h
  | c :: cc, [], X, cc', V, Y, acc, k, h, _, _ => by cases h
  | c :: cc, s :: S, X, [], V, Y, acc, k, h, _, _ => by cases h
  | c :: cc, s :: S, X, c' :: cc', [], Y, acc, k, h, _, _ => by cases h
  | c :: cc, s :: S, [], c' :: cc', v :: V, Y, acc, k, h, hS, _ => hS.elim
  | c :: cc, s :: S, x :: X, c' :: cc', v :: V, [], acc, k, h, _, hV => hV.elim
  | c :: cc, s :: S, x :: X, c' :: cc', v :: V, y :: Y, acc, k, h, hS, hV => by
    replace h : t_m1 rs c s c' v (fun d => t_fi (Int.add acc d) (fun acc' => t_mes rs cc S cc' V acc' k)) = true := h
    obtain ⟨d, h1, h2⟩ := t_m1_ok h hr hS.1 hV.1
    rw [t_fi_eq] at h1
    obtain ⟨d2, h3, h4⟩ := t_mes_ok hr h1 hS.2 hV.2
    refine ⟨d2, h3, ?_⟩
    show d2 ≤ acc + (c * x + t_dot cc X) - (c' * y + t_dot cc' Y)
    have h4 : d2 ≤ acc + d + t_dot cc X - t_dot cc' Y := h4
    omega
theorem t_dot_z : ∀ (cc X : List Int), t_dot (cc.map (fun _ => Int.ofNat 0)) X = 0
  | [], X => rfl
  | c :: cc, [] => rfl
  | c :: cc, x :: X => by
    show (0 : Int) * x + t_dot (cc.map (fun _ => Int.ofNat 0)) X = 0
    rw [t_dot_z cc X, Int.zero_mul]
    rfl
theorem t_rp.ext {ρ' : List Int} (hx : t_ext ρ ρ') : ∀ {S : List ta} {X : List Int}, t_rp ρ S X → t_rp ρ' S X
  | [], [], _ => trivial
  | s :: S, x :: X, h => ⟨fun y hy => (h.1 y hy).ext hx, t_rp.ext hx h.2⟩
  | [], _ :: _, h => h.elim
  | _ :: _, [], h => h.elim
theorem t_rp.app : ∀ {S : List ta} {X : List Int} {S2 : List ta} {X2 : List Int}, t_rp ρ S X → t_rp ρ S2 X2 → t_rp ρ (S ++ S2) (X ++ X2)
  | [], [], S2, X2, _, h2 => h2
  | s :: S, x :: X, S2, X2, h, h2 => ⟨h.1, t_rp.app h.2 h2⟩
  | [], _ :: _, _, _, h, _ => h.elim
  | _ :: _, [], _, _, h, _ => h.elim
theorem t_rp_loc : ∀ {A : tL} {L : List (Option Value)}, t_loc ρ A L → t_rp ρ A (L.map t_lv)
  | [], [], _ => trivial
  | [], _ :: _, h => by have := h.1; simp at this
  | _ :: _, [], h => by have := h.1; simp at this
  | v :: A, o :: L, h => by
    obtain ⟨h1, h2⟩ := t_loc_tl h
    refine ⟨fun y hy => ?_, t_rp_loc h2⟩
    subst hy
    rcases h1 with q | ⟨u, rfl, z, rfl, hz⟩
    · cases q
    · exact hz
theorem t_rp_map {f : Nat × ta → ta} : ∀ {l : tF}, (∀ e ∈ l, ∀ y, f e = .inl y → tg ρ y (t_pv cs e.1)) → t_rp ρ (l.map f) (l.map (fun e => t_pv cs e.1))
  | [], _ => trivial
  | e :: l, h => ⟨h e List.mem_cons_self, t_rp_map (fun e' he' => h e' (List.mem_cons_of_mem _ he'))⟩
theorem t_lsA_ok (hr : t_okr ρ rs) : ∀ {tms vs : List ta} {L : List (Option Value)}, t_lsA rs tms vs = true → t_loc ρ vs L → t_loc ρ tms L
  | [], [], L, _, h => h
  | [], _ :: _, _, h, _ => by cases h
  | _ :: _, [], _, h, _ => by cases h
  | tm :: tms, v :: vs, [], _, h => by have := h.1; simp at this
  | tm :: tms, v :: vs, o :: L, h, hA => by
    replace h : (match t_lfA rs tm v with | true => t_lsA rs tms vs | false => false) = true := h
    obtain ⟨h1, h2⟩ := t_bool h
    obtain ⟨a1, a2⟩ := t_loc_tl hA
    refine t_loc_cons ?_ (t_lsA_ok hr h2 a2)
    unfold t_lfA at h1
    split at h1
    · exact Or.inl rfl
    · rename_i hnt
      rcases a1 with q | ⟨u, q1, q2⟩
      · subst q
        match tm, h1, hnt with
        | .inl x, h1, _ => cases h1
        | .inr (.inl x), h1, _ => cases h1
        | .inr (.inr (.inl r)), h1, _ => cases h1
        | .inr (.inr (.inr ())), _, hnt => exact (hnt () rfl).elim
      · exact Or.inr ⟨u, q1, t_lf_ok h1 hr q2⟩
theorem t_okr_app {z a b : Int} (hr : t_okr ρ rs) (h1 : a ≤ z) (h2 : z ≤ b) : t_okr (ρ ++ [z]) (rs ++ [(a, b)]) := by
  refine ⟨by simp [hr.1], fun j a' b' hj => ?_⟩
  by_cases hl : j < rs.length
  · rw [List.getElem?_append_left hl] at hj
    obtain ⟨y, q1, q2⟩ := hr.2 j a' b' hj
    refine ⟨y, ?_, q2⟩
    rw [List.getElem?_append_left (by rw [← hr.1]; exact hl)]
    exact q1
  · rw [List.getElem?_append_right (by omega)] at hj
    have hj0 : j - rs.length = 0 := by
      cases hq : j - rs.length with
      | zero => rfl
      | succ n => rw [hq] at hj; simp at hj
    rw [hj0] at hj
    cases hj
    refine ⟨z, ?_, h1, h2⟩
    rw [List.getElem?_append_right (by rw [← hr.1]; omega), ← hr.1, hj0]
    rfl
theorem t_tg_new {z : Int} {e : List Int} (hr : t_okr ρ rs) : tg ((ρ ++ [z]) ++ e) (Nat.succ rs.length, .ofNat 0, .ofNat 0) z := by
  refine ⟨z, ?_, ?_, ?_⟩
  · show ((ρ ++ [z]) ++ e)[rs.length]? = some z
    rw [List.append_assoc, List.getElem?_append_right (by rw [hr.1]; exact Nat.le_refl _), hr.1, Nat.sub_self]
    rfl
  · show z + (0 : Int) ≤ z
    omega
  · show z ≤ z + (0 : Int)
    omega
theorem t_g1_ok : ∀ {args : List ta} {rs : tB} {ρ : List Int} {us : List Value} {k : tL → tB → Bool}, t_g1 args rs k = true → t_okr ρ rs → t_inA args us → ∃ A rs', t_okr (ρ ++ t_nums us) rs' ∧ t_rS (ρ ++ t_nums us) A us ∧ k A rs' = true
  | [], rs, ρ, [], k, h, hr, _ => ⟨[], rs, by rw [show t_nums [] = [] from rfl, List.append_nil]; exact hr, trivial, h⟩
  | [], rs, ρ, _ :: _, k, h, hr, hi => hi.elim
  | _ :: _, rs, ρ, [], k, h, hr, hi => hi.elim
  | .inl (j, a, b) :: args, rs, ρ, u :: us, k, h, hr, ⟨⟨v, hu, h1, h2⟩, hi⟩ => by
    subst hu
    replace h : t_fn (t_len rs) (fun j => t_app rs (a, b) (fun rs' => t_g1 args rs' (fun A rs2 => k (.inl (Nat.succ j, .ofNat 0, .ofNat 0) :: A) rs2))) = true := h
    rw [t_fn_eq, t_app_eq, t_len_eq] at h
    obtain ⟨A, rs', q1, q2, q3⟩ := t_g1_ok h (t_okr_app hr h1 h2) hi
    rw [show t_nums (.int v :: us) = [v.toInt] ++ t_nums us from rfl, ← List.append_assoc]
    exact ⟨.inl (Nat.succ rs.length, .ofNat 0, .ofNat 0) :: A, rs', q1, ⟨⟨v, rfl, t_tg_new hr⟩, q2⟩, q3⟩
  | .inr (.inl (j, a, b)) :: args, rs, ρ, u :: us, k, h, hr, ⟨⟨v, hu, h1, h2⟩, hi⟩ => by
    subst hu
    replace h : t_fn (t_len rs) (fun j => t_app rs (a, b) (fun rs' => t_g1 args rs' (fun A rs2 => k (.inr (.inl (Nat.succ j, .ofNat 0, .ofNat 0)) :: A) rs2))) = true := h
    rw [t_fn_eq, t_app_eq, t_len_eq] at h
    obtain ⟨A, rs', q1, q2, q3⟩ := t_g1_ok h (t_okr_app hr h1 h2) hi
    rw [show t_nums (.long v :: us) = [v.toInt] ++ t_nums us from rfl, ← List.append_assoc]
    exact ⟨.inr (.inl (Nat.succ rs.length, .ofNat 0, .ofNat 0)) :: A, rs', q1, ⟨⟨v, rfl, t_tg_new hr⟩, q2⟩, q3⟩
  | .inr (.inr (.inl r)) :: args, rs, ρ, u :: us, k, h, hr, ⟨⟨i, hu, h1⟩, hi⟩ => by
    subst hu
    replace h : t_g1 args rs (fun A rs2 => k (.inr (.inr (.inl r)) :: A) rs2) = true := h
    obtain ⟨A, rs', q1, q2, q3⟩ := t_g1_ok h hr hi
    rw [show t_nums (.ref i :: us) = t_nums us from rfl]
    exact ⟨.inr (.inr (.inl r)) :: A, rs', q1, ⟨⟨i, rfl, h1⟩, q2⟩, q3⟩
  | .inr (.inr (.inr _)) :: args, rs, ρ, u :: us, k, h, hr, ⟨h1, hi⟩ => h1.elim
theorem t_p0_ok : ∀ {pre : List (Nat × Int × Int)} {rs : tB} {ρ : List Int} {F : tF} {k : tF → tB → Bool}, t_p0 pre rs F k = true → t_okr ρ rs → t_fac ρ F cs → t_inP cs pre → ∃ F' rs', t_okr (ρ ++ t_pvs cs pre) rs' ∧ t_fac (ρ ++ t_pvs cs pre) F' cs ∧ k F' rs' = true
  | [], rs, ρ, F, k, h, hr, hF, _ => ⟨F, rs, by rw [show t_pvs cs [] = [] from rfl, List.append_nil]; exact hr, by rw [show t_pvs cs [] = [] from rfl, List.append_nil]; exact hF, h⟩
  | p :: pre, rs, ρ, F, k, h, hr, hF, hP => by
    unfold t_inP at hP
    rw [List.forall_mem_cons] at hP
    obtain ⟨⟨hs, x, hx, h1, h2⟩, hP'⟩ := hP
    replace h : t_fn (t_len rs) (fun j => t_app rs (p.2.1, p.2.2) (fun rs' => t_p0 pre rs' ((p.1, .inl (Nat.succ j, .ofNat 0, .ofNat 0)) :: F) k)) = true := h
    rw [t_fn_eq, t_app_eq, t_len_eq] at h
    have hx' : t_ext ρ (ρ ++ [x.toInt]) := ⟨_, rfl⟩
    have hg := t_tg_new (z := x.toInt) (e := []) hr
    rw [List.append_nil] at hg
    obtain ⟨F', rs', q1, q2, q3⟩ := t_p0_ok h (t_okr_app hr h1 h2) (t_fac_cons (e := (p.1, .inl (Nat.succ rs.length, .ofNat 0, .ofNat 0))) (hF.ext hx') hs hx ⟨x, rfl, hg⟩) hP'
    rw [show t_pvs cs (p :: pre) = [t_pv cs p.1] ++ t_pvs cs pre from rfl, t_pv_of hx, ← List.append_assoc]
    exact ⟨F', rs', q1, q2, q3⟩
theorem t_nums_len : ∀ {args : List ta} {us : List Value}, t_inA args us → (t_nums us).length = t_cnt args
  | [], [], _ => rfl
  | [], _ :: _, h => h.elim
  | _ :: _, [], h => h.elim
  | .inl (j, a, b) :: args, u :: us, ⟨⟨v, hu, _⟩, hi⟩ => by
    subst hu
    show (v.toInt :: t_nums us).length = Nat.succ (t_cnt args)
    rw [List.length_cons, t_nums_len hi]
  | .inr (.inl (j, a, b)) :: args, u :: us, ⟨⟨v, hu, _⟩, hi⟩ => by
    subst hu
    show (v.toInt :: t_nums us).length = Nat.succ (t_cnt args)
    rw [List.length_cons, t_nums_len hi]
  | .inr (.inr (.inl r)) :: args, u :: us, ⟨⟨v, hu, _⟩, hi⟩ => by
    subst hu
    show (t_nums us).length = t_cnt args
    exact t_nums_len hi
  | .inr (.inr (.inr _)) :: args, u :: us, ⟨h1, _⟩ => h1.elim
theorem t_al1_ok {v : ta} {o : Option Value} {k : ta → tB → Bool} (h : t_al1 rs v k = true) (hr : t_okr ρ rs) (hv : v = t_top ∨ ∃ u, o = some u ∧ tgv ρ v u) : ∃ v' rs' ρ', t_ext ρ ρ' ∧ t_okr ρ' rs' ∧ (v' = t_top ∨ ∃ u, o = some u ∧ tgv ρ' v' u) ∧ k v' rs' = true := by
  unfold t_al1 at h
  split at h
  · rename_i x
    rcases hv with q | ⟨u, q, z, rfl, hz⟩
    · cases q
    · obtain ⟨x', rs', ρ', q1, q2, q3, q4⟩ := t_name_ok h hr hz
      exact ⟨.inl x', rs', ρ', q2, q3, Or.inr ⟨.int z, q, z, rfl, q4⟩, q1⟩
  · rename_i x
    rcases hv with q | ⟨u, q, z, rfl, hz⟩
    · cases q
    · obtain ⟨x', rs', ρ', q1, q2, q3, q4⟩ := t_name_ok h hr hz
      exact ⟨.inr (.inl x'), rs', ρ', q2, q3, Or.inr ⟨.long z, q, z, rfl, q4⟩, q1⟩
  · exact ⟨v, rs, ρ, t_ext.rf ρ, hr, hv, h⟩
theorem t_als_ok : ∀ {l : List ta} {rs : tB} {ρ : List Int} {L : List (Option Value)} {k : tL → tB → Bool}, t_als l rs k = true → t_okr ρ rs → t_loc ρ l L → ∃ A rs' ρ', t_ext ρ ρ' ∧ t_okr ρ' rs' ∧ t_loc ρ' A L ∧ k A rs' = true
  | [], rs, ρ, L, k, h, hr, hA => ⟨[], rs, ρ, t_ext.rf ρ, hr, hA, h⟩
  | v :: l, rs, ρ, [], k, h, hr, hA => by have := hA.1; simp at this
  | v :: l, rs, ρ, o :: L, k, h, hr, hA => by
    obtain ⟨a1, a2⟩ := t_loc_tl hA
    replace h : t_al1 rs v (fun v' rs' => t_als l rs' (fun A rs2 => k (v' :: A) rs2)) = true := h
    obtain ⟨v', rs', ρ', q1, q2, q3, q4⟩ := t_al1_ok h hr a1
    obtain ⟨A, rs2, ρ2, p1, p2, p3, p4⟩ := t_als_ok q4 q2 (a2.ext q1)
    refine ⟨v' :: A, rs2, ρ2, q1.tr p1, p2, t_loc_cons ?_ p3, p4⟩
    rcases q3 with q3 | ⟨u, e1, e2⟩
    · exact Or.inl q3
    · exact Or.inr ⟨u, e1, e2.ext p1⟩
theorem t_fls_ok : ∀ {l : tF} {rs : tB} {ρ : List Int} {k : tF → tB → Bool}, t_fls l rs k = true → t_okr ρ rs → t_fac ρ l cs → (∀ e ∈ l, t_isI e.2 = true) → ∃ F rs' ρ', t_ext ρ ρ' ∧ t_okr ρ' rs' ∧ t_fac ρ' F cs ∧ F.map (fun e => t_pv cs e.1) = l.map (fun e => t_pv cs e.1) ∧ k F rs' = true
  | [], rs, ρ, k, h, hr, hF, _ => ⟨[], rs, ρ, t_ext.rf ρ, hr, hF, rfl, h⟩
  | e :: l, rs, ρ, k, h, hr, hF, hI => by
    unfold t_fac at hF
    rw [List.forall_mem_cons] at hF
    rw [List.forall_mem_cons] at hI
    obtain ⟨⟨hs, u, hu, hg⟩, hF'⟩ := hF
    replace h : t_al1 rs e.2 (fun v' rs' => t_fls l rs' (fun A rs2 => k ((e.1, v') :: A) rs2)) = true := h
    obtain ⟨key, v⟩ := e
    dsimp only at h hs hu hg hI
    match v, hI.1, h, hg with
    | .inl x, _, h, ⟨z, hz, hg2⟩ =>
      subst hz
      replace h : t_name rs x (fun x' rs' => t_fls l rs' (fun A rs2 => k ((key, .inl x') :: A) rs2)) = true := h
      obtain ⟨x', rs', ρ', q1, q2, q3, q4⟩ := t_name_ok h hr hg2
      obtain ⟨F, rs2, ρ2, p1, p2, p3, p4, p5⟩ := t_fls_ok q1 q3 (t_fac.ext q2 hF') hI.2
      exact ⟨_, rs2, ρ2, q2.tr p1, p2, t_fac_cons (e := (key, .inl x')) p3 hs hu ⟨z, rfl, q4.ext p1⟩, by rw [List.map_cons, List.map_cons, p4], p5⟩
theorem t_loc_sub {ρ0 : List Int} {tms : List ta} (hx : t_ext ρ0 ρ) (hn : ∀ tm ∈ tms, t_nmk ρ0.length tm = true) (hA : t_loc ρ tms L) : t_loc ρ0 tms L := ⟨hA.1, fun i tm hi => by
  rcases hA.2 i tm hi with q | ⟨u, q1, q2⟩
  · exact Or.inl q
  · exact Or.inr ⟨u, q1, t_sbn hx (hn tm (List.mem_of_getElem? hi)) q2⟩⟩
theorem t_fok_ok {n : Nat} {e : Nat × ta} (h : t_fok n e = true) : t_sngl (e.1 / 1024) ∧ t_isI e.2 = true ∧ t_nmk n e.2 = true := by
  unfold t_fok at h
  rw [t_and_iff, t_and_iff] at h
  exact ⟨t_sg_ok h.1, h.2⟩
theorem t_leaf_hd {Sv : Option (Int × List Int × List ta)} {nd : tN} {ρ0 : List Int} (h : t_leaf Sv A F tk rs nd = true) (hw : t_wn ρ0.length nd = true) (hx : t_ext ρ0 ρ) (hst : t_stt ρ rs F tk cs) (hA : t_loc ρ A L) : t_Hd ρ0 nd L cs := by
  unfold t_wn at hw
  rw [t_and_iff, t_all_iff, t_all_iff] at hw
  unfold t_leaf at h
  obtain ⟨h1, h⟩ := t_bool h
  obtain ⟨h2, h⟩ := t_bool h
  obtain ⟨h3, h⟩ := t_bool h
  rw [t_all_iff] at h2 h3
  refine ⟨t_loc_sub hx hw.1 (t_lsA_ok hst.1 h1 hA), fun e he => ?_, fun i hi => hst.2.2.1 i (t_mem_iff.mp (h3 i hi)), hst.2.2.2⟩
  obtain ⟨f1, f2, f3⟩ := t_fok_ok (hw.2 e he)
  obtain ⟨g1, u, g2, g3⟩ := t_lfv_ok f2 f1 (h2 e he) hst
  exact ⟨g1, u, g2, t_sbn hx f3 g3⟩
theorem t_leaf_ms {c0 : Int} {cc X : List Int} {S : List ta} {nd : tN} (h : t_leaf (some (c0, cc, S)) A F tk rs nd = true) (hst : t_stt ρ rs F tk cs) (hA : t_loc ρ A L) (hS : t_rp ρ S X) : t_mv nd L cs + 1 ≤ c0 + t_dot cc X := by
  unfold t_leaf at h
  obtain ⟨h1, h⟩ := t_bool h
  obtain ⟨h2, h⟩ := t_bool h
  obtain ⟨h3, h⟩ := t_bool h
  dsimp only at h
  have hV : t_rp ρ (A ++ nd.2.2.1.map (fun e => t_fv F tk e.1)) (t_vec nd L cs) := (t_rp_loc hA).app (t_rp_map (fun e he y hy => by
    obtain ⟨v, q1, q2⟩ := t_fv_ok hy hst
    rw [t_pv_of q1]
    exact q2))
  obtain ⟨d, h4, h5⟩ := t_mes_ok hst.1 h hS hV
  rw [t_le_iff] at h4
  have h4 : (1 : Int) ≤ d := h4
  have h5 : d ≤ c0 - nd.2.2.2.2.1 + t_dot cc X - t_dot nd.2.2.2.2.2 (t_vec nd L cs) := h5
  unfold t_mv
  omega
theorem t_stp_ok {nds : List tN} {Sv : Option (Int × List Int × List ta)} (h : t_stp nds Sv pc A st F tk rs = some true) : st = [] ∧ ∃ nd ∈ nds, nd.1 = pc ∧ t_leaf Sv A F tk rs nd = true := by
  unfold t_stp at h
  split at h
  · split at h
    · have h := Option.some.inj h
      rw [t_any_iff] at h
      obtain ⟨nd, h1, h2⟩ := h
      rw [t_and_iff] at h2
      exact ⟨rfl, nd, h1, Nat.eq_of_beq_eq_true h2.1, h2.2⟩
    · cases h
  · cases h
theorem t_tok_l {c : Nat} : ∀ {l : List (Int × Int)} {i : Nat}, t_tkl F rs c l i = true → ∀ (k : Nat) (a b : Int), l[k]? = some (a, b) → ∃ x, t_fv F [] (t_key c (i + k)) = .inl x ∧ t_wi rs x a b = true
  | [], i, _, k, a, b, hk => by simp at hk
  | q :: l, i, h, k, a, b, hk => by
    replace h : (match t_fv F [] (t_key c i) with
      | .inl x => match t_wi rs x q.1 q.2 with
        | true => t_tkl F rs c l (Nat.succ i)
        | false => false
      | _ => false) = true := h
    split at h
    · rename_i x hx
      obtain ⟨h1, h2⟩ := t_bool h
      cases k with
      | zero =>
        cases hk
        exact ⟨x, hx, h1⟩
      | succ k =>
        obtain ⟨y, g1, g2⟩ := t_tok_l h2 k a b hk
        refine ⟨y, ?_, g2⟩
        rw [show i + (k + 1) = Nat.succ i + k by omega]
        exact g1
    · cases h
theorem t_exit_ok {c : tCon} {ρ0 : List Int} {a : Option ta} {v : Option Value} (hw : t_wf c = true) (hl : ρ0.length = t_nc c) (h : t_exit c rs F tk a = true) (hx : t_ext ρ0 ρ) (hst : t_stt ρ rs F tk cs') (hv : t_vo ρ a v) (hf : t_frm c.2.2.2.2.1 cs cs') : t_Pst c ρ0 cs v cs' := by
  unfold t_wf at hw
  simp only [t_and_iff, t_all_iff] at hw
  obtain ⟨w1, w2, w3, w4⟩ := hw
  unfold t_exit at h
  obtain ⟨h1, h2⟩ := t_bool h
  rw [t_any_iff] at h1
  rw [t_all_iff] at h2
  obtain ⟨o, ho, h3⟩ := h1
  obtain ⟨h4, h5⟩ := t_bool h3
  rw [t_all_iff] at h5
  have hok := w3 o ho
  unfold t_ook at hok
  rw [t_and_iff, t_all_iff, ← hl] at hok
  refine ⟨hst.2.2.2, hf, ⟨o, ho, ?_, fun e he => ?_⟩, fun i hi => ?_⟩
  · obtain ⟨oa, of⟩ := o
    dsimp only at h4 hok ⊢
    unfold t_lfo at h4
    match oa, a, h4, hv, hok.1 with
    | none, none, _, hv, _ => exact hv
    | none, some _, h4, _, _ => cases h4
    | some _, none, h4, _, _ => cases h4
    | some tm, some w, h4, ⟨u, hu, hg⟩, hn => exact ⟨u, hu, t_sbn hx hn (t_lf_ok h4 hst.1 hg)⟩
  · obtain ⟨f1, f2, f3⟩ := t_fok_ok (hok.2 e he)
    obtain ⟨g1, u, g2, g3⟩ := t_lfv_ok f2 f1 (h5 e he) hst
    exact ⟨g1, u, g2, t_sbn hx f3 g3⟩
  · have h6 := h2 i hi
    split at h6
    · rename_i hm
      exact hst.2.2.1 i (t_mem_iff.mp hm)
    · obtain ⟨s1, s2⟩ := t_ars_ok (w4 i hi) hst.2.2.2
      refine ⟨s1, s2, fun k a b hk => ?_⟩
      have hk2 : k < 1024 := by
        have := (List.getElem?_eq_some_iff.mp hk).1
        rw [t_TT_len] at this
        omega
      unfold t_tok at h6
      obtain ⟨x, g1, g2⟩ := t_tok_l h6 k a b hk
      rw [Nat.zero_add] at g1
      obtain ⟨z, e1, e2⟩ := t_fv_ok (ρ := ρ) (rs := rs) (cs := cs') g1 ⟨hst.1, hst.2.1, (fun c hc => by cases hc), hst.2.2.2⟩
      obtain ⟨k1, k2⟩ := t_key_d (c := i) hk2
      rw [k1, k2] at e1
      exact ⟨z, e1, t_wi_ok g2 hst.1 e2⟩
theorem t_chk_ok {C : List tCon} {c : tCon} {nds : List tN} {n : Nat} (h : t_chk C c nds n = true) (hC : ∀ c ∈ C, t_Con c) : t_Con c := by
  unfold t_chk at h
  simp only [t_and_iff, t_all_iff] at h
  obtain ⟨hw, hwn, hce, hcn⟩ := h
  refine ⟨hw, fun mi hmi us cs hT hin hP hK => ?_⟩
  have hl : (t_r0 c us cs).length = t_nc c := by
    unfold t_r0 t_nc t_pvs
    rw [List.length_append, List.length_map, t_nums_len hin, t_len_eq]
    rfl
  have hex : ∀ {ρ : List Int} {cs1 : zz_W}, t_ext (t_r0 c us cs) ρ → t_frm c.2.2.2.2.1 cs cs1 → t_KH ρ cs1 c.2.2.2.2.1 (t_exit c) (t_Pst c (t_r0 c us cs) cs) := fun hx hf ρ' rs' F' tk' a v cs' e1 e2 e3 e4 e5 => t_exit_ok hw hl e5 (hx.tr e1) e2 e4 (t_frm_tr hf e3)
  have hbody : ∀ nd ∈ nds, ∀ (L : List (Option Value)) (cs1 : zz_W), t_Hd (t_r0 c us cs) nd L cs1 → t_frm c.2.2.2.2.1 cs cs1 → 0 ≤ t_mv nd L cs1 ∧ ((∀ nd' ∈ nds, ∀ (L' : List (Option Value)) (cs2 : zz_W), t_Hd (t_r0 c us cs) nd' L' cs2 → t_frm c.2.2.2.2.1 cs cs2 → t_mv nd' L' cs2 + 1 ≤ t_mv nd L cs1 → tr_run mi (nd'.1, L', [], cs2, 0, 0) (t_Pst c (t_r0 c us cs) cs)) → tr_run mi (nd.1, L, [], cs1, 0, 0) (t_Pst c (t_r0 c us cs) cs)) := by
    intro nd hnd L cs1 hHd hfr
    have h1 := hcn nd hnd
    have hwn1 := hwn nd hnd
    unfold t_wn at hwn1
    rw [t_and_iff, t_all_iff, t_all_iff] at hwn1
    unfold t_cn at h1
    rw [t_nth_eq, hmi] at h1
    dsimp only at h1
    replace h1 : t_g1 c.2.1 [] (fun _ rs => t_p0 c.2.2.1 rs [] (fun _ rs => t_als nd.2.1 rs (fun A rs => t_fls nd.2.2.1 rs (fun F rs => match t_pos rs nd.2.2.2.2.1 nd.2.2.2.2.2 (A ++ F.map (fun e => e.2)) with
      | true => t_body C c.2.2.2.2.1 (t_ev C c.2.2.2.2.1 n) (t_stp nds (some (nd.2.2.2.2.1, nd.2.2.2.2.2, A ++ F.map (fun e => e.2)))) mi nd.1 A [] F nd.2.2.2.1 rs (t_exit c)
      | false => false)))) = true := h1
    obtain ⟨A0, rs0, q1, -, h1⟩ := t_g1_ok h1 (ρ := []) ⟨rfl, fun j a b hj => by simp at hj⟩ hin
    rw [List.nil_append] at q1
    obtain ⟨F0, rs1, q2, -, h1⟩ := t_p0_ok h1 q1 (fun e he => by cases he) hP
    obtain ⟨A, rs2, ρ2, x2, q3, q4, h1⟩ := t_als_ok h1 q2 hHd.1
    obtain ⟨F, rs3, ρ3, x3, q5, q6, q7, h1⟩ := t_fls_ok (cs := cs1) h1 q3 (t_fac.ext x2 hHd.2.1) (fun e he => (t_fok_ok (hwn1.2 e he)).2.1)
    obtain ⟨hpos, h1⟩ := t_bool h1
    have x0 : t_ext (t_r0 c us cs) ρ3 := x2.tr x3
    have hst : t_stt ρ3 rs3 F nd.2.2.2.1 cs1 := ⟨q5, q6, hHd.2.2.1, hHd.2.2.2⟩
    have hA : t_loc ρ3 A L := q4.ext x3
    have hrp : t_rp ρ3 (A ++ F.map (fun e => e.2)) (t_vec nd L cs1) := by
      unfold t_vec
      rw [← q7]
      refine (t_rp_loc hA).app (t_rp_map (fun e he y hy => ?_))
      obtain ⟨-, u, e1, e2⟩ := q6 e he
      rw [hy] at e2
      obtain ⟨z, rfl, hz⟩ := e2
      rw [t_pv_of e1]
      exact hz
    refine ⟨?_, fun IH => ?_⟩
    · unfold t_pos at hpos
      obtain ⟨d, g1, g2⟩ := t_mes_ok q5 hpos hrp hrp
      rw [t_le_iff] at g1
      have g1 : (0 : Int) ≤ d := g1
      rw [t_dot_z] at g2
      unfold t_mv
      omega
    · refine t_body_ok hC (t_ev_ok hC n) h1 hst hA trivial ?_ (hex x0 hfr)
      intro ρ' pc' A' st' F' tk' rs' L' t' cs' e1 e2 e3 e4 e5 e6
      obtain ⟨rfl, nd', g1, rfl, g3⟩ := t_stp_ok e6
      rw [t_rS_nil e4]
      exact IH nd' g1 L' cs' (t_leaf_hd g3 (by rw [hl]; exact hwn nd' g1) (x0.tr e1) e2 e3) (t_frm_tr hfr e5) (t_leaf_ms g3 e2 e3 (hrp.ext e1))
  have hloop : ∀ m : Nat, ∀ nd ∈ nds, ∀ (L : List (Option Value)) (cs1 : zz_W), t_Hd (t_r0 c us cs) nd L cs1 → t_frm c.2.2.2.2.1 cs cs1 → t_mv nd L cs1 < m → tr_run mi (nd.1, L, [], cs1, 0, 0) (t_Pst c (t_r0 c us cs) cs) := by
    intro m
    induction m with
    | zero =>
      intro nd hnd L cs1 hHd hfr hm
      have h0 := (hbody nd hnd L cs1 hHd hfr).1
      exact absurd hm (by omega)
    | succ m ih =>
      intro nd hnd L cs1 hHd hfr hm
      refine (hbody nd hnd L cs1 hHd hfr).2 (fun nd' hnd' L' cs2 h1 h2 h3 => ih nd' hnd' L' cs2 h1 h2 (by omega))
  unfold t_ce at hce
  rw [t_nth_eq, hmi] at hce
  dsimp only at hce
  obtain ⟨hmL, hce⟩ := t_bool hce
  have hmL := Nat.le_of_ble_eq_true hmL
  replace hce : t_g1 c.2.1 [] (fun A rs => t_p0 c.2.2.1 rs [] (fun F rs => t_ev C c.2.2.2.2.1 n (t_stp nds none) mi 0 (t_ent A mi.2.2.1) [] F c.2.2.2.1 rs (t_exit c))) = true := hce
  obtain ⟨A, rs0, q1, qS, h1⟩ := t_g1_ok hce (ρ := []) ⟨rfl, fun j a b hj => by simp at hj⟩ hin
  rw [List.nil_append] at q1 qS
  obtain ⟨F, rs1, q2, q3, h1⟩ := t_p0_ok h1 q1 (fun e he => by cases he) hP
  have xS : t_ext (t_nums us) (t_r0 c us cs) := ⟨_, rfl⟩
  have hcs : t_css A ≤ mi.2.2.1 := by
    rw [← t_en_len qS]
    have : ∀ {args : List ta} {us : List Value}, t_inA args us → (zz_en us).length = t_css args := by
      intro args
      induction args with
      | nil =>
        intro us h
        cases us with
        | nil => rfl
        | cons u us => exact h.elim
      | cons tm args ih =>
        intro us h
        cases us with
        | nil => exact h.elim
        | cons u us =>
          have i2 := ih h.2
          have h1 := h.1
          match tm, h1 with
          | .inl (j, a, b), ⟨v, hu, _⟩ =>
            subst hu
            show (some (Value.int v) :: zz_en us).length = Nat.succ (t_css args)
            rw [List.length_cons, i2]
          | .inr (.inl (j, a, b)), ⟨v, hu, _⟩ =>
            subst hu
            show (some (Value.long v) :: none :: zz_en us).length = Nat.succ (Nat.succ (t_css args))
            rw [List.length_cons, List.length_cons, i2]
          | .inr (.inr (.inl r)), ⟨v, hu, _⟩ =>
            subst hu
            show (some (Value.ref v) :: zz_en us).length = Nat.succ (t_css args)
            rw [List.length_cons, i2]
    rw [this hin]
    exact hmL
  refine t_ev_ok hC n _ _ _ _ _ _ _ _ _ h1 (t_r0 c us cs) _ _ _ _ ⟨q2, q3, hK, hT⟩ (t_ent_ok (t_rS.ext xS qS) hcs) trivial ?_ (hex (t_ext.rf _) (t_frm_rf _ cs))
  intro ρ' pc' A' st' F' tk' rs' L' t' cs' e1 e2 e3 e4 e5 e6
  obtain ⟨rfl, nd', g1, rfl, g3⟩ := t_stp_ok e6
  rw [t_rS_nil e4]
  exact hloop (t_mv nd' L' cs' + 1).toNat nd' g1 L' cs' (t_leaf_hd g3 (by rw [hl]; exact hwn nd' g1) e1 e2 e3) e5 (by omega)
end TS10
