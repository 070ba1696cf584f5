/-! the typed machine is sound: which method a call comes to, its arguments -/
section TS7
variable {ρ : List Int} {rs : tB} {F : tF} {tk : List Nat} {cs : zz_W} {A : tL} {L : List (Option Value)} {st : List ta} {t : List Value} {mi mj : zz_Mi} {Mw pc : Nat} {P : Option Value → zz_W → Prop}
theorem t_fnd_eq (pc : Nat) : ∀ ch : List zz_I, t_fnd pc ch = zz_fnd pc ch
  | [] => rfl
  | e :: r => by
    have ih := t_fnd_eq pc r
    show (match Nat.beq e.1 pc with | true => some e | false => t_fnd pc r) = (match Nat.beq e.1 pc with | true => some e | false => zz_fnd pc r)
    rw [ih]
theorem t_fetch_eq (code : List (List zz_I)) (pc : Nat) : t_fetch code pc = zz_fetch code pc := by
  unfold t_fetch zz_fetch
  rw [t_nth_eq]
  show (match code[pc / 16]? with | some ch => t_fnd pc ch | none => none) = _
  cases code[pc / 16]? with
  | none => rfl
  | some ch => exact t_fnd_eq pc ch
theorem t_rc_ok {n ci : Nat} (h : t_rc st n = some ci) (hS : t_rS ρ st t) (hT : t_ty cs) : zz_rc n t cs = some ci := by
  unfold t_rc at h
  rw [t_nth_eq] at h
  split at h
  · rename_i ro hro
    rw [t_nth_eq] at h
    split at h
    · rename_i c o b ci' fts hr
      cases h
      obtain ⟨u, hu, hg⟩ := t_rS_nth hS hro
      obtain ⟨i, rfl, hi⟩ := hg
      obtain ⟨d, hd, hc⟩ := t_ref_ok hT hi hr
      match d, hd, hc with
      | .inr (.inr (cj, fs)), hd, ⟨e1, e2, e3⟩ =>
        subst e1
        unfold zz_rc
        rw [hu]
        dsimp only
        rw [hd]
    · cases h
  · cases h
theorem t_ca_ok {ins : Instr} {r : List Nat} {j : Nat} (h : t_ca ins r (t_rc st) = some (j, mj)) (hS : t_rS ρ st t) (hT : t_ty cs) : zz_ca ins r t cs = some mj ∧ zz_mts[j]? = some mj ∧ (∀ (q : Nat × Nat × Nat × Nat) (p pc len : Nat) (v0 : Value) (L : List (Option Value)), zz_one q (p, ins, len, r, v0) (pc, L, t, cs, 0, 0) = none) ∧ (∀ ret : Option FieldType, zz_rt1 ins ret t = none) := by
  unfold t_ca at h
  split at h
  · split at h
    · unfold t_c0 at h
      rw [t_nth_eq] at h
      split at h
      · rename_i mi hm
        cases h
        exact ⟨hm, hm, fun _ _ _ _ _ _ => rfl, fun _ => rfl⟩
      · cases h
    · unfold t_c0 at h
      rw [t_nth_eq] at h
      split at h
      · rename_i mi hm
        cases h
        exact ⟨hm, hm, fun _ _ _ _ _ _ => rfl, fun _ => rfl⟩
      · cases h
    · cases h
  · split at h
    · unfold t_c1 at h
      rw [t_nth_eq] at h
      split at h
      · rename_i mi hm
        split at h
        · rename_i ci hci
          cases h
          refine ⟨?_, hm, fun _ _ _ _ _ _ => rfl, fun _ => rfl⟩
          simp only [zz_ca]
          rw [hm]
          dsimp only
          rw [t_rc_ok hci hS hT]
        · cases h
      · cases h
    · unfold t_c1 at h
      rw [t_nth_eq] at h
      split at h
      · rename_i mi hm
        split at h
        · rename_i ci hci
          cases h
          refine ⟨?_, hm, fun _ _ _ _ _ _ => rfl, fun _ => rfl⟩
          simp only [zz_ca]
          rw [hm]
          dsimp only
          rw [t_rc_ok hci hS hT]
        · cases h
      · cases h
    · cases h
  · split at h
    · unfold t_c2 at h
      rw [t_nth_eq] at h
      split at h
      · rename_i mi hm
        split at h
        · rename_i ci hci
          split at h
          · rename_i hb
            cases h
            refine ⟨?_, hm, fun _ _ _ _ _ _ => rfl, fun _ => rfl⟩
            simp only [zz_ca]
            rw [hm]
            dsimp only
            rw [t_rc_ok hci hS hT]
            dsimp only
            rw [if_pos (Nat.eq_of_beq_eq_true hb)]
          · cases h
        · cases h
      · cases h
    · unfold t_c2 at h
      rw [t_nth_eq] at h
      split at h
      · rename_i mi hm
        split at h
        · rename_i ci hci
          split at h
          · rename_i hb
            cases h
            refine ⟨?_, hm, fun _ _ _ _ _ _ => rfl, fun _ => rfl⟩
            simp only [zz_ca]
            rw [hm]
            dsimp only
            rw [t_rc_ok hci hS hT]
            dsimp only
            rw [if_pos (Nat.eq_of_beq_eq_true hb)]
          · cases h
        · cases h
      · cases h
    · rw [t_nth_eq] at h
      split at h
      · rename_i mx hmx
        split at h
        · rename_i ci hci
          split at h
          · rename_i k' w hal
            rw [t_nth_eq] at h
            split at h
            · rename_i mi hm
              split at h
              · rename_i hb
                cases h
                refine ⟨?_, hm, fun _ _ _ _ _ _ => rfl, fun _ => rfl⟩
                simp only [zz_ca]
                rw [hmx]
                dsimp only
                rw [t_rc_ok hci hS hT]
                dsimp only
                rw [hal]
                dsimp only
                rw [hm]
                dsimp only
                rw [if_pos (Nat.eq_of_beq_eq_true hb)]
              · cases h
            · cases h
          · cases h
        · cases h
      · cases h
    · cases h
  · cases h
theorem t_spl_ok {k : List ta → List ta → Bool} : ∀ {n : Nat} {st acc : List ta}, t_spl n st acc k = true → ∃ s1 rest, st = s1 ++ rest ∧ s1.length = n ∧ k (s1.reverse ++ acc) rest = true
  | 0, st, acc, h => ⟨[], st, rfl, rfl, h⟩
  | n + 1, [], acc, h => by cases h
  | n + 1, v :: s, acc, h => by
    obtain ⟨s1, rest, h1, h2, h3⟩ := t_spl_ok (n := n) (st := s) (acc := v :: acc) h
    refine ⟨v :: s1, rest, by rw [h1]; rfl, by rw [List.length_cons, h2], ?_⟩
    rw [List.reverse_cons, List.append_assoc]
    exact h3
theorem t_rS_split : ∀ {s1 rest : List ta} {t : List Value}, t_rS ρ (s1 ++ rest) t → ∃ t1 t2, t = t1 ++ t2 ∧ t1.length = s1.length ∧ t_rS ρ s1 t1 ∧ t_rS ρ rest t2
  | [], rest, t, h => ⟨[], t, rfl, rfl, trivial, h⟩
  | v :: s1, rest, t, h => by
    obtain ⟨u, t', rfl, hg, hS⟩ := t_rS_cons h
    obtain ⟨t1, t2, rfl, h2, h3, h4⟩ := t_rS_split (s1 := s1) hS
    exact ⟨u :: t1, t2, rfl, by rw [List.length_cons, List.length_cons, h2], ⟨hg, h3⟩, h4⟩
theorem t_rS_rev : ∀ {s : List ta} {t : List Value}, t_rS ρ s t → t_rS ρ s.reverse t.reverse
  | [], t, h => by
    rw [t_rS_nil h]
    exact trivial
  | v :: s, t, h => by
    obtain ⟨u, t', rfl, hg, hS⟩ := t_rS_cons h
    rw [List.reverse_cons, List.reverse_cons]
    exact t_rS_app (t_rS_rev hS) ⟨hg, trivial⟩
theorem t_en_len : ∀ {s : List ta} {us : List Value}, t_rS ρ s us → (zz_en us).length = t_css s
  | [], us, h => by
    rw [t_rS_nil h]
    rfl
  | v :: s, us, h => by
    obtain ⟨u, us', rfl, hg, hS⟩ := t_rS_cons h
    have ih := t_en_len hS
    have hc := t_cat_of hg
    show (if u.category = 2 then some u :: none :: zz_en us' else some u :: zz_en us').length = (match t_isL v with | true => Nat.succ (Nat.succ (t_css s)) | false => Nat.succ (t_css s))
    cases hv : t_isL v with
    | true =>
      rw [hv] at hc
      replace hc : u.category = 2 := by rw [hc]; rfl
      rw [if_pos hc, List.length_cons, List.length_cons, ih]
    | false =>
      rw [hv] at hc
      replace hc : u.category = 1 := by rw [hc]; rfl
      rw [if_neg (by rw [hc]; decide), List.length_cons, ih]
theorem t_loc_cons {v : ta} {l : Option Value} (h : v = t_top ∨ ∃ u, l = some u ∧ tgv ρ v u) (hA : t_loc ρ A L) : t_loc ρ (v :: A) (l :: L) := by
  refine ⟨by rw [List.length_cons, List.length_cons, hA.1], fun i t hi => ?_⟩
  cases i with
  | zero =>
    cases hi
    rcases h with h | ⟨u, h1, h2⟩
    · exact Or.inl h
    · exact Or.inr ⟨u, by rw [h1]; rfl, h2⟩
  | succ i => exact hA.2 i t hi
theorem t_loc_tl {v : ta} {l : Option Value} (h : t_loc ρ (v :: A) (l :: L)) : (v = t_top ∨ ∃ u, l = some u ∧ tgv ρ v u) ∧ t_loc ρ A L := by
  refine ⟨?_, by have := h.1; simpa using this, fun i t hi => h.2 (i + 1) t hi⟩
  rcases h.2 0 v rfl with q | ⟨u, q1, q2⟩
  · exact Or.inl q
  · exact Or.inr ⟨u, by simpa using q1, q2⟩
theorem t_tops : ∀ n : Nat, t_loc ρ (t_ent [] n) (List.replicate n none)
  | 0 => ⟨rfl, fun i t hi => by cases hi⟩
  | n + 1 => t_loc_cons (Or.inl rfl) (t_tops n)
theorem t_ent_ok : ∀ {args : List ta} {us : List Value} {n : Nat}, t_rS ρ args us → t_css args ≤ n → t_loc ρ (t_ent args n) (zz_ent n us)
  | [], us, n, h, _ => by
    rw [t_rS_nil h]
    show t_loc ρ (t_ent [] n) (List.replicate (n - 0) none)
    rw [Nat.sub_zero]
    exact t_tops n
  | v :: args, us, n, h, hn => by
    obtain ⟨u, us', rfl, hg, hS⟩ := t_rS_cons h
    have hc := t_cat_of hg
    have hl := t_en_len hS
    replace hn : (match t_isL v with | true => Nat.succ (Nat.succ (t_css args)) | false => Nat.succ (t_css args)) ≤ n := hn
    show t_loc ρ (match t_isL v with | true => v :: t_top :: t_ent args (Nat.pred (Nat.pred n)) | false => v :: t_ent args (Nat.pred n)) (zz_ent n (u :: us'))
    unfold zz_ent
    rw [show zz_en (u :: us') = if u.category = 2 then some u :: none :: zz_en us' else some u :: zz_en us' from rfl]
    cases hv : t_isL v with
    | true =>
      rw [hv] at hc hn
      replace hc : u.category = 2 := by rw [hc]; rfl
      dsimp only at hn ⊢
      have hn : t_css args + 2 ≤ n := hn
      have ih := t_ent_ok (n := n - 2) hS (by omega)
      rw [if_pos hc, List.length_cons, List.length_cons, List.cons_append, List.cons_append]
      refine t_loc_cons (Or.inr ⟨u, rfl, hg⟩) (t_loc_cons (Or.inl rfl) ?_)
      rw [show Nat.pred (Nat.pred n) = n - 2 from rfl, show n - ((zz_en us').length + 1 + 1) = n - 2 - (zz_en us').length by omega]
      exact ih
    | false =>
      rw [hv] at hc hn
      replace hc : u.category = 1 := by rw [hc]; rfl
      dsimp only at hn ⊢
      have hn : t_css args + 1 ≤ n := hn
      have ih := t_ent_ok (n := n - 1) hS (by omega)
      rw [if_neg (by rw [hc]; decide), List.length_cons, List.cons_append]
      refine t_loc_cons (Or.inr ⟨u, rfl, hg⟩) ?_
      rw [show Nat.pred n = n - 1 from rfl, show n - ((zz_en us').length + 1) = n - 1 - (zz_en us').length by omega]
      exact ih
theorem t_cok_ok {q : Nat × Nat × Nat × Nat} {s1 rest : List ta} {t1 t2 : List Value} (h : t_cok q mj s1.reverse rest = true) (hn : s1.length = zz_cn mj) (h1 : t_rS ρ s1 t1) (h2 : t_rS ρ rest t2) : (∀ (pc : Nat) (L : List (Option Value)) (cs : zz_W), zz_cok2 q mj (pc, L, t1 ++ t2, cs, 0, 0) = true) ∧ (mj.2.2.2.2.2.2.1.1 = 0 ∧ mj.2.2.2.2.2.2.1.2.1 = 0) ∧ (t1 ++ t2).take (zz_cn mj) = t1 ∧ (t1 ++ t2).drop (zz_cn mj) = t2 ∧ t_css s1.reverse ≤ mj.2.2.1 := by
  unfold t_cok at h
  simp only [t_and_iff] at h
  obtain ⟨a1, a2, a3, a4, a5, a6⟩ := h
  have a1 := Nat.le_of_ble_eq_true a1
  have a2 := Nat.eq_of_beq_eq_true a2
  have a3 := Nat.eq_of_beq_eq_true a3
  have a4 := Nat.le_of_ble_eq_true a4
  have a5 := Nat.le_of_ble_eq_true a5
  have a6 := Nat.le_of_ble_eq_true a6
  have hl : t1.length = zz_cn mj := by rw [← t_rS_len h1, hn]
  have e1 : (t1 ++ t2).take (zz_cn mj) = t1 := by rw [← hl, List.take_left']; rfl
  have e2 : (t1 ++ t2).drop (zz_cn mj) = t2 := by rw [← hl, List.drop_left']; rfl
  refine ⟨fun pc L cs => ?_, ⟨a2, a3⟩, e1, e2, a4⟩
  simp only [zz_cok2, Bool.and_eq_true, decide_eq_true_eq]
  rw [e1, e2, t_css_of h2, t_en_len (t_rS_rev h1), a2, a3]
  refine ⟨by rw [List.length_append]; omega, a1, Nat.zero_le _, Nat.zero_le _, a4, a5, ?_⟩
  exact a6
end TS7
