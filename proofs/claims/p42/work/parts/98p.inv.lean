/-! what holds between two calls of the law -/
-- the reference's number of turns, has it an image, the letters of the class and of the reference
noncomputable def l_kT : Nat := 277538
noncomputable def l_kH : Nat := 277532
noncomputable def l_kL : Nat := 1032
noncomputable def l_kM : Nat := 277542
noncomputable def l_nb : List (Nat × Int × Int) := [(0, .ofNat 0, .ofNat 7), (2, .ofNat 0, .ofNat 6), (73, .ofNat 1, .ofNat 9), (75, .ofNat 1, .ofNat 9), (77, .ofNat 1, .ofNat 9), (79, .ofNat 1, .ofNat 9), (81, .ofNat 1, .ofNat 9), (83, .ofNat 0, .ofNat 6), (84, .ofNat 0, .ofNat 6), (85, .ofNat 0, .ofNat 4), (88, .ofNat 0, .ofNat 6), (89, .ofNat 0, .ofNat 6), (90, .ofNat 0, .ofNat 4), (93, .ofNat 0, .ofNat 6), (94, .ofNat 0, .ofNat 6), (95, .ofNat 0, .ofNat 4), (98, .ofNat 0, .ofNat 6), (99, .ofNat 0, .ofNat 6), (100, .ofNat 0, .ofNat 4), (103, .ofNat 0, .ofNat 6), (104, .ofNat 0, .ofNat 6), (105, .ofNat 0, .ofNat 4), (108, .ofNat 0, .ofNat 6), (109, .ofNat 0, .ofNat 6), (110, .ofNat 0, .ofNat 4)]
noncomputable def l_rows (T : Nat) : List (Nat × Int × Int) := (List.range T).flatMap (fun t => l_nb.map (fun q => (299008 + 113 * t + q.1, q.2)))
noncomputable def l_inv (T : Nat) (h : Int) (cs : zz_W) : Prop := t_ty cs ∧ t_inP cs [(l_kT, .ofNat T, .ofNat T), (l_kH, h, h)] ∧ t_inP cs (l_rows T) ∧ (h = 0 ∨ t_tks [291] cs)
noncomputable def l_J (n m : Int) (cs : zz_W) : Prop := (∃ T h, T ≤ 8 ∧ (h = 0 ∨ h = 1) ∧ l_inv T h cs) ∧ t_inP cs [(l_kL, n, n)] ∧ t_inP cs [(l_kM, m, m)]
noncomputable def l_in (q : List (Nat × Int × Int)) (p : Nat × Int × Int) : Bool := t_any (fun r => t_and (Nat.beq r.1 p.1) (t_and (t_le p.2.1 r.2.1) (t_le r.2.2 p.2.2))) q
noncomputable def l_fct (f : tF) (p : Nat × Int × Int) : Bool := t_any (fun e => match Nat.beq e.1 p.1 with
  | true => match e.2 with
    | .inl (j, a, b) => t_and (Nat.beq j 0) (t_and (t_le p.2.1 a) (t_le b p.2.2))
    | _ => false
  | false => false) f
/-- a slot that is what it was when the call came -/
noncomputable def l_sam (c : tCon) (f : tF) (key : Nat) : Bool := t_any (fun e => match Nat.beq e.1 key with
  | true => match e.2 with
    | .inl (j, a, b) => t_and (t_and (t_eq a (.ofNat 0)) (t_eq b (.ofNat 0))) (match Nat.blt (t_cnt c.2.1) j with
      | true => match t_nth c.2.2.1 (Nat.pred (Nat.sub j (t_cnt c.2.1))) with
        | some p => Nat.beq p.1 key
        | none => false
      | false => false)
    | _ => false
  | false => false) f
noncomputable def l_o1 (T : Nat) (c : tCon) (f : tF) (T' : Nat) : Bool := match l_fct f (l_kT, .ofNat T', .ofNat T') with
  | true => true
  | false => t_and (Nat.beq T T') (match t_keep c.2.2.2.2.1 l_kT with
    | true => true
    | false => l_sam c f l_kT)
noncomputable def l_o2 (h : Int) (c : tCon) (f : tF) (h' : Int) : Bool := match l_fct f (l_kH, h', h') with
  | true => true
  | false => t_and (t_eq h h') (t_keep c.2.2.2.2.1 l_kH)
noncomputable def l_o3 (T : Nat) (c : tCon) (f : tF) (T' : Nat) : Bool := match t_and (Nat.ble T' T) (t_keep c.2.2.2.2.1 299008) with
  | true => true
  | false => t_all (l_fct f) (l_rows T')
noncomputable def l_o4 (h : Int) (c : tCon) (h' : Int) : Bool := match t_eq h' (.ofNat 0) with
  | true => true
  | false => match t_mem 291 c.2.2.2.2.2.2 with
    | true => true
    | false => t_and (t_eq h (.ofNat 1)) (t_keep c.2.2.2.2.1 (t_key 291 0))
noncomputable def l_out (T : Nat) (h : Int) (c : tCon) (f : tF) (q : Nat × Int) : Bool := t_and (t_and (Nat.ble q.1 8) (match t_eq q.2 (.ofNat 0) with
  | true => true
  | false => t_eq q.2 (.ofNat 1))) (t_and (l_o1 T c f q.1) (t_and (l_o2 h c f q.2) (t_and (l_o4 h c q.2) (l_o3 T c f q.1))))
noncomputable def l_pr (T : Nat) (h : Int) (X : List (Nat × Int × Int)) (c : tCon) : Bool := t_all (fun p => match l_in X p with
  | true => true
  | false => match l_in [(l_kT, .ofNat T, .ofNat T), (l_kH, h, h)] p with
    | true => true
    | false => l_in (l_rows T) p) c.2.2.1
noncomputable def l_all (T : Nat) (h : Int) (X : List (Nat × Int × Int)) (c : tCon) : Bool := t_and (l_pr T h X c) (t_and (t_all (fun i => t_and (Nat.beq i 291) (t_eq h (.ofNat 1))) c.2.2.2.1) (t_all (fun a => t_any (l_out T h c a.2) [(T, h), (Nat.succ T, h), (Nat.pred T, h), (0, h), (T, .ofNat 1)]) c.2.2.2.2.2.1))
/-- it touches nothing of that -/
noncomputable def l_fst (X : List (Nat × Int × Int)) (c : tCon) : Bool := t_and (t_all (l_in X) c.2.2.1) (t_and (match c.2.2.2.1 with | [] => true | _ :: _ => false) (t_and (t_keep c.2.2.2.2.1 l_kT) (t_and (t_keep c.2.2.2.2.1 l_kH) (t_and (t_keep c.2.2.2.2.1 299008) (t_keep c.2.2.2.2.1 (t_key 291 0))))))
section L1
variable {cs cs' : zz_W} {T : Nat} {h : Int} {c : tCon} {X : List (Nat × Int × Int)}
theorem l_in_ok {q : List (Nat × Int × Int)} {p : Nat × Int × Int} (hl : l_in q p = true) (hq : t_inP cs q) : t_sngl (p.1 / 1024) ∧ ∃ x : Int32, t_sv cs (p.1 / 1024) (p.1 % 1024) = some (.int x) ∧ p.2.1 ≤ x.toInt ∧ x.toInt ≤ p.2.2 := by
  unfold l_in at hl
  rw [t_any_iff] at hl
  obtain ⟨r, h1, h2⟩ := hl
  simp only [t_and_iff, t_le_iff] at h2
  obtain ⟨h3, h4, h5⟩ := h2
  have h3 := Nat.eq_of_beq_eq_true h3
  obtain ⟨a1, x, a2, a3, a4⟩ := hq r h1
  rw [h3] at a1 a2
  exact ⟨a1, x, a2, by omega, by omega⟩
theorem l_keepP {M : Nat} {p : List (Nat × Int × Int)} (hk : ∀ q ∈ p, t_keep M q.1 = true) (hT : t_ty cs) (hf : t_frm M cs cs') (hp : t_inP cs p) : t_inP cs' p := fun q hq => by
  obtain ⟨a1, x, a2, a3⟩ := hp q hq
  exact ⟨a1, x, by rw [t_keep_ok (hk q hq) hT hf a1]; exact a2, a3⟩
theorem l_keepT {M : Nat} (hk : t_keep M (t_key 291 0) = true) (hT : t_ty cs) (hf : t_frm M cs cs') (hp : t_tks [291] cs) : t_tks [291] cs' := fun i hi => by
  obtain ⟨s1, ⟨xs, s2⟩, s3⟩ := hp i hi
  have hi2 : i = 291 := by simpa using hi
  subst hi2
  have s4 := t_keepc_ok hk hT hf s1 s2
  refine ⟨s1, ⟨xs, s4⟩, fun k a b hk => ?_⟩
  obtain ⟨x, e1, e2⟩ := s3 k a b hk
  refine ⟨x, ?_, e2⟩
  unfold t_sv at e1 ⊢
  rw [s2] at e1
  rw [s4]
  exact e1
theorem l_t0 : t_bit 299008 = some 222 := by decide +kernel
theorem l_t1 : (List.range 904).all (fun s => match t_bit (299008 + s) with | some b => Nat.beq b 222 | none => false) = true := by decide +kernel
theorem l_keep0 {M s : Nat} (hk : t_keep M 299008 = true) (hs : s < 904) : t_keep M (299008 + s) = true := by
  have h1 := List.all_eq_true.mp l_t1 s (List.mem_range.mpr hs)
  unfold t_keep at hk ⊢
  rw [l_t0] at hk
  split at h1
  · rename_i b hb
    rw [hb, Nat.eq_of_beq_eq_true h1]
    exact hk
  · cases h1
theorem l_nb_lt : l_nb.all (fun q => Nat.blt q.1 113) = true := by decide +kernel
theorem l_rows_mem {p : Nat × Int × Int} (hp : p ∈ l_rows T) : ∃ t q, t < T ∧ q ∈ l_nb ∧ q.1 < 113 ∧ p = (299008 + 113 * t + q.1, q.2) := by
  unfold l_rows at hp
  rw [List.mem_flatMap] at hp
  obtain ⟨t, h1, h2⟩ := hp
  rw [List.mem_map] at h2
  obtain ⟨q, h3, h4⟩ := h2
  have h5 := List.all_eq_true.mp l_nb_lt q h3
  have h5 : q.1 < 113 := Nat.le_of_ble_eq_true h5
  exact ⟨t, q, List.mem_range.mp h1, h3, h5, h4.symm⟩
theorem l_rows_le {T' : Nat} (hle : T' ≤ T) (hp : t_inP cs (l_rows T)) : t_inP cs (l_rows T') := fun p h => by
  obtain ⟨t, q, h1, h2, h3, rfl⟩ := l_rows_mem h
  refine hp _ ?_
  unfold l_rows
  rw [List.mem_flatMap]
  exact ⟨t, List.mem_range.mpr (by omega), List.mem_map.mpr ⟨q, h2, rfl⟩⟩
theorem l_rows_keep {M : Nat} (hT8 : T ≤ 8) (hk : t_keep M 299008 = true) (hT : t_ty cs) (hf : t_frm M cs cs') (hp : t_inP cs (l_rows T)) : t_inP cs' (l_rows T) := by
  refine l_keepP (M := M) (fun p h => ?_) hT hf hp
  obtain ⟨t, q, h1, h2, h3, rfl⟩ := l_rows_mem h
  dsimp only
  rw [Nat.add_assoc]
  exact l_keep0 hk (by omega)
theorem l_fct_ok {f : tF} {p : Nat × Int × Int} {ρ : List Int} (hl : l_fct f p = true) (hf : t_fac ρ f cs) : t_sngl (p.1 / 1024) ∧ ∃ x : Int32, t_sv cs (p.1 / 1024) (p.1 % 1024) = some (.int x) ∧ p.2.1 ≤ x.toInt ∧ x.toInt ≤ p.2.2 := by
  unfold l_fct at hl
  rw [t_any_iff] at hl
  obtain ⟨e, h1, h2⟩ := hl
  obtain ⟨h3, h4⟩ := t_bool h2
  have h3 := Nat.eq_of_beq_eq_true h3
  obtain ⟨s1, u, s2, s3⟩ := hf e h1
  obtain ⟨key, v⟩ := e
  dsimp only at h3 h4 s1 s2 s3
  subst h3
  split at h4
  · rename_i j a b
    simp only [t_and_iff, t_le_iff] at h4
    have hj := Nat.eq_of_beq_eq_true h4.1
    subst hj
    obtain ⟨x, rfl, y, hy, g1, g2⟩ := s3
    cases hy
    dsimp only at g1 g2
    exact ⟨s1, x, s2, by omega, by omega⟩
  · cases h4
theorem l_sam_ok {f : tF} {key : Nat} {us : List Value} {lo hi : Int} (hl : l_sam c f key = true) (hf : t_fac (t_r0 c us cs) f cs') (hin : t_inA c.2.1 us) (hp : t_inP cs [(key, lo, hi)]) : t_inP cs' [(key, lo, hi)] := by
  unfold l_sam at hl
  rw [t_any_iff] at hl
  obtain ⟨e, h1, h2⟩ := hl
  obtain ⟨h3, h4⟩ := t_bool h2
  have h3 := Nat.eq_of_beq_eq_true h3
  obtain ⟨s1, u, s2, s3⟩ := hf e h1
  obtain ⟨k, v⟩ := e
  dsimp only at h3 h4 s1 s2 s3
  subst h3
  obtain ⟨-, x0, p1, p2, p3⟩ := hp _ List.mem_cons_self
  dsimp only at p1 p2 p3
  split at h4
  · rename_i j a b
    rw [t_and_iff, t_and_iff, t_eq_iff, t_eq_iff] at h4
    obtain ⟨⟨ha, hb⟩, h5⟩ := h4
    subst ha
    subst hb
    obtain ⟨hlt, h8⟩ := t_bool h5
    have hlt : t_cnt c.2.1 < j := Nat.le_of_ble_eq_true hlt
    rw [t_nth_eq] at h8
    split at h8
    · rename_i p hp0
      have h9 : p.1 = k := Nat.eq_of_beq_eq_true h8
      obtain ⟨x, rfl, y, hy, g1, g2⟩ := s3
      have hln := t_nums_len hin
      obtain ⟨j', rfl⟩ : ∃ j', j = j' + 1 := ⟨j - 1, by omega⟩
      have hy : (t_r0 c us cs)[j']? = some y := hy
      unfold t_r0 at hy
      rw [List.getElem?_append_right (by omega), hln] at hy
      have e0 : Nat.pred (Nat.sub (j' + 1) (t_cnt c.2.1)) = j' - t_cnt c.2.1 := by
        show (j' + 1 - t_cnt c.2.1) - 1 = _
        omega
      rw [e0] at hp0
      unfold t_pvs at hy
      rw [List.getElem?_map, hp0] at hy
      cases hy
      dsimp only at g1 g2
      rw [h9, t_pv_of p1] at g1 g2
      have g1 : x0.toInt + 0 ≤ x.toInt := g1
      have g2 : x.toInt ≤ x0.toInt + 0 := g2
      intro q hq
      have hq : q = (k, lo, hi) := by simpa using hq
      subst hq
      exact ⟨s1, x, s2, by dsimp only; omega, by dsimp only; omega⟩
    · cases h8
  · cases h4
theorem l_one {key : Nat} {lo hi : Int} {p : List (Nat × Int × Int)} (hp : t_inP cs p) (hm : (key, lo, hi) ∈ p) : t_inP cs [(key, lo, hi)] := fun q hq => by
  have hq : q = (key, lo, hi) := by simpa using hq
  subst hq
  exact hp _ hm
theorem l_two {p q : Nat × Int × Int} (h1 : t_inP cs [p]) (h2 : t_inP cs [q]) : t_inP cs [p, q] := fun x hx => by
  rcases List.mem_cons.mp hx with hx | hx
  · exact h1 x (by rw [hx]; exact List.mem_cons_self)
  · exact h2 x hx
theorem l_out_ok {f : tF} {q : Nat × Int} {us : List Value} (hl : l_out T h c f q = true) (hT8 : T ≤ 8) (hJ : l_inv T h cs) (hin : t_inA c.2.1 us) (hf : t_fac (t_r0 c us cs) f cs') (hT' : t_ty cs') (hfr : t_frm c.2.2.2.2.1 cs cs') (htk : t_tks c.2.2.2.2.2.2 cs') : q.1 ≤ 8 ∧ (q.2 = 0 ∨ q.2 = 1) ∧ l_inv q.1 q.2 cs' := by
  obtain ⟨T', h'⟩ := q
  obtain ⟨hT, hP, hR, hI⟩ := hJ
  unfold l_out at hl
  simp only [t_and_iff] at hl
  obtain ⟨⟨a1, a2⟩, a3, a4, a6, a5⟩ := hl
  have a1 := Nat.le_of_ble_eq_true a1
  dsimp only at a1 a2 a3 a4 a5 a6 ⊢
  have b2 : h' = 0 ∨ h' = 1 := by
    split at a2
    · rename_i hq
      exact Or.inl (t_eq_iff.mp hq)
    · exact Or.inr (t_eq_iff.mp a2)
  refine ⟨a1, b2, hT', l_two ?_ ?_, ?_, ?_⟩
  · unfold l_o1 at a3
    split at a3
    · rename_i hq
      intro p hp
      have hp : p = (l_kT, .ofNat T', .ofNat T') := by simpa using hp
      subst hp
      exact l_fct_ok hq hf
    · rw [t_and_iff] at a3
      have e := Nat.eq_of_beq_eq_true a3.1
      subst e
      have a3 := a3.2
      have hone := l_one hP List.mem_cons_self
      split at a3
      · rename_i hk
        exact l_keepP (M := c.2.2.2.2.1) (fun p hp => by
          have hp : p = (l_kT, .ofNat T, .ofNat T) := by simpa using hp
          subst hp
          exact hk) hT hfr hone
      · exact l_sam_ok a3 hf hin hone
  · unfold l_o2 at a4
    split at a4
    · rename_i hq
      intro p hp
      have hp : p = (l_kH, h', h') := by simpa using hp
      subst hp
      exact l_fct_ok hq hf
    · rw [t_and_iff, t_eq_iff] at a4
      obtain ⟨e, hk⟩ := a4
      subst e
      exact l_keepP (M := c.2.2.2.2.1) (fun p hp => by
        have hp : p = (l_kH, h, h) := by simpa using hp
        subst hp
        exact hk) hT hfr (l_one hP (List.mem_cons_of_mem _ List.mem_cons_self))
  · unfold l_o3 at a5
    split at a5
    · rename_i hq
      rw [t_and_iff] at hq
      exact l_rows_le (Nat.le_of_ble_eq_true hq.1) (l_rows_keep hT8 hq.2 hT hfr hR)
    · rw [t_all_iff] at a5
      exact fun p hp => l_fct_ok (a5 p hp) hf
  · unfold l_o4 at a6
    split at a6
    · rename_i hq
      exact Or.inl (t_eq_iff.mp hq)
    · split at a6
      · rename_i hm
        refine Or.inr (fun i hi => htk i ?_)
        have hi : i = 291 := by simpa using hi
        subst hi
        exact t_mem_iff.mp hm
      · rw [t_and_iff, t_eq_iff] at a6
        rcases hI with q | q
        · rw [q] at a6
          exact absurd a6.1 (by decide)
        · exact Or.inr (l_keepT a6.2 hT hfr q)
theorem l_pre_ok (hl : l_pr T h X c = true) (hJ : l_inv T h cs) (hX : t_inP cs X) : t_inP cs c.2.2.1 := fun p hp => by
  unfold l_pr at hl
  rw [t_all_iff] at hl
  have h1 := hl p hp
  split at h1
  · rename_i hq
    exact l_in_ok hq hX
  · split at h1
    · rename_i hq
      exact l_in_ok hq hJ.2.1
    · exact l_in_ok h1 hJ.2.2.1
/-- a call that may change of that what it may -/
theorem l_step {mi : zz_Mi} {us : List Value} (hk : t_Con c) (hl : l_all T h X c = true) (hT8 : T ≤ 8) (hm : zz_mts[c.1]? = some mi) (hJ : l_inv T h cs) (hX : t_inP cs X) (hin : t_inA c.2.1 us) : tr_run mi (0, zz_ent mi.2.2.1 us, [], cs, 0, 0) (fun v cs' => (∃ T h, T ≤ 8 ∧ (h = 0 ∨ h = 1) ∧ l_inv T h cs') ∧ t_Pst c (t_r0 c us cs) cs v cs') := by
  unfold l_all at hl
  rw [t_and_iff, t_and_iff, t_all_iff, t_all_iff] at hl
  obtain ⟨h1, h2, h3⟩ := hl
  have htk : t_tks c.2.2.2.1 cs := fun i hi => by
    have h4 := h2 i hi
    rw [t_and_iff, t_eq_iff] at h4
    have h5 := Nat.eq_of_beq_eq_true h4.1
    subst h5
    rcases hJ.2.2.2 with q | q
    · rw [q] at h4
      exact absurd h4.2 (by decide)
    · exact q 291 List.mem_cons_self
  refine tr_mono (hk.2 mi hm us cs hJ.1 hin (l_pre_ok h1 hJ hX) htk) ?_
  intro v cs' hP
  refine ⟨?_, hP⟩
  obtain ⟨g1, g2, ⟨a, g3, g4, g5⟩, g6⟩ := hP
  have h4 := h3 a g3
  rw [t_any_iff] at h4
  obtain ⟨q, -, h5⟩ := h4
  obtain ⟨r1, r2, r3⟩ := l_out_ok h5 hT8 hJ hin g5 g1 g2 g6
  exact ⟨q.1, q.2, r1, r2, r3⟩
/-- a call that leaves it as it is -/
theorem l_stay {mi : zz_Mi} {us : List Value} (hk : t_Con c) (hl : l_fst X c = true) (hm : zz_mts[c.1]? = some mi) (hJ : ∃ T h, T ≤ 8 ∧ (h = 0 ∨ h = 1) ∧ l_inv T h cs) (hX : t_inP cs X) (hin : t_inA c.2.1 us) : tr_run mi (0, zz_ent mi.2.2.1 us, [], cs, 0, 0) (fun v cs' => (∃ T h, T ≤ 8 ∧ (h = 0 ∨ h = 1) ∧ l_inv T h cs') ∧ t_Pst c (t_r0 c us cs) cs v cs') := by
  obtain ⟨T, h, hT8, hh, hT, hP, hR, hI⟩ := hJ
  unfold l_fst at hl
  simp only [t_and_iff, t_all_iff] at hl
  obtain ⟨h1, h2, h3, h4, h5, h6⟩ := hl
  have htk : t_tks c.2.2.2.1 cs := fun i hi => by
    split at h2
    · rename_i hq
      rw [hq] at hi
      cases hi
    · cases h2
  refine tr_mono (hk.2 mi hm us cs hT hin (fun p hp => l_in_ok (h1 p hp) hX) htk) ?_
  intro v cs' hPst
  refine ⟨⟨T, h, hT8, hh, hPst.1, ?_, l_rows_keep hT8 h5 hT hPst.2.1 hR, ?_⟩, hPst⟩
  · refine l_keepP (M := c.2.2.2.2.1) (fun p hp => ?_) hT hPst.2.1 hP
    rcases List.mem_cons.mp hp with hp | hp
    · rw [hp]
      exact h3
    · have hp : p = (l_kH, h, h) := by simpa using hp
      rw [hp]
      exact h4
  · rcases hI with q | q
    · exact Or.inl q
    · exact Or.inr (l_keepT h6 hT hPst.2.1 q)
end L1
