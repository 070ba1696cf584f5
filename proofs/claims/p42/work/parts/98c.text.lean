/-! a town told in letters: what is read, on both sides -/
noncomputable def atF (L : Int × gV) (i : Int) : Int := if 0 ≤ i ∧ i < L.1 then L.2 i else -1
noncomputable def dgF (c : Int) : Int := if c = 97 then 5 else if c = 98 then 3 else if c = 100 then 2 else if c = 101 then 3 else if c = 112 then 2 else if c = 119 then 2 else -1
noncomputable def diF (L : Int × gV) (i : Int) : Prop := 48 ≤ atF L i ∧ atF L i ≤ 57
noncomputable def gdF (L : Int × gV) (p : Int) : Prop := 0 ≤ dgF (atF L p) ∧ (∀ j, p < j → j ≤ p + dgF (atF L p) → diF L j) ∧ atF L (p + dgF (atF L p) + 1) = 59
noncomputable def bdF (L : Int × gV) (p q : Int) : Prop := (dgF (atF L p) < 0 ∧ q = p) ∨ (0 ≤ dgF (atF L p) ∧ p < q ∧ q ≤ p + dgF (atF L p) ∧ ¬ diF L q ∧ ∀ j, p < j → j < q → diF L j) ∨ (0 ≤ dgF (atF L p) ∧ q = p + dgF (atF L p) + 1 ∧ atF L q ≠ 59 ∧ ∀ j, p < j → j < q → diF L j)
noncomputable def plF (L : Int × gV) : Nat → Int
  | 0 => 0
  | k + 1 => plF L k + 2 + dgF (atF L (plF L k))
noncomputable def okP (L : Int × gV) (K : Nat) : Prop := ∀ j : Nat, j < K → gdF L (plF L j) ∧ (j ≠ 0 → plF L j < L.1)
noncomputable def psK (L : Int × gV) (K : Nat) : Prop := 1 ≤ K ∧ okP L K ∧ L.1 ≤ plF L K
noncomputable def psB (L : Int × gV) (q : Int) : Prop := ∃ K : Nat, okP L K ∧ (K ≠ 0 → plF L K < L.1) ∧ bdF L (plF L K) q
noncomputable def LB (L : Int × gV) : Prop := 0 ≤ L.1 ∧ L.1 ≤ 96 ∧ ∀ i, 0 ≤ i → i < L.1 → 0 ≤ L.2 i ∧ L.2 i ≤ 255
section TX
variable {h h' h0 h1 k1 : fH} {v z c k x y a1 a2 n p q q' i : Int} {g : gV} {G : gS} {L : Int × gV} {K K' : Nat}
theorem dg_b (c : Int) : dgF c = 5 ∨ dgF c = 3 ∨ dgF c = 2 ∨ dgF c = -1 := by
  unfold dgF
  repeat' (first | omega | split)
theorem at_b (hL : LB L) (i : Int) : -1 ≤ atF L i ∧ atF L i ≤ 255 := by
  unfold atF
  split
  · rename_i h1
    have := hL.2.2 i h1.1 h1.2
    omega
  · omega
theorem at_in (hi : atF L i ≠ -1) : 0 ≤ i ∧ i < L.1 := by
  unfold atF at hi
  split at hi
  · assumption
  · exact absurd rfl hi
theorem bd_un (a : bdF L p q) (b : bdF L p q') : q = q' := by
  rcases a with ⟨a1, a2⟩ | ⟨a1, a2, a3, a4, a5⟩ | ⟨a1, a2, a3, a4⟩
  · rcases b with ⟨b1, b2⟩ | ⟨b1, b2, b3, b4, b5⟩ | ⟨b1, b2, b3, b4⟩
    · omega
    · omega
    · omega
  · rcases b with ⟨b1, b2⟩ | ⟨b1, b2, b3, b4, b5⟩ | ⟨b1, b2, b3, b4⟩
    · omega
    · rcases Int.lt_trichotomy q q' with r | r | r
      · exact absurd (b5 q a2 r) a4
      · exact r
      · exact absurd (a5 q' b2 r) b4
    · exact absurd (b4 q a2 (by omega)) a4
  · rcases b with ⟨b1, b2⟩ | ⟨b1, b2, b3, b4, b5⟩ | ⟨b1, b2, b3, b4⟩
    · omega
    · exact absurd (a4 q' b2 (by omega)) b4
    · omega
theorem gd_bd (a : gdF L p) (b : bdF L p q) : False := by
  obtain ⟨a1, a2, a3⟩ := a
  rcases b with ⟨b1, b2⟩ | ⟨b1, b2, b3, b4, b5⟩ | ⟨b1, b2, b3, b4⟩
  · omega
  · exact b4 (a2 q b2 b3)
  · rw [b2] at b3
    exact b3 a3
theorem gd_end (a : gdF L p) : p + dgF (atF L p) + 2 ≤ L.1 := by
  have := at_in (L := L) (i := p + dgF (atF L p) + 1) (by rw [a.2.2]; decide)
  omega
theorem ok_b (hL : LB L) : ∀ K : Nat, okP L K → 0 ≤ plF L K ∧ plF L K ≤ L.1 ∧ 4 * (K : Int) ≤ plF L K
  | 0, _ => ⟨Int.le_refl 0, hL.1, by show 4 * ((0 : Nat) : Int) ≤ 0; omega⟩
  | K + 1, h => by
    have ih := ok_b hL K (fun j hj => h j (by omega))
    have hg := (h K (by omega)).1
    have he := gd_end hg
    have hd := dg_b (atF L (plF L K))
    have h0 := hg.1
    show 0 ≤ plF L K + 2 + dgF (atF L (plF L K)) ∧ plF L K + 2 + dgF (atF L (plF L K)) ≤ L.1 ∧ 4 * ((K + 1 : Nat) : Int) ≤ plF L K + 2 + dgF (atF L (plF L K))
    omega
theorem ok_s (h : okP L K) (hg : gdF L (plF L K)) (hl : K ≠ 0 → plF L K < L.1) : okP L (K + 1) := fun j hj => by
  by_cases q : j = K
  · rw [q]
    exact ⟨hg, hl⟩
  · exact h j (by omega)
theorem ps_un (a : psK L K) (b : psK L K') : K = K' := by
  obtain ⟨a1, a2, a3⟩ := a
  obtain ⟨b1, b2, b3⟩ := b
  rcases Nat.lt_trichotomy K K' with r | r | r
  · have := (b2 K r).2 (by omega)
    omega
  · exact r
  · have := (a2 K' r).2 (by omega)
    omega
theorem ps_no (a : psK L K) (b : psB L q) : False := by
  obtain ⟨a1, a2, a3⟩ := a
  obtain ⟨K', b1, b2, b3⟩ := b
  rcases Nat.lt_trichotomy K K' with r | r | r
  · have := (b1 K r).2 (by omega)
    omega
  · subst r
    have := b2 (by omega)
    omega
  · exact gd_bd (a2 K' r).1 b3
theorem psb_un (a : psB L q) (b : psB L q') : q = q' := by
  obtain ⟨K, a1, a2, a3⟩ := a
  obtain ⟨K', b1, b2, b3⟩ := b
  rcases Nat.lt_trichotomy K K' with r | r | r
  · exact (gd_bd (b1 K r).1 a3).elim
  · subst r
    exact bd_un a3 b3
  · exact (gd_bd (a1 K' r).1 b3).elim
theorem bd_b (hL : LB L) (hp : 0 ≤ p ∧ p ≤ L.1) (a : bdF L p q) : 0 ≤ q ∧ q ≤ 110 := by
  have hd := dg_b (atF L p)
  have := hL.2.1
  rcases a with ⟨a1, a2⟩ | ⟨a1, a2, a3, a4, a5⟩ | ⟨a1, a2, a3, a4⟩ <;> omega
-- the class
theorem sl_at (hs : fS 18 [266, i] h v h') (C : CL L h) : h' = h ∧ v = atF L i := by
  obtain ⟨e1, e2⟩ := C
  refine vl_at hs (fun v h' => h' = h ∧ v = atF L i) ⟨fun q => ⟨rfl, ?_⟩, fun q z2 e => ⟨fun q2 => ⟨rfl, ?_⟩, fun q2 z3 e3 => ⟨rfl, ?_⟩⟩⟩
  · exact (if_neg (by omega)).symm
  · rw [e1] at e
    exact (if_neg (by omega)).symm
  · rw [e1] at e
    rw [e3, e2 i q (by omega)]
    exact (if_pos (by omega)).symm
theorem sl_digit (hs : fS 20 [266, i] h v h') (C : CL L h) (hL : LB L) : h' = h ∧ v = atF L i - 48 := by
  refine vl_digit hs (fun v h' => h' = h ∧ v = atF L i - 48) ?_
  intro v1 k1 hs1 z3 e3
  obtain ⟨a1, a2⟩ := sl_at hs1 C
  have := at_b hL i
  exact ⟨a1, by rw [wr_d e3 (by omega) (by omega), a2]⟩
theorem sl_dig (hs : fS 19 [c] h v h') : h' = h ∧ v = dgF c := by
  refine vl_digitsBehind hs (fun v h' => h' = h ∧ v = dgF c) ?_
  unfold dgF
  refine ⟨fun q1 => ⟨rfl, ?_⟩, fun q1 => ⟨fun q2 => ⟨rfl, ?_⟩, fun q2 => ⟨fun q3 => ⟨rfl, ?_⟩, fun q3 => ⟨fun q4 => ⟨rfl, ?_⟩, fun q4 => ⟨fun q5 => ⟨rfl, ?_⟩, fun q5 => ⟨fun q6 => ⟨rfl, ?_⟩, fun q6 => ⟨rfl, ?_⟩⟩⟩⟩⟩⟩⟩
  all_goals omega
theorem sl_first (hs : fS 17 [266] h v h') (C : CL L h) (hL : LB L) : h' = h ∧ ((v = -9 ∧ ∃ K, psK L K) ∨ (0 ≤ v ∧ v ≤ 110 ∧ psB L v)) := by
  have hL' := hL.2.1
  refine vl_firstBadPlace hs (fun x0 x1 q => x0 = 266 ∧ q = h ∧ ∃ k : Nat, x1 = plF L k ∧ okP L k ∧ (k ≠ 0 → plF L k < L.1)) (fun x0 x1 x2 x3 q => x0 = 266 ∧ q = h ∧ ∃ k : Nat, okP L k ∧ (k ≠ 0 → plF L k < L.1) ∧ x2 = dgF (atF L (plF L k)) ∧ 0 ≤ x3 ∧ x3 ≤ x2 ∧ x1 = plF L k + 1 + x3 ∧ ∀ j, plF L k < j → j < x1 → diF L j) (fun v h' => h' = h ∧ ((v = -9 ∧ ∃ K, psK L K) ∨ (0 ≤ v ∧ v ≤ 110 ∧ psB L v))) ?_ ?_ ?_
  · exact ⟨rfl, rfl, 0, rfl, fun j hj => by omega, fun q => absurd rfl q⟩
  · rintro x0 x1 q ⟨rfl, rfl, k, i1, i2, i3⟩ v1 k1 hs1 v2 k2 hs2
    have hb := ok_b hL k i2
    obtain ⟨a1, a2⟩ := sl_at hs1 C
    obtain ⟨b1, b2⟩ := sl_dig hs2
    rw [a2, i1] at b2
    refine ⟨fun q1 z4 e4 => ?_, fun q1 => ?_⟩
    · have f4 := wr_d e4 (by omega) (by omega)
      exact ⟨rfl, b1.trans a1, k, i2, i3, b2, by omega, by omega, by omega, fun j j1 j2 => by omega⟩
    · refine ⟨b1.trans a1, Or.inr ⟨by omega, by omega, k, i2, i3, Or.inl ⟨by omega, i1⟩⟩⟩
  · rintro x0 x1 x2 x3 q ⟨rfl, rfl, k, i2, i3, i4, i5, i6, i7, i8⟩
    have hb := ok_b hL k i2
    have hd := dg_b (atF L (plF L k))
    refine ⟨fun q1 v1 k1 hs1 => ?_, fun q1 v1 k1 hs1 => ?_⟩
    · obtain ⟨a1, a2⟩ := sl_at hs1 C
      have e1 : x1 = plF L k + dgF (atF L (plF L k)) + 1 := by omega
      refine ⟨fun q2 z5 e5 z6 e6 => ?_, fun q2 => ?_⟩
      · have hg : gdF L (plF L k) := ⟨by omega, fun j j1 j2 => i8 j j1 (by omega), by rw [← e1, ← a2]; exact q2⟩
        have f5 := wr_d e5 (by omega) (by omega)
        rw [a1, C.1] at e6
        have e7 : z5 = plF L (k + 1) := by
          show z5 = plF L k + 2 + dgF (atF L (plF L k))
          omega
        refine ⟨fun q3 => ⟨rfl, a1, k + 1, e7, ok_s i2 hg i3, fun _ => by omega⟩, fun q3 => ⟨a1, Or.inl ⟨rfl, k + 1, by omega, ok_s i2 hg i3, by omega⟩⟩⟩
      · refine ⟨a1, Or.inr ⟨by omega, by omega, k, i2, i3, Or.inr (Or.inr ⟨by omega, e1, by rw [← a2]; exact q2, i8⟩)⟩⟩
    · obtain ⟨a1, a2⟩ := sl_digit hs1 C hL
      have bad : ¬ diF L x1 → bdF L (plF L k) x1 := fun hn => Or.inr (Or.inl ⟨by omega, by omega, by omega, hn, i8⟩)
      refine ⟨fun q2 => ⟨a1, Or.inr ⟨by omega, by omega, k, i2, i3, bad (fun d => by unfold diF at d; omega)⟩⟩, fun q2 => ⟨fun q3 => ⟨a1, Or.inr ⟨by omega, by omega, k, i2, i3, bad (fun d => by unfold diF at d; omega)⟩⟩, fun q3 z5 e5 z6 e6 => ?_⟩⟩
      have f5 := wr_d e5 (by omega) (by omega)
      have f6 := wr_d e6 (by omega) (by omega)
      refine ⟨rfl, a1, k, i2, i3, i4, by omega, by omega, by omega, fun j j1 j2 => ?_⟩
      by_cases r : j = x1
      · rw [r]
        unfold diF
        omega
      · exact i8 j j1 (by omega)
-- the reference
theorem sr_here (hs : fS 154 [271] h v h') (M : ML L h) (hp : h 271 20 = p) (h0 : 0 ≤ p) : h' = h ∧ v = atF L p := by
  obtain ⟨e1, e2⟩ := M
  refine vr_here hs (fun v h' => h' = h ∧ v = atF L p) ?_
  intro z1 f1 z2 f2
  rw [hp] at f1
  rw [e1] at f2
  refine ⟨fun q => ⟨rfl, (if_neg (by omega)).symm⟩, fun q z3 f3 z4 f4 => ⟨rfl, ?_⟩⟩
  rw [hp] at f3
  rw [f4, f3, e2 p h0 (by omega)]
  exact (if_pos (by omega)).symm
noncomputable def d0F (c : Int) : Int := if dgF c < 0 then 0 else dgF c
theorem sr_dig (hs : fS 155 [c] h v h') : h' = h ∧ v = d0F c := by
  refine vr_digitsOf hs (fun v h' => h' = h ∧ v = d0F c) ?_
  unfold d0F dgF
  refine ⟨fun q1 => ⟨rfl, ?_⟩, fun q1 => ⟨fun q2 => ⟨rfl, ?_⟩, fun q2 => ⟨fun q3 => ⟨fun q4 => ⟨rfl, ?_⟩, fun q4 => ⟨fun q5 => ⟨fun q6 => ⟨rfl, ?_⟩, fun q6 => ⟨rfl, ?_⟩⟩, fun q5 => ⟨rfl, ?_⟩⟩⟩, fun q3 => ⟨rfl, ?_⟩⟩⟩⟩
  all_goals omega
/-- all but the place, whether it is bad, how many statements, and what was read -/
noncomputable def frT (h h' : fH) : Prop := ∀ c k, c ≠ 287 → c ≠ 288 → c ≠ 289 → (c = 271 → k ≠ 16 ∧ k ≠ 20 ∧ k ≠ 21 ∧ k ≠ 22) → h' c k = h c k
theorem frT.rf (h : fH) : frT h h := fun _ _ _ _ _ _ => rfl
theorem frT.tr (a : frT h h0) (b : frT h0 h1) : frT h h1 := fun c k q1 q2 q3 q4 => (b c k q1 q2 q3 q4).trans (a c k q1 q2 q3 q4)
theorem frT.up (a : frT h h0) (hc : c = 287 ∨ c = 288 ∨ c = 289 ∨ (c = 271 ∧ (k = 16 ∨ k = 20 ∨ k = 21 ∨ k = 22))) : frT h (fu h0 c k z) := fun c' k' q1 q2 q3 q4 => by
  unfold fu
  rw [if_neg (by omega)]
  exact a c' k' q1 q2 q3 q4
theorem frT.ml (a : frT h h') (M : ML L h) : ML L h' := M.cg (a _ _ (by omega) (by omega) (by omega) (by omega)) (fun k => a _ _ (by omega) (by omega) (by omega) (by omega))
/-- but for the place and whether it is bad -/
noncomputable def frD (h h' : fH) : Prop := ∀ c k, (c = 271 → k ≠ 20 ∧ k ≠ 21) → h' c k = h c k
theorem frD.t (a : frD h h') : frT h h' := fun c k q1 q2 q3 q4 => a c k (by omega)
theorem sr_readDigit (hs : fS 156 [271] h v h') (M : ML L h) (hL : LB L) (hp : h 271 20 = p) (h0 : 0 ≤ p) (h1 : p ≤ 1000) (hb : h 271 21 = 0 ∨ h 271 21 = 1) : frD h h' ∧ ((h 271 21 = 0 ∧ diF L p ∧ v = atF L p - 48 ∧ h' 271 20 = p + 1 ∧ h' 271 21 = 0) ∨ (¬ (h 271 21 = 0 ∧ diF L p) ∧ h' 271 20 = p ∧ h' 271 21 = 1)) := by
  have ab := at_b hL p
  have fin : ∀ {k1 k2 : fH} {x y : Int}, k1 = fu h 271 21 x → k2 = fu k1 271 20 y → frD h k2 ∧ k2 271 20 = y ∧ k2 271 21 = x := fun e1 e2 => by
    refine ⟨fun c k q => ?_, ?_, ?_⟩
    · rw [e2, e1]
      unfold fu
      rw [if_neg (by omega), if_neg (by omega)]
    · rw [e2, fu_e rfl rfl]
    · rw [e2, fu_k (by omega), e1, fu_e rfl rfl]
  have r20 : ∀ {k1 : fH} {x : Int}, k1 = fu h 271 21 x → k1 271 20 = p ∧ k1 271 21 = x := fun e1 => by
    refine ⟨?_, ?_⟩
    · rw [e1, fu_k (by omega), hp]
    · rw [e1, fu_e rfl rfl]
  refine vr_readDigit hs (fun v h' => frD h h' ∧ ((h 271 21 = 0 ∧ diF L p ∧ v = atF L p - 48 ∧ h' 271 20 = p + 1 ∧ h' 271 21 = 0) ∨ (¬ (h 271 21 = 0 ∧ diF L p) ∧ h' 271 20 = p ∧ h' 271 21 = 1))) ?_
  intro z1 e1
  refine ⟨fun q1 k1 ek1 z2 e2 => ?_, fun q1 v1 k0 hs1 z3 e3 => ?_⟩
  · obtain ⟨s1, s2⟩ := r20 ek1
    rw [s2] at e2
    refine ⟨fun q2 => absurd q2 (by omega), fun q2 z3 e3 z4 e4 => ?_⟩
    rw [s2] at e4
    rw [s1] at e3
    refine ⟨fun q4 => absurd q4 (by omega), fun q4 z5 e5 k2 ek2 => ?_⟩
    have f5 := wr_d e5 (by omega) (by omega)
    obtain ⟨t1, t2, t3⟩ := fin ek1 ek2
    exact ⟨t1, Or.inr ⟨fun a => by omega, by omega, t3⟩⟩
  · obtain ⟨a1, a2⟩ := sr_here hs1 M hp h0
    rw [a1]
    have bad : ∀ {k1 : fH} {x : Int}, k1 = fu h 271 21 1 → ¬ diF L p → ∀ z4 : Int, z4 = k1 271 21 → ((z4 = 0 → ∀ z5 : Int, z5 = k1 271 20 → ∀ z6 : Int, z6 = k1 286 z5 → ∀ z7 : Int, z7 = wr (z6 - 48) → ∀ z8 : Int, z8 = k1 271 20 → ∀ z9 : Int, z9 = k1 271 21 → ((z9 = 0 → ∀ z10 : Int, z10 = wr (z8 + 1) → ∀ h3 : fH, h3 = fu k1 271 20 z10 → frD h h3 ∧ ((h 271 21 = 0 ∧ diF L p ∧ z7 = atF L p - 48 ∧ h3 271 20 = p + 1 ∧ h3 271 21 = 0) ∨ (¬ (h 271 21 = 0 ∧ diF L p) ∧ h3 271 20 = p ∧ h3 271 21 = 1))) ∧ (z9 ≠ 0 → ∀ z10 : Int, z10 = wr (z8 + 0) → ∀ h3 : fH, h3 = fu k1 271 20 z10 → frD h h3 ∧ ((h 271 21 = 0 ∧ diF L p ∧ z7 = atF L p - 48 ∧ h3 271 20 = p + 1 ∧ h3 271 21 = 0) ∨ (¬ (h 271 21 = 0 ∧ diF L p) ∧ h3 271 20 = p ∧ h3 271 21 = 1))))) ∧ (z4 ≠ 0 → ∀ z5 : Int, z5 = k1 271 20 → ∀ z6 : Int, z6 = k1 271 21 → ((z6 = 0 → ∀ z7 : Int, z7 = wr (z5 + 1) → ∀ h3 : fH, h3 = fu k1 271 20 z7 → frD h h3 ∧ ((h 271 21 = 0 ∧ diF L p ∧ 0 = atF L p - 48 ∧ h3 271 20 = p + 1 ∧ h3 271 21 = 0) ∨ (¬ (h 271 21 = 0 ∧ diF L p) ∧ h3 271 20 = p ∧ h3 271 21 = 1))) ∧ (z6 ≠ 0 → ∀ z7 : Int, z7 = wr (z5 + 0) → ∀ h3 : fH, h3 = fu k1 271 20 z7 → frD h h3 ∧ ((h 271 21 = 0 ∧ diF L p ∧ 0 = atF L p - 48 ∧ h3 271 20 = p + 1 ∧ h3 271 21 = 0) ∨ (¬ (h 271 21 = 0 ∧ diF L p) ∧ h3 271 20 = p ∧ h3 271 21 = 1)))))) := by
      intro k1 x ek1 hn z4 e4
      obtain ⟨s1, s2⟩ := r20 ek1
      rw [s2] at e4
      refine ⟨fun q => absurd q (by omega), fun q z5 e5 z6 e6 => ?_⟩
      rw [s1] at e5
      rw [s2] at e6
      refine ⟨fun q => absurd q (by omega), fun q z7 e7 k2 ek2 => ?_⟩
      have f7 := wr_d e7 (by omega) (by omega)
      obtain ⟨t1, t2, t3⟩ := fin ek1 ek2
      exact ⟨t1, Or.inr ⟨fun a => hn a.2, by omega, t3⟩⟩
    refine ⟨fun q3 k1 ek1 => ?_, fun q3 z4 e4 => ⟨fun q4 k1 ek1 => ?_, fun q4 k1 ek1 z5 e5 => ?_⟩⟩
    · have r3 := xl_lt e3 q3
      exact bad (x := 0) ek1 (fun d => by unfold diF at d; omega)
    · have r4 := xl_gt e4 q4
      exact bad (x := 0) ek1 (fun d => by unfold diF at d; omega)
    · have r3 := xl_ge e3 q3
      have r4 := xl_le e4 q4
      obtain ⟨s1, s2⟩ := r20 ek1
      rw [s2] at e5
      refine ⟨fun q z6 e6 z7 e7 z8 e8 z9 e9 z10 e10 => ?_, fun q => absurd e5 q⟩
      rw [s1] at e6 e9
      rw [s2] at e10
      refine ⟨fun q5 z11 e11 k2 ek2 => ?_, fun q5 => absurd e10 q5⟩
      have f11 := wr_d e11 (by omega) (by omega)
      obtain ⟨t1, t2, t3⟩ := fin ek1 ek2
      have hin := at_in (L := L) (i := p) (by omega)
      have e7' : z7 = atF L p := by
        rw [e7, e6, ek1, fu_c (by omega), M.2 p h0 hin.2]
        exact (if_pos hin).symm
      have f8 := wr_d e8 (by omega) (by omega)
      refine ⟨t1, Or.inl ⟨by omega, ⟨by omega, by omega⟩, by omega, by omega, t3⟩⟩
theorem sr_readStatement (hs : fS 153 [271] h v h') (M : ML L h) (hL : LB L) (hp : h 271 20 = p) (h0 : 0 ≤ p) (h1 : p ≤ L.1) (hb : h 271 21 = 0) (hk : h 271 22 = k) (k0 : 0 ≤ k) (k1 : k ≤ 1000) : frT h h' ∧ h' 271 22 = k + 1 ∧ h' 287 k = p ∧ h' 288 k = atF L p ∧ (∀ j, j ≠ k → h' 287 j = h 287 j ∧ h' 288 j = h 288 j) ∧ (∀ j, j < 5 * k → h' 289 j = h 289 j) ∧ ((gdF L p ∧ h' 271 21 = 0 ∧ h' 271 20 = p + 2 + dgF (atF L p) ∧ ∀ j, 0 ≤ j → j < dgF (atF L p) → h' 289 (5 * k + j) = atF L (p + 1 + j) - 48) ∨ (∃ q, bdF L p q ∧ h' 271 21 = 1 ∧ h' 271 20 = q)) := by
  have hL' := hL.2.1
  have hd := dg_b (atF L p)
  have d0 : (0 ≤ dgF (atF L p) ∧ d0F (atF L p) = dgF (atF L p)) ∨ (dgF (atF L p) < 0 ∧ d0F (atF L p) = 0) := by
    unfold d0F
    omega
  refine vr_readStatement hs (fun x0 x1 x2 x3 q => x0 = 271 ∧ x1 = k ∧ x2 = atF L p ∧ 0 ≤ x3 ∧ x3 ≤ d0F (atF L p) ∧ frT h q ∧ q 271 22 = k ∧ q 287 k = p ∧ q 288 k = atF L p ∧ (∀ j, j ≠ k → q 287 j = h 287 j ∧ q 288 j = h 288 j) ∧ (∀ j, j < 5 * k → q 289 j = h 289 j) ∧ ((0 ≤ dgF (atF L p) ∧ q 271 21 = 0 ∧ q 271 20 = p + 1 + x3 ∧ (∀ j, p < j → j < p + 1 + x3 → diF L j) ∧ ∀ j, 0 ≤ j → j < x3 → q 289 (5 * k + j) = atF L (p + 1 + j) - 48) ∨ (∃ q0, bdF L p q0 ∧ q 271 21 = 1 ∧ q 271 20 = q0))) (fun v h' => frT h h' ∧ h' 271 22 = k + 1 ∧ h' 287 k = p ∧ h' 288 k = atF L p ∧ (∀ j, j ≠ k → h' 287 j = h 287 j ∧ h' 288 j = h 288 j) ∧ (∀ j, j < 5 * k → h' 289 j = h 289 j) ∧ ((gdF L p ∧ h' 271 21 = 0 ∧ h' 271 20 = p + 2 + dgF (atF L p) ∧ ∀ j, 0 ≤ j → j < dgF (atF L p) → h' 289 (5 * k + j) = atF L (p + 1 + j) - 48) ∨ (∃ q, bdF L p q ∧ h' 271 21 = 1 ∧ h' 271 20 = q))) ?_ ?_
  · intro z1 e1 v1 q1 hs1 z3 e3 q2 eq2 q3 eq3 z4 e4
    rw [hk] at e1
    obtain ⟨a1, a2⟩ := sr_here hs1 M hp h0
    rw [a1, hp] at e3
    rw [a1] at eq2
    subst e1 e3
    have fr3 : frT h q3 := by
      rw [eq3, eq2]
      exact ((frT.rf h).up (by omega)).up (by omega)
    have c21 : q3 271 21 = 0 := by
      rw [eq3, fu_c (by omega), eq2, fu_c (by omega)]
      exact hb
    have c20 : q3 271 20 = z3 := by
      rw [eq3, fu_c (by omega), eq2, fu_c (by omega)]
      exact hp
    have c22 : q3 271 22 = z1 := by
      rw [eq3, fu_c (by omega), eq2, fu_c (by omega)]
      exact hk
    rw [c21] at e4
    refine ⟨fun q => absurd e4 q, fun _ v4 q4 hs4 => ?_⟩
    obtain ⟨b1, b2⟩ := sr_dig hs4
    rw [b1]
    have com : ∀ {q5 q6 : fH} {x y : Int}, q5 = fu q3 271 21 x → q6 = fu q5 271 20 y → frT h q6 ∧ q6 271 22 = z1 ∧ q6 287 z1 = z3 ∧ q6 288 z1 = atF L z3 ∧ (∀ j, j ≠ z1 → q6 287 j = h 287 j ∧ q6 288 j = h 288 j) ∧ (∀ j, j < 5 * z1 → q6 289 j = h 289 j) ∧ q6 271 21 = x ∧ q6 271 20 = y := fun e5 e6 => by
      refine ⟨?_, ?_, ?_, ?_, fun j jn => ⟨?_, ?_⟩, fun j _ => ?_, ?_, ?_⟩
      · rw [e6, e5]
        exact (fr3.up (by omega)).up (by omega)
      · rw [e6, fu_k (by omega), e5, fu_k (by omega), c22]
      · rw [e6, fu_c (by omega), e5, fu_c (by omega), eq3, fu_c (by omega), eq2, fu_e rfl rfl]
      · rw [e6, fu_c (by omega), e5, fu_c (by omega), eq3, fu_e rfl rfl, a2]
      · rw [e6, fu_c (by omega), e5, fu_c (by omega), eq3, fu_c (by omega), eq2, fu_k jn]
      · rw [e6, fu_c (by omega), e5, fu_c (by omega), eq3, fu_k jn, eq2, fu_c (by omega)]
      · rw [e6, fu_c (by omega), e5, fu_c (by omega), eq3, fu_c (by omega), eq2, fu_c (by omega)]
      · rw [e6, fu_k (by omega), e5, fu_e rfl rfl]
      · rw [e6, fu_e rfl rfl]
    have rd : ∀ {q5 : fH} {x : Int}, q5 = fu q3 271 21 x → q5 271 20 = z3 ∧ q5 271 21 = x := fun e5 => by
      refine ⟨?_, ?_⟩
      · rw [e5, fu_k (by omega), c20]
      · rw [e5, fu_e rfl rfl]
    rw [a2] at b2
    refine ⟨fun q4 q5 eq5 z6 e6 z7 e7 => ?_, fun q4 q5 eq5 z6 e6 z7 e7 => ?_⟩
    · obtain ⟨r1, r2⟩ := rd eq5
      rw [r1] at e6
      rw [r2] at e7
      refine ⟨fun _ z8 e8 q6 eq6 => ?_, fun q => absurd e7 q⟩
      have f8 := wr_d e8 (by omega) (by omega)
      obtain ⟨s1, s2, s3, s4, s5, s6, s7, s8⟩ := com eq5 eq6
      exact ⟨rfl, rfl, a2, by omega, by omega, s1, s2, s3, s4, s5, s6, Or.inl ⟨by omega, s7, by omega, fun j j1 j2 => by omega, fun j j1 j2 => by omega⟩⟩
    · obtain ⟨r1, r2⟩ := rd eq5
      rw [r1] at e6
      rw [r2] at e7
      refine ⟨fun q => absurd q (by omega), fun _ z8 e8 q6 eq6 => ?_⟩
      have f8 := wr_d e8 (by omega) (by omega)
      obtain ⟨s1, s2, s3, s4, s5, s6, s7, s8⟩ := com eq5 eq6
      exact ⟨rfl, rfl, a2, by omega, by omega, s1, s2, s3, s4, s5, s6, Or.inr ⟨z3, Or.inl ⟨by omega, rfl⟩, s7, by omega⟩⟩
  · rintro x0 x1 x2 x3 q ⟨rfl, rfl, rfl, i1, i2, i3, i4, i5, i6, i7, i8, i9⟩ v1 q1 hs1
    obtain ⟨b1, b2⟩ := sr_dig hs1
    rw [b1]
    refine ⟨fun w1 z5 e5 => ?_, fun w1 z5 e5 z6 e6 v2 q2 hs2 q3 eq3 z8 e8 => ?_⟩
    · have com : ∀ {q2 q3 q4 : fH} {x y z : Int}, q2 = fu q 271 21 x → q3 = fu q2 271 20 y → q4 = fu q3 271 22 z → frT h q4 ∧ q4 271 22 = z ∧ q4 287 x1 = p ∧ q4 288 x1 = atF L p ∧ (∀ j, j ≠ x1 → q4 287 j = h 287 j ∧ q4 288 j = h 288 j) ∧ (∀ j, j < 5 * x1 → q4 289 j = h 289 j) ∧ q4 271 21 = x ∧ q4 271 20 = y ∧ ∀ j, q4 289 j = q 289 j := fun {q2 q3 q4 x y z} e2 e3 e4 => by
        have o : ∀ c, c ≠ 271 → ∀ k, q4 c k = q c k := fun c hc k => by
          rw [e4, fu_c hc, e3, fu_c hc, e2, fu_c hc]
        refine ⟨?_, ?_, ?_, ?_, fun j jn => ?_, fun j jn => ?_, ?_, ?_, fun j => ?_⟩
        · rw [e4, e3, e2]
          exact ((i3.up (by omega)).up (by omega)).up (by omega)
        · rw [e4, fu_e rfl rfl]
        · rw [o _ (by omega), i5]
        · rw [o _ (by omega), i6]
        · rw [o _ (by omega), o _ (by omega)]
          exact i7 j jn
        · rw [o _ (by omega)]
          exact i8 j jn
        · rw [e4, fu_k (by omega), e3, fu_k (by omega), e2, fu_e rfl rfl]
        · rw [e4, fu_k (by omega), e3, fu_e rfl rfl]
        · exact o _ (by omega) j
      have rd : ∀ {q2 : fH} {x : Int}, q2 = fu q 271 21 x → q2 271 20 = q 271 20 ∧ q2 271 21 = x ∧ q2 271 22 = x1 := fun e2 => by
        refine ⟨?_, ?_, ?_⟩
        · rw [e2, fu_k (by omega)]
        · rw [e2, fu_e rfl rfl]
        · rw [e2, fu_k (by omega), i4]
      refine ⟨fun w2 q2 eq2 z6 e6 z7 e7 => ?_, fun w2 v2 q2 hs2 => ?_⟩
      · obtain ⟨r1, r2, r3⟩ := rd eq2
        rw [r1] at e6
        rw [r2] at e7
        refine ⟨fun w => absurd w (by omega), fun _ z8 e8 q3 eq3 z9 e9 z10 e10 q4 eq4 => ?_⟩
        rw [eq3, fu_k (by omega), r3] at e9
        have f10 := wr_d e10 (by omega) (by omega)
        obtain ⟨s1, s2, s3, s4, s5, s6, s7, s8, s9⟩ := com eq2 eq3 eq4
        rcases i9 with ⟨j1, j2, j3, j4, j5⟩ | ⟨q0, j1, j2, j3⟩
        · omega
        · have bb := bd_b hL ⟨h0, h1⟩ j1
          have f8 := wr_d e8 (by omega) (by omega)
          exact ⟨s1, by omega, s3, s4, s5, s6, Or.inr ⟨q0, j1, s7, by omega⟩⟩
      · rcases i9 with ⟨j1, j2, j3, j4, j5⟩ | ⟨q0, j1, j2, j3⟩
        · have hx : x3 = dgF (atF L p) := by omega
          obtain ⟨a1, a2⟩ := sr_here hs2 (i3.ml M) j3 (by omega)
          rw [a1]
          rw [show p + 1 + x3 = p + dgF (atF L p) + 1 by omega] at a2
          refine ⟨fun w3 q3 eq3 z7 e7 z8 e8 => ?_, fun w3 q3 eq3 z7 e7 z8 e8 => ?_⟩
          · obtain ⟨r1, r2, r3⟩ := rd eq3
            rw [r1] at e7
            rw [r2] at e8
            refine ⟨fun _ z9 e9 q4 eq4 z10 e10 z11 e11 q5 eq5 => ?_, fun w => absurd e8 w⟩
            rw [eq4, fu_k (by omega), r3] at e10
            have f11 := wr_d e11 (by omega) (by omega)
            have f9 := wr_d e9 (by omega) (by omega)
            obtain ⟨s1, s2, s3, s4, s5, s6, s7, s8, s9⟩ := com eq3 eq4 eq5
            refine ⟨s1, by omega, s3, s4, s5, s6, Or.inl ⟨⟨j1, fun j l1 l2 => j4 j l1 (by omega), by rw [← a2]; exact w3⟩, s7, by omega, fun j l1 l2 => ?_⟩⟩
            rw [s9]
            exact j5 j l1 (by omega)
          · obtain ⟨r1, r2, r3⟩ := rd eq3
            rw [r1] at e7
            rw [r2] at e8
            refine ⟨fun w => absurd w (by omega), fun _ z9 e9 q4 eq4 z10 e10 z11 e11 q5 eq5 => ?_⟩
            rw [eq4, fu_k (by omega), r3] at e10
            have f11 := wr_d e11 (by omega) (by omega)
            have f9 := wr_d e9 (by omega) (by omega)
            obtain ⟨s1, s2, s3, s4, s5, s6, s7, s8, s9⟩ := com eq3 eq4 eq5
            refine ⟨s1, by omega, s3, s4, s5, s6, Or.inr ⟨p + dgF (atF L p) + 1, Or.inr (Or.inr ⟨j1, rfl, by rw [← a2]; exact w3, fun j l1 l2 => j4 j l1 (by omega)⟩), s7, by omega⟩⟩
        · omega
    · have pl : ∃ pp, q 271 20 = pp ∧ 0 ≤ pp ∧ pp ≤ 1000 := by
        rcases i9 with ⟨j1, j2, j3, j4, j5⟩ | ⟨q0, j1, j2, j3⟩
        · exact ⟨_, j3, by omega, by omega⟩
        · have bb := bd_b hL ⟨h0, h1⟩ j1
          exact ⟨_, j3, by omega, by omega⟩
      obtain ⟨pp, p1, p2, p3⟩ := pl
      obtain ⟨c1, c2⟩ := sr_readDigit hs2 (i3.ml M) hL p1 p2 p3 (by
        rcases i9 with ⟨j1, j2, j3, j4, j5⟩ | ⟨q0, j1, j2, j3⟩
        · exact Or.inl j2
        · exact Or.inr j2)
      have f5 : z5 = 5 * x1 := by
        clear i9 c2
        exact wr_d e5 (by omega) (by omega)
      have f6 : z6 = z5 + x3 := by
        clear i9 c2
        exact wr_d e6 (by omega) (by omega)
      have f8 : z8 = x3 + 1 := by
        clear i9 c2
        exact wr_d e8 (by omega) (by omega)
      have o : ∀ c k, c ≠ 289 → q3 c k = q2 c k := fun c k hc => by rw [eq3, fu_c hc]
      have o9 : ∀ j, j ≠ z6 → q3 289 j = q 289 j := fun j hj => by
        rw [eq3, fu_k hj]
        exact c1 _ _ (by omega)
      refine ⟨rfl, rfl, rfl, by omega, by omega, ?_, ?_, ?_, ?_, fun j jn => ?_, fun j jn => ?_, ?_⟩
      · rw [eq3]
        exact (i3.tr c1.t).up (by omega)
      · rw [o _ _ (by omega), c1 _ _ (by omega)]
        exact i4
      · rw [o _ _ (by omega), c1 _ _ (by omega)]
        exact i5
      · rw [o _ _ (by omega), c1 _ _ (by omega)]
        exact i6
      · rw [o _ _ (by omega), o _ _ (by omega), c1 _ _ (by omega), c1 _ _ (by omega)]
        exact i7 j jn
      · rw [o9 j (by omega)]
        exact i8 j jn
      · rw [o 271 21 (by omega), o 271 20 (by omega)]
        rcases i9 with ⟨j1, j2, j3, j4, j5⟩ | ⟨q0, j1, j2, j3⟩
        · have ep : pp = p + 1 + x3 := by omega
          rcases c2 with ⟨l1, l2, l3, l4, l5⟩ | ⟨l1, l2, l3⟩
          · refine Or.inl ⟨j1, l5, by omega, fun j m1 m2 => ?_, fun j m1 m2 => ?_⟩
            · by_cases r : j = pp
              · rw [r]
                exact l2
              · exact j4 j m1 (by omega)
            · by_cases r : j = x3
              · rw [eq3, fu_e rfl (by omega), l3, ep, r]
              · rw [o9 _ (by omega)]
                exact j5 j m1 (by omega)
          · exact Or.inr ⟨pp, Or.inr (Or.inl ⟨j1, by omega, by omega, fun d => l1 ⟨j2, d⟩, fun j m1 m2 => j4 j m1 (by omega)⟩), l3, l2⟩
        · rcases c2 with ⟨l1, l2, l3, l4, l5⟩ | ⟨l1, l2, l3⟩
          · omega
          · exact Or.inr ⟨q0, j1, l3, by omega⟩
end TX
