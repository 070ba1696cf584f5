/-! the class's methods that think in mind (the second town, object 34): nothing else changes but refusals -/
def SC (h0 h : fH) : Prop := (∀ c k, ¬ (c = 3 ∨ (34 ≤ c ∧ c ≤ 56) ∨ (268 ≤ c ∧ c ≤ 270)) → h c k = h0 c k) ∧ RW h 34
section MI
variable {h h' h0 h1 : fH} {v z c k p f b e : Int} {g G : gV}
theorem SC.rf (hW : RW h0 34) : SC h0 h0 := ⟨fun _ _ _ => rfl, hW⟩
theorem SC.up (hS : SC h0 h) (hc : c = 3 ∨ (34 ≤ c ∧ c ≤ 56 ∧ c ≠ 53) ∨ (268 ≤ c ∧ c ≤ 270)) : SC h0 (fu h c k z) := by
  refine ⟨fun c' k' q => ?_, fun w j1 j2 => ?_, fun w w' j1 j2 j3 => ?_⟩
  · rw [fu_c (by omega)]
    exact hS.1 c' k' q
  · rw [fu_c (by omega)]
    exact hS.2.1 w j1 j2
  · rw [fu_c (by omega), fu_c (by omega)]
    exact hS.2.2 w w' j1 j2 j3
theorem SC.cp (hS : SC h0 h) {i n : Int} (hc : c = 3 ∨ (34 ≤ c ∧ c ≤ 56 ∧ c ≠ 53) ∨ (268 ≤ c ∧ c ≤ 270)) : SC h0 (fcp h i c n) := by
  refine ⟨fun c' k' q => ?_, fun w j1 j2 => ?_, fun w w' j1 j2 j3 => ?_⟩
  · rw [fcp_c (by omega)]
    exact hS.1 c' k' q
  · rw [fcp_c (by omega)]
    exact hS.2.1 w j1 j2
  · rw [fcp_c (by omega), fcp_c (by omega)]
    exact hS.2.2 w w' j1 j2 j3
theorem SC.frC (hS : SC h0 h) (hf : frC 34 h h') (hW : RW h' 34) : SC h0 h' := ⟨fun c k q => by rw [hf c k (by omega)]; exact hS.1 c k q, hW⟩
theorem SC.r11 (hS : SC h0 h) (R : RC h0 11 g) (hB : BG g) : RC h 11 g := RC_cg R hB (fun c k j1 j2 => hS.1 c k (by omega))
abbrev SCs (h0 : fH) : Nat → fH → Prop := fun _ h => SC h0 h
def pC : xP := fun s c k => match k with
  | some _ => none
  | none => match decide (c = 3 ∨ (34 ≤ c ∧ c ≤ 56 ∧ c ≠ 53) ∨ (268 ≤ c ∧ c ≤ 270)) with
    | true => some s
    | false => none
theorem SC_L : XL (SCs h0) := fun _ _ _ _ h => h
theorem SC_P : XP (SCs h0) pC := by
  refine ⟨fun s c k s' h z hp hs => ?_, fun s c s' h i z hp hs => ?_, fun s c s' h i n hp hs => ?_⟩
  · cases hp
  · unfold pC at hp
    dsimp only at hp
    split at hp
    · rename_i q
      exact hs.up (of_decide_eq_true q)
    · cases hp
  · unfold pC at hp
    dsimp only at hp
    split at hp
    · rename_i q
      exact hs.cp (of_decide_eq_true q)
    · cases hp
theorem l_l2 {as : List Int} {a b : Int} (h : as.length = 2) (hr : xR [some a, some b] as) : as = [a, b] := by
  match as, h, hr with
  | [x, y], _, ⟨h1, h2, _⟩ => rw [h1, h2]
theorem sm_copy (hs : fS 23 [34, 11] h v h') (hS : SC h0 h) (R : RC h0 11 g) (hB : BG g) : SC h0 h' ∧ RC h' 34 g := by
  obtain ⟨a1, a2⟩ := sc_copyFrom hs (hS.r11 R hB) hB hS.2 (by unfold tw; omega) (by unfold tw; omega) (by omega)
  exact ⟨hS.frC a2 a1.rw', a1⟩
theorem sm_copyX (R : RC h0 11 g) (hB : BG g) : XC (SCs h0) (23, [some 34, some 11], 0, 0) := fun as h v h' hr hs hS => by
  have e := l_l2 (fS_len hS) hr
  rw [e] at hS
  exact (sm_copy hS hs R hB).1
theorem sm_off {off : Int} (hs : fS 124 [1, off] h v h') (hS : SC h0 h) (R : RC h0 11 g) (hB : BG g) : SC h0 h' := by
  have hB' := hB
  unfold BG at hB'
  refine vc_callOffInMind hs (fun x0 x1 x2 q => -1 ≤ x2 ∧ x2 < 7 ∧ SC h0 q ∧ ∃ G, BG G ∧ RC q 34 G ∧ x2 < G 2) (fun _ q => SC h0 q) ?_ ?_
  · intro v1 k1 hs1 z3 e3 z4 e4
    obtain ⟨s1, r1⟩ := sm_copy hs1 hS R hB
    rw [(s1.r11 R hB).opn] at e3
    subst e3
    rw [wr_id (by omega) (by omega)] at e4
    subst e4
    exact ⟨by omega, by omega, s1, g, hB, r1, by omega⟩
  · rintro x0 x1 x2 q ⟨i1, i2, s1, G, bG, r1, i3⟩
    refine ⟨fun _ => s1, fun q0 z3 e3 z4 e4 => ⟨fun q1 z5 e5 => ?_, fun q1 v1 k1 hs1 z6 e6 => ?_⟩⟩
    · rw [wr_id (by omega) (by omega)] at e5
      subst e5
      exact ⟨by omega, by omega, s1, G, bG, r1, by omega⟩
    · obtain ⟨a1, a2⟩ := sc_close hs1 r1 bG q0 i3
      rw [wr_id (by omega) (by omega)] at e6
      subst e6
      have d0 : dropF G x2 0 = G 0 := by
        unfold dropF
        rw [if_neg (by omega), if_neg (by omega)]
      have d2 : dropF G x2 2 = G 2 - 1 := if_pos rfl
      refine ⟨by omega, by omega, s1.frC a2 a1.rw', _, ?_, a1, by omega⟩
      unfold BG at bG ⊢
      rw [d0, d2]
      omega
theorem sm_offX (R : RC h0 11 g) (hB : BG g) : XC (SCs h0) (124, [some 1, none], 0, 0) := fun as h v h' hr hs hS => by
  have hl := fS_len hS
  match as, hl, hr with
  | [x, y], _, ⟨hx, _⟩ =>
    subst hx
    exact sm_off hS hs R hB
theorem sm_row (hs : fS 131 [1, p] h v h') : h' = h := S0_eq (rq := [none, none]) (as := [1, p]) (fun _ => fz_vc_isRowSoInMind) trivial hs
theorem SC.bec (hS : SC h0 h) (hs : fS 29 [34, p, k, f] h v h') (h1 : 0 ≤ k) (h2 : k ≤ 5) (h3 : 0 ≤ f) (h4 : f ≤ 9) : SC h0 h' := by
  rw [sc_become hs h1 h2 h3 h4]
  exact ((((hS.up (by omega)).up (by omega)).up (by omega)).up (by omega)).up (by omega)
theorem sm_whatKind {a1 a2 : Int} (hs : fS 132 [1, a1, a2] h v h') (hS : SC h0 h) (R : RC h0 11 g) (W : WF g) : SC h0 h' := by
  have rf : ∀ {z2 z4 k1}, k1 = fu h 3 z2 z4 → SC h0 k1 := fun e => by rw [e]; exact hS.up (by omega)
  refine vc_whatKind hs (fun x0 x1 x2 x3 x4 q => x0 = 1 ∧ 0 ≤ x1 ∧ x1 < g 0 ∧ 0 ≤ x4 ∧ x4 ≤ 10 ∧ SC h0 q) (fun _ q => SC h0 q) ?_ ?_
  · refine ⟨fun _ z3 _ z4 _ z5 _ k1 ek1 => rf ek1, fun q1 z3 e3 => ⟨fun _ z4 _ z5 _ z6 _ k1 ek1 => rf ek1, fun q2 => ⟨fun _ z4 _ z5 _ z6 _ k1 ek1 => rf ek1, fun q3 => ⟨fun _ z4 _ z5 _ z6 _ k1 ek1 => rf ek1, fun q4 v1 k1 hs1 => ?_⟩⟩⟩⟩
    have := (hS.r11 R W.bg).many
    exact ⟨rfl, q1, by omega, by omega, by omega, (sm_copy hs1 hS R W.bg).1⟩
  · rintro x0 x1 x2 x3 x4 q ⟨rfl, i1, i2, i3, i4, s1⟩
    have r1 := s1.r11 R W.bg
    have wp := W.per i1 i2
    have f6 : f_len 4 = 6 := by decide +kernel
    have key : ∀ {kk ff : Int} {v1 v2 : Int} {k1 k2 : fH}, fS 29 [34, x1, kk, ff] q v1 k1 → fS 131 [1, x1] k1 v2 k2 → 0 ≤ kk → kk ≤ 5 → 0 ≤ ff → ff ≤ 9 → SC h0 k2 := fun a1 a2 c1 c2 c3 c4 => by
      rw [sm_row a2]
      exact s1.bec a1 c1 c2 c3 c4
    refine ⟨fun q1 => ⟨fun _ => s1, fun q2 => ⟨fun _ z5 e5 v1 k1 hs1 v2 k2 hs2 => ?_, fun q3 => absurd q3 q1⟩⟩, fun q1 z5 e5 => ⟨fun _ => s1, fun q2 => ⟨fun q3 => absurd q1 q3, fun _ z6 e6 v1 k1 hs1 v2 k2 hs2 => ?_⟩⟩⟩
    · have e5 := e5.trans (r1.kind i1 i2)
      have s2 := key hs1 hs2 (by omega) (by omega) (by omega) (by omega)
      refine ⟨fun _ z8 e8 => ?_, fun _ z8 e8 z9 e9 z10 e10 => ?_⟩
      · rw [wr_id (by omega) (by omega)] at e8
        exact ⟨rfl, i1, i2, by omega, by omega, s2⟩
      · rw [wr_id (by omega) (by omega)] at e10
        exact ⟨rfl, i1, i2, by omega, by omega, s2⟩
    · rw [f6] at e5
      have e6 := e6.trans (r1.fig i1 i2)
      have s2 := key hs1 hs2 (by omega) (by omega) (by omega) (by omega)
      refine ⟨fun _ z8 e8 => ?_, fun _ z8 e8 z9 e9 z10 e10 => ?_⟩
      · rw [wr_id (by omega) (by omega)] at e8
        exact ⟨rfl, i1, i2, by omega, by omega, s2⟩
      · rw [wr_id (by omega) (by omega)] at e10
        exact ⟨rfl, i1, i2, by omega, by omega, s2⟩
theorem sm_uponWhat {a1 a2 : Int} (hs : fS 130 [1, a1, a2] h v h') (hS : SC h0 h) (R : RC h0 11 g) (W : WF g) : SC h0 h' := by
  have hB := W.bg
  unfold BG at hB
  have rf : ∀ {z2 z4 k1}, k1 = fu h 3 z2 z4 → SC h0 k1 := fun e => by rw [e]; exact hS.up (by omega)
  refine vc_uponWhat hs (fun x0 x1 x2 x4 x5 x6 q => x0 = 1 ∧ 54 ≤ x4 ∧ x4 ≤ 56 ∧ SC h0 q) (fun _ q => SC h0 q) ?_ ?_
  · refine ⟨fun _ z3 _ z4 _ z5 _ k1 ek1 => rf ek1, fun q1 z3 e3 => ⟨fun _ z4 _ z5 _ z6 _ k1 ek1 => rf ek1, fun q2 => ⟨fun _ z4 _ z5 _ z6 _ k1 ek1 => rf ek1, fun q3 => ⟨fun _ z4 _ z5 _ z6 _ k1 ek1 => rf ek1, fun q4 v1 k1 hs1 v2 k2 hs2 => ?_⟩⟩⟩⟩
    obtain ⟨s1, r1⟩ := sm_copy hs1 hS R W.bg
    obtain ⟨rfl, w2⟩ := sc_wagerWith hs2 r1 W
    refine ⟨fun q5 z6 e6 => ?_, fun _ => s1⟩
    rcases w2 with w2 | w2
    · omega
    · have := r1.wr q5 (by omega : v2 < 3)
      have e53 : (34 : Int) + 19 = 53 := rfl
      rw [e53] at this
      exact ⟨rfl, by omega, by omega, s1⟩
  · rintro x0 x1 x2 x4 x5 x6 q ⟨rfl, i1, i2, s1⟩
    have key : ∀ {kk zz : Int} {v2 : Int} {k1 k2 : fH}, k1 = fu q x4 kk zz → fS 131 [1, x1] k1 v2 k2 → SC h0 k2 := fun a1 a2 => by
      rw [sm_row a2, a1]
      exact s1.up (by omega)
    refine ⟨fun q1 => ⟨fun _ => s1, fun q2 => ⟨fun _ k1 ek1 v2 k2 hs2 => ?_, fun q3 => absurd q3 q1⟩⟩, fun q1 => ⟨fun _ => s1, fun q2 => ⟨fun q3 => absurd q1 q3, fun _ k1 ek1 v2 k2 hs2 => ?_⟩⟩⟩
    · have s2 := key ek1 hs2
      exact ⟨fun _ z8 e8 => ⟨rfl, i1, i2, s2⟩, fun _ z8 e8 z9 e9 z10 e10 => ⟨rfl, i1, i2, s2⟩⟩
    · have s2 := key ek1 hs2
      exact ⟨fun _ z8 e8 => ⟨rfl, i1, i2, s2⟩, fun _ z8 e8 z9 e9 z10 e10 => ⟨rfl, i1, i2, s2⟩⟩
theorem sm_bits (hs : fS 120 [p] h v h') : h' = h := S0_eq (rq := [none]) (as := [p]) (fun _ => fz_vj_bitCount) trivial hs
theorem sm_woo (hs : fS 110 [b, p] h v h') : h' = h := S0_eq (rq := [none, none]) (as := [b, p]) (fun _ => fz_vt_wooerBits) trivial hs
theorem sm_preach {a1 : Int} (hs : fS 119 [1, a1] h v h') (hS : SC h0 h) (R : RC h0 11 g) (W : WF g) : SC h0 h' := by
  have hB := W.bg
  unfold BG at hB
  have rf : ∀ {z2 z4 k1}, k1 = fu h 3 z2 z4 → SC h0 k1 := fun e => by rw [e]; exact hS.up (by omega)
  refine vc_preach hs (fun x0 x1 x2 x3 x4 q => x0 = 1 ∧ 0 ≤ x4 ∧ x4 ≤ 7 ∧ SC h0 q) (fun _ q => SC h0 q) ?_ ?_
  · refine ⟨fun _ z3 _ z4 _ z5 _ k1 ek1 => rf ek1, fun q1 => ⟨fun _ z4 _ z5 _ z6 _ k1 ek1 => rf ek1, fun q2 v1 k1 hs1 => ?_⟩⟩
    exact ⟨rfl, by omega, by omega, (sm_copy hs1 hS R W.bg).1⟩
  · rintro x0 x1 x2 x3 x4 q ⟨rfl, i1, i2, s1⟩ z5 e5
    rw [(s1.r11 R W.bg).many] at e5
    refine ⟨fun _ => s1, fun q1 z6 e6 z7 e7 z8 e8 z9 e9 k1 ek1 v2 k2 hs2 v3 k3 hs3 => ?_⟩
    have s2 : SC h0 k1 := by
      rw [ek1]
      exact s1.up (by omega)
    have e2 := sm_woo hs2
    have e3 := sm_bits hs3
    have s2' : SC h0 k3 := by
      rw [e3, e2]
      exact s2
    have s3 : ∀ {zz z6 z7 : Int} {kb kk : fH}, kb = k3 → zz = 43 + 1 + 1 * x4 → kk = fu kb zz x1 z6 → z7 = wr (x4 + 1) → (1 : Int) = 1 ∧ 0 ≤ z7 ∧ z7 ≤ 7 ∧ SC h0 kk := fun a0 a1 a2 a3 => by
      rw [wr_id (by omega) (by omega)] at a3
      rw [a2, a0]
      exact ⟨rfl, by omega, by omega, s2'.up (by omega)⟩
    refine ⟨fun _ z12 e12 z13 e13 z14 e14 k4 ek4 z15 e15 => s3 rfl e12 ek4 e15, fun _ v4 k4 hs4 v5 k5 hs5 => ?_⟩
    have e4 := sm_woo hs4
    have e5 := sm_bits hs5
    have e6 : k5 = k3 := e5.trans e4
    exact ⟨fun _ z14 e14 z15 e15 z16 e16 k6 ek6 z17 e17 => s3 e6 e14 ek6 e17, fun _ z14 e14 z15 e15 z16 e16 k6 ek6 z17 e17 => s3 e6 e14 ek6 e17⟩
theorem sm_can {a1 a2 a3 a4 : Int} (hs : fS 56 [b, a1, a2, a3, a4] h v h') : h' = h := S0_eq (rq := [none, none, none, none, none]) (as := [b, a1, a2, a3, a4]) (fun _ => fz_vt_canBe) trivial hs
theorem sm_gain {a1 a2 a3 a4 a5 : Int} (hs : fS 126 [1, a1, a2, a3, a4, a5] h v h') (hS : SC h0 h) (p1 : 0 ≤ a1) (p2 : a1 < 7) (p3 : 0 ≤ a2) (p4 : a2 < 7) : SC h0 h' := by
  refine vc_gainOfTwo hs (fun _ q => SC h0 q) ?_
  intro z6 e6 z7 e7 k1 ek1 z8 e8 z9 e9 k2 ek2 v3 k3 hs3
  have s2 : SC h0 k2 := by
    rw [ek2, ek1]
    exact (hS.up (by omega)).up (by omega)
  have e3 := sm_can hs3
  subst e3
  exact ⟨fun _ => s2, fun _ z11 _ z12 _ z13 _ z14 _ z15 _ z16 _ => ⟨fun _ => s2, fun _ => s2⟩⟩
theorem sm_fre (hs : fS 57 [b, p] h v h') : h' = h := S0_eq (rq := [none, none]) (as := [b, p]) (fun _ => fz_vt_isFree) trivial hs
theorem sm_two {a1 a2 a3 : Int} (hs : fS 125 [1, a1, a2, a3] h v h') (hS : SC h0 h) (R : RC h0 11 g) (W : WF g) : SC h0 h' := by
  have hB := W.bg
  unfold BG at hB
  have rf : ∀ {z2 z4 k1}, k1 = fu h 3 z2 z4 → SC h0 k1 := fun e => by rw [e]; exact hS.up (by omega)
  have r0 := (hS.r11 R W.bg).many
  refine vc_two hs (fun x0 x1 x2 x3 x4 q => x0 = 1 ∧ (0 ≤ x1 ∧ x1 < 7 ∧ 0 ≤ x2 ∧ x2 < 7) ∧ SC h0 q) (fun x0 x1 x2 x3 x4 x5 q => x0 = 1 ∧ (0 ≤ x1 ∧ x1 < 7 ∧ 0 ≤ x2 ∧ x2 < 7) ∧ SC h0 q) (fun _ q => SC h0 q) ?_ ?_ ?_
  · refine ⟨fun _ z4 _ z5 _ z6 _ k1 ek1 => rf ek1, fun q1 z4 e4 => ⟨fun _ z5 _ z6 _ z7 _ k1 ek1 => rf ek1, fun q2 => ⟨fun _ z5 _ z6 _ z7 _ k1 ek1 => rf ek1, fun q3 z5 e5 => ⟨fun _ z6 _ z7 _ z8 _ k1 ek1 => rf ek1, fun q4 => ⟨fun _ z6 _ z7 _ z8 _ k1 ek1 => rf ek1, fun q5 => ⟨fun _ z6 _ z7 _ z8 _ k1 ek1 => rf ek1, fun q6 => ⟨fun _ z6 _ z7 _ z8 _ k1 ek1 => rf ek1, fun q7 v1 k1 hs1 => ?_⟩⟩⟩⟩⟩⟩⟩
    have e1 := sm_fre hs1
    subst e1
    refine ⟨fun _ z7 _ z8 _ z9 _ k2 ek2 => rf ek2, fun _ v2 k2 hs2 => ?_⟩
    have e2 := sm_fre hs2
    subst e2
    exact ⟨fun _ v3 k3 hs3 => ⟨rfl, ⟨q1, by omega, q3, by omega⟩, (sm_copy hs3 hS R W.bg).1⟩, fun _ z8 _ z9 _ z10 _ k3 ek3 => rf ek3⟩
  · rintro x0 x1 x2 x3 x4 q ⟨rfl, i1, s1⟩
    exact ⟨fun _ => s1, fun _ => ⟨rfl, i1, s1⟩⟩
  · rintro x0 x1 x2 x3 x4 x5 q ⟨rfl, i1, s1⟩
    refine ⟨fun _ z6 _ => ⟨rfl, i1, s1⟩, fun _ v1 k1 hs1 z7 _ z8 _ z9 _ v2 k2 hs2 z11 _ z12 _ z13 _ => ?_⟩
    have s2 := sm_gain hs2 (sm_gain hs1 s1 i1.1 i1.2.1 i1.2.2.1 i1.2.2.2) i1.1 i1.2.1 i1.2.2.1 i1.2.2.2
    refine ⟨fun _ z14 _ z15 _ z16 _ v3 k3 hs3 z18 _ z19 _ z20 _ => ?_, fun _ z14 _ z15 _ z16 _ v3 k3 hs3 z18 _ z19 _ z20 _ => ?_⟩
    · have s3 := sm_gain hs3 s2 i1.1 i1.2.1 i1.2.2.1 i1.2.2.2
      exact ⟨fun _ z21 _ => ⟨rfl, i1, s3⟩, fun _ z21 _ => ⟨rfl, i1, s3⟩⟩
    · have s3 := sm_gain hs3 s2 i1.1 i1.2.1 i1.2.2.1 i1.2.2.2
      exact ⟨fun _ z21 _ => ⟨rfl, i1, s3⟩, fun _ z21 _ z22 _ => s3⟩
end MI
