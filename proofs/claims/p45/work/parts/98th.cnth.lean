/-! each call counts its refusal, by hand: calls in mind, two, proposes, image, town; what count answers -/
def SD (h0 h : fH) : Prop := (∀ c k, ¬ ((34 ≤ c ∧ c ≤ 56)) → h c k = h0 c k) ∧ RW h 34
section SDS
variable {h h' h0 h1 : fH} {v z c k p f b e : Int} {g G : gV}
theorem SD.rf (hW : RW h0 34) : SD h0 h0 := ⟨fun _ _ _ => rfl, hW⟩
theorem SD.up (hS : SD h0 h) (hc : (34 ≤ c ∧ c ≤ 56 ∧ c ≠ 53)) : SD h0 (fu h c k z) := by
  refine ⟨fun c' k' q => ?_, fun w j1 j2 => ?_, fun w w' j1 j2 j3 => ?_⟩
  · rw [fu_c (by omega)]
    exact hS.1 c' k' q
  · rw [fu_c (by omega)]
    exact hS.2.1 w j1 j2
  · rw [fu_c (by omega), fu_c (by omega)]
    exact hS.2.2 w w' j1 j2 j3
theorem SD.cp (hS : SD h0 h) {i n : Int} (hc : (34 ≤ c ∧ c ≤ 56 ∧ c ≠ 53)) : SD h0 (fcp h i c n) := by
  refine ⟨fun c' k' q => ?_, fun w j1 j2 => ?_, fun w w' j1 j2 j3 => ?_⟩
  · rw [fcp_c (by omega)]
    exact hS.1 c' k' q
  · rw [fcp_c (by omega)]
    exact hS.2.1 w j1 j2
  · rw [fcp_c (by omega), fcp_c (by omega)]
    exact hS.2.2 w w' j1 j2 j3
theorem SD.frC (hS : SD h0 h) (hf : frC 34 h h') (hW : RW h' 34) : SD h0 h' := ⟨fun c k q => by rw [hf c k (by omega)]; exact hS.1 c k q, hW⟩
theorem SD.r11 (hS : SD h0 h) (R : RC h0 11 g) (hB : BG g) : RC h 11 g := RC_cg R hB (fun c k j1 j2 => hS.1 c k (by omega))
abbrev SDs (h0 : fH) : Nat → fH → Prop := fun _ h => SD h0 h
def pD : xP := fun s c k => match k with
  | some _ => none
  | none => match decide ((34 ≤ c ∧ c ≤ 56 ∧ c ≠ 53)) with
    | true => some s
    | false => none
theorem SD_L : XL (SDs h0) := fun _ _ _ _ h => h
theorem SD_P : XP (SDs h0) pD := by
  refine ⟨fun s c k s' h z hp hs => ?_, fun s c s' h i z hp hs => ?_, fun s c s' h i n hp hs => ?_⟩
  · cases hp
  · unfold pD at hp
    dsimp only at hp
    split at hp
    · rename_i q
      exact hs.up (of_decide_eq_true q)
    · cases hp
  · unfold pD at hp
    dsimp only at hp
    split at hp
    · rename_i q
      exact hs.cp (of_decide_eq_true q)
    · cases hp
theorem ld_l2 {as : List Int} {a b : Int} (h : as.length = 2) (hr : xR [some a, some b] as) : as = [a, b] := by
  match as, h, hr with
  | [x, y], _, ⟨h1, h2, _⟩ => rw [h1, h2]
theorem sd_copy (hs : fS 23 [34, 11] h v h') (hS : SD h0 h) (R : RC h0 11 g) (hB : BG g) : SD h0 h' ∧ RC h' 34 g := by
  obtain ⟨a1, a2⟩ := sc_copyFrom hs (hS.r11 R hB) hB hS.2 (by unfold tw; omega) (by unfold tw; omega) (by omega)
  exact ⟨hS.frC a2 a1.rw', a1⟩
theorem sd_copyX (R : RC h0 11 g) (hB : BG g) : XC (SDs h0) (23, [some 34, some 11], 0, 0) := fun as h v h' hr hs hS => by
  have e := ld_l2 (fS_len hS) hr
  rw [e] at hS
  exact (sd_copy hS hs R hB).1
theorem sd_off {off : Int} (hs : fS 124 [1, off] h v h') (hS : SD h0 h) (R : RC h0 11 g) (hB : BG g) : SD h0 h' := by
  have hB' := hB
  unfold BG at hB'
  refine vc_callOffInMind hs (fun x0 x1 x2 q => -1 ≤ x2 ∧ x2 < 7 ∧ SD h0 q ∧ ∃ G, BG G ∧ RC q 34 G ∧ x2 < G 2) (fun _ q => SD h0 q) ?_ ?_
  · intro v1 k1 hs1 z3 e3 z4 e4
    obtain ⟨s1, r1⟩ := sd_copy hs1 hS R hB
    rw [(s1.r11 R hB).opn] at e3
    subst e3
    rw [wr_id (by omega) (by omega)] at e4
    subst e4
    exact ⟨by omega, by omega, s1, g, hB, r1, by omega⟩
  · rintro x0 x1 x2 q ⟨i1, i2, s1, G, bG, r1, i3⟩
    refine ⟨fun _ => s1, fun q0 z3 e3 z4 e4 => ⟨fun q1 z5 e5 => ?_, fun q1 v1 k1 hs1 z6 e6 => ?_⟩⟩
    · rw [wr_id (by omega) (by omega)] at e5
      subst e5
      exact ⟨by omega, by omega, s1, G, bG, r1, by omega⟩
    · obtain ⟨a1, a2⟩ := sc_close hs1 r1 bG q0 i3
      rw [wr_id (by omega) (by omega)] at e6
      subst e6
      have d0 : dropF G x2 0 = G 0 := by
        unfold dropF
        rw [if_neg (by omega), if_neg (by omega)]
      have d2 : dropF G x2 2 = G 2 - 1 := if_pos rfl
      refine ⟨by omega, by omega, s1.frC a2 a1.rw', _, ?_, a1, by omega⟩
      unfold BG at bG ⊢
      rw [d0, d2]
      omega
theorem sd_offX (R : RC h0 11 g) (hB : BG g) : XC (SDs h0) (124, [some 1, none], 0, 0) := fun as h v h' hr hs hS => by
  have hl := fS_len hS
  match as, hl, hr with
  | [x, y], _, ⟨hx, _⟩ =>
    subst hx
    exact sd_off hS hs R hB
theorem sd_row (hs : fS 131 [1, p] h v h') : h' = h := S0_eq (rq := [none, none]) (as := [1, p]) (fun _ => fz_vc_isRowSoInMind) trivial hs
theorem SD.bec (hS : SD h0 h) (hs : fS 29 [34, p, k, f] h v h') (h1 : 0 ≤ k) (h2 : k ≤ 5) (h3 : 0 ≤ f) (h4 : f ≤ 9) : SD h0 h' := by
  rw [sc_become hs h1 h2 h3 h4]
  exact ((((hS.up (by omega)).up (by omega)).up (by omega)).up (by omega)).up (by omega)
theorem sd_bits (hs : fS 120 [p] h v h') : h' = h := S0_eq (rq := [none]) (as := [p]) (fun _ => fz_vj_bitCount) trivial hs
theorem sd_woo (hs : fS 110 [b, p] h v h') : h' = h := S0_eq (rq := [none, none]) (as := [b, p]) (fun _ => fz_vt_wooerBits) trivial hs
theorem sd_can {a1 a2 a3 a4 : Int} (hs : fS 56 [b, a1, a2, a3, a4] h v h') : h' = h := S0_eq (rq := [none, none, none, none, none]) (as := [b, a1, a2, a3, a4]) (fun _ => fz_vt_canBe) trivial hs
theorem sd_gain {a1 a2 a3 a4 a5 : Int} (hs : fS 126 [1, a1, a2, a3, a4, a5] h v h') (hS : SD h0 h) (p1 : 0 ≤ a1) (p2 : a1 < 7) (p3 : 0 ≤ a2) (p4 : a2 < 7) : SD h0 h' := by
  refine vc_gainOfTwo hs (fun _ q => SD h0 q) ?_
  intro z6 e6 z7 e7 k1 ek1 z8 e8 z9 e9 k2 ek2 v3 k3 hs3
  have s2 : SD h0 k2 := by
    rw [ek2, ek1]
    exact (hS.up (by omega)).up (by omega)
  have e3 := sd_can hs3
  subst e3
  exact ⟨fun _ => s2, fun _ z11 _ z12 _ z13 _ z14 _ z15 _ z16 _ => ⟨fun _ => s2, fun _ => s2⟩⟩
theorem sd_fre (hs : fS 57 [b, p] h v h') : h' = h := S0_eq (rq := [none, none]) (as := [b, p]) (fun _ => fz_vt_isFree) trivial hs
theorem SD.upk {q q' : fH} (hS : SD h0 q) (e : q' = fu q c k z) (hc : 34 ≤ c ∧ c ≤ 56 ∧ c ≠ 53) : SD h0 q' := by
  rw [e]
  exact hS.up (by omega)
theorem SD.pu {q q' : fH} {j : Nat} {rq : List (Option Int)} {as : List Int} (hS : SD h0 q) (H : ∀ h, XC (S0 h) (j, rq, 0, 0)) (hs : fS j as q v q') (hr : xR rq as) : SD h0 q' := by
  rw [S0_eq H hr hs]
  exact hS
theorem SD.eq {q q' : fH} (hS : SD h0 q) (e : q' = q) : SD h0 q' := by
  rw [e]
  exact hS
end SDS
section KD
variable {h h' : fH} {v x y z w u : Int} {G : gS}
theorem kc_fix (hs : fS 118 [1, x] h v h') (C : CJ G h) (W : GW G) : rc 3 h h' (if x < 0 then 4 else if 30 < x then 6 else 0) := by
  have hB := W.1.1.1
  have jm : h 11 1 = G.1 0 := C.1.many
  have jo : h 11 14 = G.1 2 := C.1.opn
  have s0 : SD h h := SD.rf C.w34
  have fin : ∀ {q : fH}, SD h q → (if x < 0 then 4 else if 30 < x then 6 else 0 : Int) = 0 → rc 3 h q (if x < 0 then 4 else if 30 < x then 6 else 0) := fun s e => rc_0 (fun k => s.1 3 k (by omega)) e
  refine vc_fix hs (fun x0 x1 x2 x3 x4 q => 1 = x0 ∧ SD h q ∧ (if x < 0 then 4 else if 30 < x then 6 else 0 : Int) = 0) (fun x0 x1 x2 x3 x4 x5 q => 1 = x0 ∧ SD h q ∧ (if x < 0 then 4 else if 30 < x then 6 else 0 : Int) = 0) (fun _ q => rc 3 h q (if x < 0 then 4 else if 30 < x then 6 else 0)) ?_ ?_ ?_
  · exact ⟨fun q1 => ⟨fun q2 => fun v1 k1 hs1 => fun v2 k2 hs2 => ⟨rfl, (SD.pu (sd_copy hs1 s0 C.1 W.1.1.bg).1 (fun _ => fz_vt_howManyWed) hs2 trivial), by omega⟩, fun q2 => fun z2 e2 => fun z3 e3 => fun z4 e4 => fun k1 ek1 => rc_k e2 e3 e4 ek1 (fun k => s0.1 3 k (by omega)) (by omega)⟩, fun q1 => fun z2 e2 => fun z3 e3 => fun z4 e4 => fun k1 ek1 => rc_k e2 e3 e4 ek1 (fun k => s0.1 3 k (by omega)) (by omega)⟩
  · rintro x0 x1 x2 x3 x4 q ⟨rfl, i1, i2⟩
    exact ⟨fun q1 => fin i1 i2, fun q1 => ⟨rfl, i1, i2⟩⟩
  · rintro x0 x1 x2 x3 x4 x5 q ⟨rfl, i1, i2⟩
    exact ⟨fun q1 => fun z6 e6 => fun k1 ek1 => fun z7 e7 => ⟨rfl, (SD.upk i1 ek1 (by decide)), i2⟩, fun q1 => fun k1 ek1 => fun v2 k2 hs2 => ⟨fun q2 => fun z7 e7 => ⟨rfl, (SD.pu (SD.upk i1 ek1 (by decide)) (fun _ => fz_vt_howManyWed) hs2 trivial), i2⟩, fun q2 => fun z7 e7 => fun z8 e8 => fun z9 e9 => ⟨rfl, (SD.pu (SD.upk i1 ek1 (by decide)) (fun _ => fz_vt_howManyWed) hs2 trivial), i2⟩⟩⟩
theorem kc_hedge (hs : fS 123 [1, x, y] h v h') (C : CJ G h) (W : GW G) : rc 3 h h' (if x < 0 ∨ y < 0 then 4 else if 99 < x ∨ 30 < y then 6 else 0) := by
  have hB := W.1.1.1
  have jm : h 11 1 = G.1 0 := C.1.many
  have jo : h 11 14 = G.1 2 := C.1.opn
  have s0 : SD h h := SD.rf C.w34
  have fin : ∀ {q : fH}, SD h q → (if x < 0 ∨ y < 0 then 4 else if 99 < x ∨ 30 < y then 6 else 0 : Int) = 0 → rc 3 h q (if x < 0 ∨ y < 0 then 4 else if 99 < x ∨ 30 < y then 6 else 0) := fun s e => rc_0 (fun k => s.1 3 k (by omega)) e
  refine vc_hedge hs (fun x0 x1 x2 x3 x4 x5 q => 1 = x0 ∧ SD h q ∧ (if x < 0 ∨ y < 0 then 4 else if 99 < x ∨ 30 < y then 6 else 0 : Int) = 0) (fun _ q => rc 3 h q (if x < 0 ∨ y < 0 then 4 else if 99 < x ∨ 30 < y then 6 else 0)) ?_ ?_
  · exact ⟨fun q1 => fun z3 e3 => fun z4 e4 => fun z5 e5 => fun k1 ek1 => rc_k e3 e4 e5 ek1 (fun k => s0.1 3 k (by omega)) (by omega), fun q1 => ⟨fun q2 => ⟨fun q3 => fun z3 e3 => fun z4 e4 => fun z5 e5 => fun k1 ek1 => rc_k e3 e4 e5 ek1 (fun k => s0.1 3 k (by omega)) (by omega), fun q3 => ⟨fun q4 => fun z3 e3 => fun z4 e4 => (have f4 := wr_f e4; ⟨rfl, s0, by omega⟩), fun q4 => fun z3 e3 => fun z4 e4 => fun z5 e5 => fun k1 ek1 => rc_k e3 e4 e5 ek1 (fun k => s0.1 3 k (by omega)) (by omega)⟩⟩, fun q2 => fun z3 e3 => fun z4 e4 => fun z5 e5 => fun k1 ek1 => rc_k e3 e4 e5 ek1 (fun k => s0.1 3 k (by omega)) (by omega)⟩⟩
  · rintro x0 x1 x2 x3 x4 x5 q ⟨rfl, i1, i2⟩
    exact fun z6 e6 => fun z7 e7 => ⟨fun q1 => fin i1 i2, fun q1 => fun v1 k1 hs1 => fun v2 k2 hs2 => ⟨fun q2 => fun z10 e10 => ⟨rfl, (SD.pu (sd_off hs1 i1 C.1 W.1.1.bg) (fun _ => fz_vj_bitCount) hs2 trivial), i2⟩, fun q2 => fun v3 k3 hs3 => ⟨fun q3 => fun z11 e11 => ⟨rfl, (SD.pu (SD.pu (sd_off hs1 i1 C.1 W.1.1.bg) (fun _ => fz_vj_bitCount) hs2 trivial) (fun _ => fz_vt_allTears) hs3 trivial), i2⟩, fun q3 => fun v4 k4 hs4 => fun z12 e12 => ⟨rfl, (SD.pu (SD.pu (SD.pu (sd_off hs1 i1 C.1 W.1.1.bg) (fun _ => fz_vj_bitCount) hs2 trivial) (fun _ => fz_vt_allTears) hs3 trivial) (fun _ => fz_vj_bitCount) hs4 trivial), i2⟩⟩⟩⟩
theorem kc_lots (hs : fS 137 [1, x, y, z] h v h') (C : CJ G h) (W : GW G) : rc 3 h h' (if x < 1 then 4 else if 20 < x then 6 else if z < 0 ∨ 1 < z then 2 else 0) := by
  have hB := W.1.1.1
  have jm : h 11 1 = G.1 0 := C.1.many
  have jo : h 11 14 = G.1 2 := C.1.opn
  have s0 : SD h h := SD.rf C.w34
  have fin : ∀ {q : fH}, SD h q → (if x < 1 then 4 else if 20 < x then 6 else if z < 0 ∨ 1 < z then 2 else 0 : Int) = 0 → rc 3 h q (if x < 1 then 4 else if 20 < x then 6 else if z < 0 ∨ 1 < z then 2 else 0) := fun s e => rc_0 (fun k => s.1 3 k (by omega)) e
  refine vc_lots hs (fun x0 x1 x3 x4 x5 x6 q => 1 = x0 ∧ SD h q ∧ (if x < 1 then 4 else if 20 < x then 6 else if z < 0 ∨ 1 < z then 2 else 0 : Int) = 0) (fun x0 x1 x3 x4 x5 x6 x7 q => 1 = x0 ∧ SD h q ∧ (if x < 1 then 4 else if 20 < x then 6 else if z < 0 ∨ 1 < z then 2 else 0 : Int) = 0) (fun _ q => rc 3 h q (if x < 1 then 4 else if 20 < x then 6 else if z < 0 ∨ 1 < z then 2 else 0)) ?_ ?_ ?_
  · exact ⟨fun q1 => ⟨fun q2 => ⟨fun q3 => fun z4 e4 => fun z5 e5 => fun z6 e6 => fun k1 ek1 => rc_k e4 e5 e6 ek1 (fun k => s0.1 3 k (by omega)) (by omega), fun q3 => ⟨fun q4 => fun z4 e4 => fun z5 e5 => fun z6 e6 => fun k1 ek1 => rc_k e4 e5 e6 ek1 (fun k => s0.1 3 k (by omega)) (by omega), fun q4 => fun v1 k1 hs1 => ⟨rfl, (sd_copy hs1 s0 C.1 W.1.1.bg).1, by omega⟩⟩⟩, fun q2 => fun z4 e4 => fun z5 e5 => fun z6 e6 => fun k1 ek1 => rc_k e4 e5 e6 ek1 (fun k => s0.1 3 k (by omega)) (by omega)⟩, fun q1 => fun z4 e4 => fun z5 e5 => fun z6 e6 => fun k1 ek1 => rc_k e4 e5 e6 ek1 (fun k => s0.1 3 k (by omega)) (by omega)⟩
  · rintro x0 x1 x3 x4 x5 x6 q ⟨rfl, i1, i2⟩
    exact ⟨fun q1 => fin i1 i2, fun q1 => ⟨rfl, i1, i2⟩⟩
  · rintro x0 x1 x3 x4 x5 x6 x7 q ⟨rfl, i1, i2⟩
    exact ⟨fun q1 => ⟨fun q2 => fun v1 k1 hs1 => fun z8 e8 => fun z9 e9 => ⟨rfl, (SD.pu i1 (fun _ => fz_vt_allTears) hs1 trivial), i2⟩, fun q2 => fun v1 k1 hs1 => fun z8 e8 => fun z9 e9 => ⟨rfl, (SD.pu i1 (fun _ => fz_vt_howManyWed) hs1 trivial), i2⟩⟩, fun q1 => fun z7 e7 => fun z8 e8 => fun z9 e9 => fun z10 e10 => fun z11 e11 => fun k1 ek1 => fun z12 e12 => ⟨rfl, (SD.upk i1 ek1 (by decide)), i2⟩⟩
theorem kc_whatKind (hs : fS 132 [1, x, y] h v h') (C : CJ G h) (W : GW G) : rc 3 h h' (if x < 0 ∨ G.1 0 ≤ x then 1 else if y < 0 ∨ 1 < y then 2 else 0) := by
  have hB := W.1.1.1
  have jm : h 11 1 = G.1 0 := C.1.many
  have jo : h 11 14 = G.1 2 := C.1.opn
  have s0 : SD h h := SD.rf C.w34
  have fin : ∀ {q : fH}, SD h q → (if x < 0 ∨ G.1 0 ≤ x then 1 else if y < 0 ∨ 1 < y then 2 else 0 : Int) = 0 → rc 3 h q (if x < 0 ∨ G.1 0 ≤ x then 1 else if y < 0 ∨ 1 < y then 2 else 0) := fun s e => rc_0 (fun k => s.1 3 k (by omega)) e
  refine vc_whatKind hs (fun x0 x1 x2 x3 x4 q => x0 = 1 ∧ 0 ≤ x1 ∧ x1 < G.1 0 ∧ 0 ≤ x4 ∧ x4 ≤ 10 ∧ SD h q ∧ (if x < 0 ∨ G.1 0 ≤ x then 1 else if y < 0 ∨ 1 < y then 2 else 0 : Int) = 0) (fun _ q => rc 3 h q (if x < 0 ∨ G.1 0 ≤ x then 1 else if y < 0 ∨ 1 < y then 2 else 0)) ?_ ?_
  · exact ⟨fun q1 => fun z3 e3 => fun z4 e4 => fun z5 e5 => fun k1 ek1 => rc_k e3 e4 e5 ek1 (fun k => s0.1 3 k (by omega)) (by omega), fun q1 => fun z3 e3 => ⟨fun q2 => fun z4 e4 => fun z5 e5 => fun z6 e6 => fun k1 ek1 => rc_k e4 e5 e6 ek1 (fun k => s0.1 3 k (by omega)) (by omega), fun q2 => ⟨fun q3 => fun z4 e4 => fun z5 e5 => fun z6 e6 => fun k1 ek1 => rc_k e4 e5 e6 ek1 (fun k => s0.1 3 k (by omega)) (by omega), fun q3 => ⟨fun q4 => fun z4 e4 => fun z5 e5 => fun z6 e6 => fun k1 ek1 => rc_k e4 e5 e6 ek1 (fun k => s0.1 3 k (by omega)) (by omega), fun q4 => fun v1 k1 hs1 => ⟨rfl, q1, by omega, by omega, by omega, (sd_copy hs1 s0 C.1 W.1.1.bg).1, by omega⟩⟩⟩⟩⟩
  · rintro x0 x1 x2 x3 x4 q ⟨rfl, i1, i2, i3, i4, s1, i5⟩
    have r1 := s1.r11 C.1 W.1.1.bg
    have wp := W.1.1.per i1 i2
    have f6 := fl_4
    have key : ∀ {kk ff : Int} {v1 v2 : Int} {k1 k2 : fH}, fS 29 [34, x1, kk, ff] q v1 k1 → fS 131 [1, x1] k1 v2 k2 → 0 ≤ kk → kk ≤ 5 → 0 ≤ ff → ff ≤ 9 → SD h k2 := fun a1 a2 c1 c2 c3 c4 => by
      rw [sd_row a2]
      exact s1.bec a1 c1 c2 c3 c4
    refine ⟨fun q1 => ⟨fun _ => fin s1 i5, fun q2 => ⟨fun _ z5 e5 v1 k1 hs1 v2 k2 hs2 => ?_, fun q3 => absurd q3 q1⟩⟩, fun q1 z5 e5 => ⟨fun _ => fin s1 i5, fun q2 => ⟨fun q3 => absurd q1 q3, fun _ z6 e6 v1 k1 hs1 v2 k2 hs2 => ?_⟩⟩⟩
    · have e5 := e5.trans (r1.kind i1 i2)
      have s2 := key hs1 hs2 (by omega) (by omega) (by omega) (by omega)
      refine ⟨fun _ z8 e8 => ?_, fun _ z8 e8 z9 e9 z10 e10 => ?_⟩
      · rw [wr_id (by omega) (by omega)] at e8
        exact ⟨rfl, i1, i2, by omega, by omega, s2, i5⟩
      · rw [wr_id (by omega) (by omega)] at e10
        exact ⟨rfl, i1, i2, by omega, by omega, s2, i5⟩
    · rw [f6] at e5
      have e6 := e6.trans (r1.fig i1 i2)
      have s2 := key hs1 hs2 (by omega) (by omega) (by omega) (by omega)
      refine ⟨fun _ z8 e8 => ?_, fun _ z8 e8 z9 e9 z10 e10 => ?_⟩
      · rw [wr_id (by omega) (by omega)] at e8
        exact ⟨rfl, i1, i2, by omega, by omega, s2, i5⟩
      · rw [wr_id (by omega) (by omega)] at e10
        exact ⟨rfl, i1, i2, by omega, by omega, s2, i5⟩
theorem kc_uponWhat (hs : fS 130 [1, x, y] h v h') (C : CJ G h) (W : GW G) : rc 3 h h' (if x < 0 ∨ G.1 0 ≤ x then 1 else if y < 0 ∨ 1 < y then 2 else 0) := by
  have hB := W.1.1.1
  have jm : h 11 1 = G.1 0 := C.1.many
  have jo : h 11 14 = G.1 2 := C.1.opn
  have s0 : SD h h := SD.rf C.w34
  have fin : ∀ {q : fH}, SD h q → (if x < 0 ∨ G.1 0 ≤ x then 1 else if y < 0 ∨ 1 < y then 2 else 0 : Int) = 0 → rc 3 h q (if x < 0 ∨ G.1 0 ≤ x then 1 else if y < 0 ∨ 1 < y then 2 else 0) := fun s e => rc_0 (fun k => s.1 3 k (by omega)) e
  have hb := W.1.1.bg
  unfold BG at hb
  refine vc_uponWhat hs (fun x0 x1 x2 x4 x5 x6 q => x0 = 1 ∧ 54 ≤ x4 ∧ x4 ≤ 56 ∧ SD h q ∧ (if x < 0 ∨ G.1 0 ≤ x then 1 else if y < 0 ∨ 1 < y then 2 else 0 : Int) = 0) (fun _ q => rc 3 h q (if x < 0 ∨ G.1 0 ≤ x then 1 else if y < 0 ∨ 1 < y then 2 else 0)) ?_ ?_
  · refine ⟨fun q1 z3 e3 z4 e4 z5 e5 k1 ek1 => rc_k e3 e4 e5 ek1 (fun _ => rfl) (by omega), fun q1 z3 e3 => ⟨fun q2 z4 e4 z5 e5 z6 e6 k1 ek1 => rc_k e4 e5 e6 ek1 (fun _ => rfl) (by omega), fun q2 => ⟨fun q3 z4 e4 z5 e5 z6 e6 k1 ek1 => rc_k e4 e5 e6 ek1 (fun _ => rfl) (by omega), fun q3 => ⟨fun q4 z4 e4 z5 e5 z6 e6 k1 ek1 => rc_k e4 e5 e6 ek1 (fun _ => rfl) (by omega), fun q4 v1 k1 hs1 v2 k2 hs2 => ?_⟩⟩⟩⟩
    obtain ⟨s1, r1⟩ := sd_copy hs1 s0 C.1 W.1.1.bg
    obtain ⟨rfl, w2⟩ := sc_wagerWith hs2 r1 W.1.1
    refine ⟨fun q5 z6 e6 => ?_, fun _ => fin s1 (by omega)⟩
    rcases w2 with w2 | w2
    · omega
    · have w3 := r1.wr q5 (by omega : v2 < 3)
      have e53 : (34 : Int) + 19 = 53 := rfl
      rw [e53] at w3
      exact ⟨rfl, by omega, by omega, s1, by omega⟩
  · rintro x0 x1 x2 x4 x5 x6 q ⟨rfl, i1, i2, s1, i5⟩
    have key : ∀ {kk zz : Int} {v2 : Int} {k1 k2 : fH}, k1 = fu q x4 kk zz → fS 131 [1, x1] k1 v2 k2 → SD h k2 := fun a1 a2 => by
      rw [sd_row a2, a1]
      exact s1.up (by omega)
    refine ⟨fun q1 => ⟨fun _ => fin s1 i5, fun q2 => ⟨fun _ k1 ek1 v2 k2 hs2 => ?_, fun q3 => absurd q3 q1⟩⟩, fun q1 => ⟨fun _ => fin s1 i5, fun q2 => ⟨fun q3 => absurd q1 q3, fun _ k1 ek1 v2 k2 hs2 => ?_⟩⟩⟩
    · have s2 := key ek1 hs2
      exact ⟨fun _ z8 e8 => ⟨rfl, i1, i2, s2, i5⟩, fun _ z8 e8 z9 e9 z10 e10 => ⟨rfl, i1, i2, s2, i5⟩⟩
    · have s2 := key ek1 hs2
      exact ⟨fun _ z8 e8 => ⟨rfl, i1, i2, s2, i5⟩, fun _ z8 e8 z9 e9 z10 e10 => ⟨rfl, i1, i2, s2, i5⟩⟩
theorem kc_preach (hs : fS 119 [1, x] h v h') (C : CJ G h) (W : GW G) : rc 3 h h' (if x < 0 ∨ 4 < x then 1 else 0) := by
  have hB := W.1.1.1
  have jm : h 11 1 = G.1 0 := C.1.many
  have jo : h 11 14 = G.1 2 := C.1.opn
  have s0 : SD h h := SD.rf C.w34
  have fin : ∀ {q : fH}, SD h q → (if x < 0 ∨ 4 < x then 1 else 0 : Int) = 0 → rc 3 h q (if x < 0 ∨ 4 < x then 1 else 0) := fun s e => rc_0 (fun k => s.1 3 k (by omega)) e
  refine vc_preach hs (fun x0 x1 x2 x3 x4 q => x0 = 1 ∧ 0 ≤ x4 ∧ x4 ≤ 7 ∧ SD h q ∧ (if x < 0 ∨ 4 < x then 1 else 0 : Int) = 0) (fun _ q => rc 3 h q (if x < 0 ∨ 4 < x then 1 else 0)) ?_ ?_
  · exact ⟨fun q1 => fun z2 e2 => fun z3 e3 => fun z4 e4 => fun k1 ek1 => rc_k e2 e3 e4 ek1 (fun k => s0.1 3 k (by omega)) (by omega), fun q1 => ⟨fun q2 => fun z2 e2 => fun z3 e3 => fun z4 e4 => fun k1 ek1 => rc_k e2 e3 e4 ek1 (fun k => s0.1 3 k (by omega)) (by omega), fun q2 => fun v1 k1 hs1 => ⟨rfl, by omega, by omega, (sd_copy hs1 s0 C.1 W.1.1.bg).1, by omega⟩⟩⟩
  · rintro x0 x1 x2 x3 x4 q ⟨rfl, i1, i2, s1, i5⟩ z5 e5
    rw [(s1.r11 C.1 W.1.1.bg).many] at e5
    refine ⟨fun _ => fin s1 i5, fun q1 z6 e6 z7 e7 z8 e8 z9 e9 k1 ek1 v2 k2 hs2 v3 k3 hs3 => ?_⟩
    have s2 : SD h k1 := by
      rw [ek1]
      exact s1.up (by omega)
    have e2 := sd_woo hs2
    have e3 := sd_bits hs3
    have s2' : SD h k3 := by
      rw [e3, e2]
      exact s2
    have s3 : ∀ {zz z6 z7 : Int} {kb kk : fH}, kb = k3 → zz = 43 + 1 + 1 * x4 → kk = fu kb zz x1 z6 → z7 = wr (x4 + 1) → (1 : Int) = 1 ∧ 0 ≤ z7 ∧ z7 ≤ 7 ∧ SD h kk ∧ (if x < 0 ∨ 4 < x then 1 else 0 : Int) = 0 := fun a0 a1 a2 a3 => by
      rw [wr_id (by omega) (by omega)] at a3
      rw [a2, a0]
      exact ⟨rfl, by omega, by omega, s2'.up (by omega), i5⟩
    refine ⟨fun _ z12 e12 z13 e13 z14 e14 k4 ek4 z15 e15 => s3 rfl e12 ek4 e15, fun _ v4 k4 hs4 v5 k5 hs5 => ?_⟩
    have e4 := sd_woo hs4
    have e5 := sd_bits hs5
    have e6 : k5 = k3 := e5.trans e4
    exact ⟨fun _ z14 e14 z15 e15 z16 e16 k6 ek6 z17 e17 => s3 e6 e14 ek6 e17, fun _ z14 e14 z15 e15 z16 e16 k6 ek6 z17 e17 => s3 e6 e14 ek6 e17⟩
def twN (g : gV) (x y z n : Int) : Prop := ((x < 0 ∨ g 0 ≤ x ∨ y < 0 ∨ g 0 ≤ y ∨ x = y ∨ z < 0 ∨ 4 < z) ∧ n = 1) ∨ (¬ (x < 0 ∨ g 0 ≤ x ∨ y < 0 ∨ g 0 ≤ y ∨ x = y ∨ z < 0 ∨ 4 < z) ∧ ¬ (frF g x ∧ frF g y) ∧ n = 3) ∨ (¬ (x < 0 ∨ g 0 ≤ x ∨ y < 0 ∨ g 0 ≤ y ∨ x = y ∨ z < 0 ∨ 4 < z) ∧ (frF g x ∧ frF g y) ∧ n = 0)
theorem twN.un {g : gV} {n m : Int} (a : twN g x y z n) (b : twN g x y z m) : n = m := by
  rcases a with ⟨a1, a2⟩ | ⟨a1, a2, a3⟩ | ⟨a1, a2, a3⟩
  · rcases b with ⟨b1, b2⟩ | ⟨b1, b2, b3⟩ | ⟨b1, b2, b3⟩
    · omega
    · exact absurd a1 b1
    · exact absurd a1 b1
  · rcases b with ⟨b1, b2⟩ | ⟨b1, b2, b3⟩ | ⟨b1, b2, b3⟩
    · exact absurd b1 a1
    · omega
    · exact absurd b2 a2
  · rcases b with ⟨b1, b2⟩ | ⟨b1, b2, b3⟩ | ⟨b1, b2, b3⟩
    · exact absurd b1 a1
    · exact absurd a2 b2
    · omega
theorem kc_two (hs : fS 125 [1, x, y, z] h v h') (C : CJ G h) (W : GW G) : ∃ n, twN G.1 x y z n ∧ rc 3 h h' n := by
  have hB := W.1.1.1
  have jm : h 11 1 = G.1 0 := C.1.many
  have s0 : SD h h := SD.rf C.w34
  have one : ∀ {a b c : Int} {kk : fH}, (x < 0 ∨ G.1 0 ≤ x ∨ y < 0 ∨ G.1 0 ≤ y ∨ x = y ∨ z < 0 ∨ 4 < z) → a = wr (-(-1)) → b = h 3 a → c = wr (b + 1) → kk = fu h 3 a c → ∃ n, twN G.1 x y z n ∧ rc 3 h kk n := fun w e1 e2 e3 ek => ⟨1, Or.inl ⟨w, rfl⟩, rc_k e1 e2 e3 ek (fun _ => rfl) (by omega)⟩
  refine vc_two hs (fun x0 x1 x2 x3 x4 q => x0 = 1 ∧ (0 ≤ x1 ∧ x1 < 7 ∧ 0 ≤ x2 ∧ x2 < 7) ∧ SD h q ∧ twN G.1 x y z 0) (fun x0 x1 x2 x3 x4 x5 q => x0 = 1 ∧ (0 ≤ x1 ∧ x1 < 7 ∧ 0 ≤ x2 ∧ x2 < 7) ∧ SD h q ∧ twN G.1 x y z 0) (fun _ q => ∃ n, twN G.1 x y z n ∧ rc 3 h q n) ?_ ?_ ?_
  · refine ⟨fun q1 z4 e4 z5 e5 z6 e6 k1 ek1 => one (by omega) e4 e5 e6 ek1, fun q1 z4 e4 => ⟨fun q2 z5 e5 z6 e6 z7 e7 k1 ek1 => one (by omega) e5 e6 e7 ek1, fun q2 => ⟨fun q3 z5 e5 z6 e6 z7 e7 k1 ek1 => one (by omega) e5 e6 e7 ek1, fun q3 z5 e5 => ⟨fun q4 z6 e6 z7 e7 z8 e8 k1 ek1 => one (by omega) e6 e7 e8 ek1, fun q4 => ⟨fun q5 z6 e6 z7 e7 z8 e8 k1 ek1 => one (by omega) e6 e7 e8 ek1, fun q5 => ⟨fun q6 z6 e6 z7 e7 z8 e8 k1 ek1 => one (by omega) e6 e7 e8 ek1, fun q6 => ⟨fun q7 z6 e6 z7 e7 z8 e8 k1 ek1 => one (by omega) e6 e7 e8 ek1, fun q7 v1 k1 hs1 => ?_⟩⟩⟩⟩⟩⟩⟩
    obtain ⟨r0, r1⟩ := sc_isFree hs1 C.1 W.1.1 q1 (by omega)
    subst r0
    refine ⟨fun q8 z7 e7 z8 e8 z9 e9 k2 ek2 => ⟨3, Or.inr (Or.inl ⟨by omega, fun w => r1.f q8 w.1, rfl⟩), rc_k e7 e8 e9 ek2 (fun _ => rfl) (by omega)⟩, fun q8 v2 k2 hs2 => ?_⟩
    obtain ⟨r2, r3⟩ := sc_isFree hs2 C.1 W.1.1 q3 (by omega)
    subst r2
    exact ⟨fun q9 v3 k3 hs3 => ⟨rfl, ⟨q1, by omega, q3, by omega⟩, (sd_copy hs3 s0 C.1 W.1.1.bg).1, Or.inr (Or.inr ⟨by omega, ⟨r1.t q8, r3.t q9⟩, rfl⟩)⟩, fun q9 z8 e8 z9 e9 z10 e10 k3 ek3 => ⟨3, Or.inr (Or.inl ⟨by omega, fun w => r3.f q9 w.2, rfl⟩), rc_k e8 e9 e10 ek3 (fun _ => rfl) (by omega)⟩⟩
  · rintro x0 x1 x2 x3 x4 q ⟨rfl, i1, s1, i5⟩
    exact ⟨fun _ => ⟨0, i5, rc_0 (fun k => s1.1 3 k (by omega)) rfl⟩, fun _ => ⟨rfl, i1, s1, i5⟩⟩
  · rintro x0 x1 x2 x3 x4 x5 q ⟨rfl, i1, s1, i5⟩
    refine ⟨fun _ z6 _ => ⟨rfl, i1, s1, i5⟩, fun _ v1 k1 hs1 z7 _ z8 _ z9 _ v2 k2 hs2 z11 _ z12 _ z13 _ => ?_⟩
    have s2 := sd_gain hs2 (sd_gain hs1 s1 i1.1 i1.2.1 i1.2.2.1 i1.2.2.2) i1.1 i1.2.1 i1.2.2.1 i1.2.2.2
    refine ⟨fun _ z14 _ z15 _ z16 _ v3 k3 hs3 z18 _ z19 _ z20 _ => ?_, fun _ z14 _ z15 _ z16 _ v3 k3 hs3 z18 _ z19 _ z20 _ => ?_⟩
    · have s3 := sd_gain hs3 s2 i1.1 i1.2.1 i1.2.2.1 i1.2.2.2
      exact ⟨fun _ z21 _ => ⟨rfl, i1, s3, i5⟩, fun _ z21 _ => ⟨rfl, i1, s3, i5⟩⟩
    · have s3 := sd_gain hs3 s2 i1.1 i1.2.1 i1.2.2.1 i1.2.2.2
      exact ⟨fun _ z21 _ => ⟨rfl, i1, s3, i5⟩, fun _ z21 _ z22 _ => ⟨0, i5, rc_0 (fun k => s3.1 3 k (by omega)) rfl⟩⟩
theorem km_two (hs : fS 229 [271, x, y, z] h v h') (M : MJ G h) (W : GW G) : ∃ n, twN G.1 x y z n ∧ rc 285 h h' n := by
  have hB := W.1.1.1
  refine vr_two hs (fun x0 x1 x2 x3 x5 q => 271 = x0 ∧ (∀ k, q 285 k = h 285 k) ∧ twN G.1 x y z 0) (fun x0 x5 q => 271 = x0 ∧ (∀ k, q 285 k = h 285 k) ∧ twN G.1 x y z 0) (fun _ q => ∃ n, twN G.1 x y z n ∧ rc 285 h q n) ?_ ?_ ?_
  · intro k1 ek1
    have M1 : MJ G k1 := by
      rw [ek1]
      exact M.up (by omega)
    have jm : k1 271 0 = G.1 0 := M1.1.many
    have jo : k1 271 9 = G.1 2 := M1.1.opn
    have p1 : ∀ k, k1 285 k = h 285 k := kp_st ek1 (by decide) (fun _ => rfl)
    have one : ∀ {a b c : Int} {kk : fH}, (x < 0 ∨ G.1 0 ≤ x ∨ y < 0 ∨ G.1 0 ≤ y ∨ x = y ∨ z < 0 ∨ 4 < z) → a = wr (-(-1)) → b = k1 285 a → c = wr (b + 1) → kk = fu k1 285 a c → ∃ n, twN G.1 x y z n ∧ rc 285 h kk n := fun w e1 e2 e3 ek => ⟨1, Or.inl ⟨w, rfl⟩, rc_k e1 e2 e3 ek p1 (by omega)⟩
    refine fun z4 e4 => fun z5 e5 => (have f5 := wr_f e5; fun z6 e6 => ⟨fun q1 => (have r1 := xl_lt e6 q1; fun a ea b eb c ec kk ekk => one (by omega) ea eb ec ekk), fun q1 => (have r1 := xl_ge e6 q1; fun z7 e7 => ⟨fun q2 => (have r2 := xl_gt e7 q2; fun a ea b eb c ec kk ekk => one (by omega) ea eb ec ekk), fun q2 => (have r2 := xl_le e7 q2; fun z8 e8 => fun z9 e9 => (have f9 := wr_f e9; fun z10 e10 => ⟨fun q3 => (have r3 := xl_lt e10 q3; fun a ea b eb c ec kk ekk => one (by omega) ea eb ec ekk), fun q3 => (have r3 := xl_ge e10 q3; fun z11 e11 => ⟨fun q4 => (have r4 := xl_gt e11 q4; fun a ea b eb c ec kk ekk => one (by omega) ea eb ec ekk), fun q4 => (have r4 := xl_le e11 q4; ⟨fun q5 => fun a ea b eb c ec kk ekk => one (by omega) ea eb ec ekk, fun q5 => fun z12 e12 => ⟨fun q6 => (have r6 := xl_lt e12 q6; fun a ea b eb c ec kk ekk => one (by omega) ea eb ec ekk), fun q6 => (have r6 := xl_ge e12 q6; fun z13 e13 => ⟨fun q7 => (have r7 := xl_gt e13 q7; fun a ea b eb c ec kk ekk => one (by omega) ea eb ec ekk), fun q7 => (have r7 := xl_le e13 q7; fun v2 k2 hs2 => ?_)⟩)⟩⟩)⟩)⟩))⟩)⟩)
    obtain ⟨t0, t1⟩ := sr_isFree hs2 M1.1 W.1.1 (by omega) (by omega)
    subst t0
    refine ⟨fun q8 a ea b eb c ec kk ekk => ⟨3, Or.inr (Or.inl ⟨by omega, fun w => t1.f q8 w.1, rfl⟩), rc_k ea eb ec ekk p1 (by omega)⟩, fun q8 v3 k3 hs3 => ?_⟩
    obtain ⟨t2, t3⟩ := sr_isFree hs3 M1.1 W.1.1 (by omega) (by omega)
    subst t2
    exact ⟨fun q9 v4 k4 hs4 => ⟨rfl, kp_cl (sd_carryAll hs4 (by decide)) p1, Or.inr (Or.inr ⟨by omega, ⟨t1.t q8, t3.t q9⟩, rfl⟩)⟩, fun q9 a ea b eb c ec kk ekk => ⟨3, Or.inr (Or.inl ⟨by omega, fun w => t3.f q9 w.2, rfl⟩), rc_k ea eb ec ekk p1 (by omega)⟩⟩
  · rintro x0 x1 x2 x3 x5 q ⟨rfl, i1, i2⟩
    exact ⟨fun q1 => ⟨rfl, i1, i2⟩, fun q1 => fun z5 e5 => fun z6 e6 => fun z7 e7 => fun z8 e8 => fun k1 ek1 => fun z9 e9 => fun z10 e10 => fun z11 e11 => fun z12 e12 => fun k2 ek2 => fun v3 k3 hs3 => ⟨fun q2 => fun z14 e14 => fun z15 e15 => fun z16 e16 => fun z17 e17 => fun k4 ek4 => fun z18 e18 => fun z19 e19 => fun z20 e20 => fun z21 e21 => fun z22 e22 => fun k5 ek5 => fun v6 k6 hs6 => fun z24 e24 => ⟨rfl, (kp_cl (sd_carryAll hs6 (by decide)) (kp_st ek5 (by decide) (kp_st ek4 (by decide) (kp_cl (eK (fun _ => fe_vr_couldBe) hs3 ⟨rfl, trivial⟩) (kp_st ek2 (by decide) (kp_st ek1 (by decide) i1)))))), i2⟩, fun q2 => fun z14 e14 => fun z15 e15 => fun v4 k4 hs4 => ⟨fun q3 => fun z17 e17 => fun z18 e18 => fun z19 e19 => fun z20 e20 => fun k5 ek5 => fun z21 e21 => fun z22 e22 => fun z23 e23 => fun z24 e24 => fun z25 e25 => fun k6 ek6 => fun v7 k7 hs7 => fun z27 e27 => ⟨rfl, (kp_cl (sd_carryAll hs7 (by decide)) (kp_st ek6 (by decide) (kp_st ek5 (by decide) (kp_cl (eK (fun _ => fe_vr_isLost) hs4 ⟨rfl, trivial⟩) (kp_cl (eK (fun _ => fe_vr_couldBe) hs3 ⟨rfl, trivial⟩) (kp_st ek2 (by decide) (kp_st ek1 (by decide) i1))))))), i2⟩, fun q3 => fun z17 e17 => fun z18 e18 => fun z19 e19 => fun z20 e20 => fun k5 ek5 => fun z21 e21 => fun z22 e22 => fun z23 e23 => fun z24 e24 => fun z25 e25 => fun k6 ek6 => fun v7 k7 hs7 => fun z27 e27 => ⟨rfl, (kp_cl (sd_carryAll hs7 (by decide)) (kp_st ek6 (by decide) (kp_st ek5 (by decide) (kp_cl (eK (fun _ => fe_vr_isLost) hs4 ⟨rfl, trivial⟩) (kp_cl (eK (fun _ => fe_vr_couldBe) hs3 ⟨rfl, trivial⟩) (kp_st ek2 (by decide) (kp_st ek1 (by decide) i1))))))), i2⟩⟩⟩⟩
  · rintro x0 x5 q ⟨rfl, i1, i2⟩
    exact ⟨fun q1 => ⟨0, i2, rc_0 i1 rfl⟩, fun q1 => fun z2 e2 => fun z3 e3 => fun z4 e4 => fun z5 e5 => fun z6 e6 => fun z7 e7 => fun z8 e8 => fun z9 e9 => fun z10 e10 => fun z11 e11 => fun z12 e12 => fun z13 e13 => fun z14 e14 => fun z15 e15 => ⟨fun q2 => fun z16 e16 => ⟨rfl, i1, i2⟩, fun q2 => fun z16 e16 => fun z17 e17 => fun z18 e18 => fun z19 e19 => fun z20 e20 => fun z21 e21 => ⟨fun q3 => fun z22 e22 => ⟨rfl, i1, i2⟩, fun q3 => fun z22 e22 => fun z23 e23 => fun z24 e24 => fun z25 e25 => ⟨0, i2, rc_0 i1 rfl⟩⟩⟩⟩
theorem rc_v {c m z2 z3 z4 : Int} {h0 hM hK : fH} (e2 : z2 = wr (-m)) (e3 : z3 = hM c z2) (e4 : z4 = wr (z3 + 1)) (ek : hK = fu hM c z2 z4) (p : ∀ k, hM c k = h0 c k) (hm : -6 ≤ m ∧ m ≤ 0) : rc c h0 hK (-m) := fun k k1 k2 => by
  have f2 := wr_d e2 (by omega) (by omega)
  unfold bp
  rw [ek]
  by_cases d : k = z2
  · rw [fu_e rfl d, if_pos (by omega), e4, e3, p, d]
  · rw [fu_k d, if_neg (by omega), p k]
theorem proV_b {g : gV} (a : proV g x y z w u v) : -6 ≤ v ∧ v ≤ 0 := by
  unfold proV at a
  repeat' (first | omega | split at a)
theorem kc_proposes (hs : fS 89 [1, x, y, z, w, u] h v h') (C : CJ G h) (W : GW G) : ∃ r, proV G.1 x y z w u r ∧ rc 3 h h' (-r) := by
  refine vc_proposes hs (fun _ q => ∃ r, proV G.1 x y z w u r ∧ rc 3 h q (-r)) ?_
  intro v1 k1 hs1
  obtain ⟨r0, r1⟩ := sc_refPro hs1 C.1 W.1.1
  subst r0
  refine ⟨fun q1 v2 k2 hs2 z8 e8 z9 e9 k3 ek3 k4 ek4 k5 ek5 k6 ek6 k7 ek7 z10 e10 z11 e11 k8 ek8 z12 e12 => ?_, fun q1 z7 e7 z8 e8 z9 e9 k2 ek2 => ⟨v1, r1, rc_v e7 e8 e9 ek2 (fun _ => rfl) (proV_b r1)⟩⟩
  rw [q1] at r1
  refine ⟨0, r1, rc_0 ?_ rfl⟩
  obtain ⟨c1, c2⟩ := c3_keep hs2 C W
  have R2 : RC k2 11 G.1 := c1.1
  have hr := proC_room W.1.1 ((proV_0 r1).mp rfl)
  have e8 := e8.trans R2.opn
  have hB := W.1.1.1
  have w9 := R2.wr (w := z8) (by omega) (by omega)
  have e9 : z9 = k2 (11 + 19) z8 := e9
  have n9 : (3 : Int) ≠ z9 := by omega
  exact kp_st ek8 (by decide) (kp_st ek7 n9 (kp_st ek6 n9 (kp_st ek5 n9 (kp_st ek4 n9 (kp_st ek3 n9 (fun k => c2 3 k rfl))))))
theorem km_proposes (hs : fS 194 [271, x, y, z, w, u] h v h') (M : MJ G h) (W : GW G) : ∃ r, proV G.1 x y z w u r ∧ rc 285 h h' (-r) := by
  have hB := W.1.1.1
  refine vr_proposes hs (fun _ q => ∃ r, proV G.1 x y z w u r ∧ rc 285 h q (-r)) ?_
  intro k1 ek1
  have M1 : MJ G k1 := by
    rw [ek1]
    exact M.up (by omega)
  have jm : k1 271 0 = G.1 0 := M1.1.many
  have jo : k1 271 9 = G.1 2 := M1.1.opn
  have p1 : ∀ k, k1 285 k = h 285 k := kp_st ek1 (by decide) (fun _ => rfl)
  have pv1 : (x < 0 ∨ G.1 0 ≤ x ∨ y < 0 ∨ G.1 0 ≤ y ∨ x = y ∨ z < 0 ∨ 5 ≤ z) → proV G.1 x y z w u (-1) := fun q => by
    unfold proV
    rw [if_pos q]
  have one : ∀ {a b c : Int} {kk : fH}, (x < 0 ∨ G.1 0 ≤ x ∨ y < 0 ∨ G.1 0 ≤ y ∨ x = y ∨ z < 0 ∨ 5 ≤ z) → a = wr (-(-1)) → b = k1 285 a → c = wr (b + 1) → kk = fu k1 285 a c → ∃ r, proV G.1 x y z w u r ∧ rc 285 h kk (-r) := fun q e1 e2 e3 ek => ⟨-1, pv1 q, rc_v e1 e2 e3 ek p1 (by omega)⟩
  refine fun z6 e6 z7 e7 => (have f7 := wr_f e7; fun z8 e8 => ⟨fun q1 => (have r1 := xl_lt e8 q1; fun a ea b eb c ec kk ekk => one (by omega) ea eb ec ekk), fun q1 => (have r1 := xl_ge e8 q1; fun z9 e9 => ⟨fun q2 => (have r2 := xl_gt e9 q2; fun a ea b eb c ec kk ekk => one (by omega) ea eb ec ekk), fun q2 => (have r2 := xl_le e9 q2; fun z10 e10 z11 e11 => (have f11 := wr_f e11; fun z12 e12 => ⟨fun q3 => (have r3 := xl_lt e12 q3; fun a ea b eb c ec kk ekk => one (by omega) ea eb ec ekk), fun q3 => (have r3 := xl_ge e12 q3; fun z13 e13 => ⟨fun q4 => (have r4 := xl_gt e13 q4; fun a ea b eb c ec kk ekk => one (by omega) ea eb ec ekk), fun q4 => (have r4 := xl_le e13 q4; ⟨fun q5 a ea b eb c ec kk ekk => one (by omega) ea eb ec ekk, fun q5 z14 e14 => ⟨fun q6 => (have r6 := xl_lt e14 q6; fun a ea b eb c ec kk ekk => one (by omega) ea eb ec ekk), fun q6 => (have r6 := xl_ge e14 q6; fun z15 e15 => ⟨fun q7 => (have r7 := xl_gt e15 q7; fun a ea b eb c ec kk ekk => one (by omega) ea eb ec ekk), fun q7 => (have r7 := xl_le e15 q7; ?_)⟩)⟩⟩)⟩)⟩))⟩)⟩)
  have n1 : ¬ (x < 0 ∨ G.1 0 ≤ x ∨ y < 0 ∨ G.1 0 ≤ y ∨ x = y ∨ z < 0 ∨ 5 ≤ z) := by omega
  have two : ∀ {a b c : Int} {kk : fH}, (w < 0 ∨ 2 ≤ w) → a = wr (-(-2)) → b = k1 285 a → c = wr (b + 1) → kk = fu k1 285 a c → ∃ r, proV G.1 x y z w u r ∧ rc 285 h kk (-r) := fun q e1 e2 e3 ek => ⟨-2, (by
    unfold proV
    rw [if_neg n1, if_pos q]), rc_v e1 e2 e3 ek p1 (by omega)⟩
  refine fun z16 e16 => ⟨fun q8 => (have r8 := xl_lt e16 q8; fun a ea b eb c ec kk ekk => two (by omega) ea eb ec ekk), fun q8 => (have r8 := xl_ge e16 q8; fun z17 e17 => ⟨fun q9 => (have r9 := xl_gt e17 q9; fun a ea b eb c ec kk ekk => two (by omega) ea eb ec ekk), fun q9 => (have r9 := xl_le e17 q9; ⟨fun q10 => ⟨fun q11 v2 k2 hs2 => ?_, fun q11 a ea b eb c ec kk ekk => ⟨-6, (by
    unfold proV
    rw [if_neg n1, if_neg (by omega), if_neg (by omega), if_pos (by omega)]), rc_v ea eb ec ekk p1 (by omega)⟩⟩, fun q10 a ea b eb c ec kk ekk => ⟨-4, (by
    unfold proV
    rw [if_neg n1, if_neg (by omega), if_pos (by omega)]), rc_v ea eb ec ekk p1 (by omega)⟩⟩)⟩)⟩
  obtain ⟨t0, t1⟩ := sr_couldBe hs2 M1.1 W.1.1 (by omega) (by omega) (by omega) (by omega) (by omega) (by omega)
  subst t0
  refine ⟨fun q12 z19 e19 => ⟨fun q13 v3 k3 hs3 z21 e21 k4 ek4 z22 e22 k5 ek5 z23 e23 k6 ek6 z24 e24 k7 ek7 z25 e25 k8 ek8 z26 e26 z27 e27 k9 ek9 z28 e28 => ?_, fun q13 a ea b eb c ec kk ekk => ?_⟩, fun q12 a ea b eb c ec kk ekk => ⟨-3, (by
    unfold proV
    rw [if_neg n1, if_neg (by omega), if_neg (by omega), if_neg (by omega)]
    exact Or.inr ⟨t1.f q12, rfl⟩), rc_v ea eb ec ekk p1 (by omega)⟩⟩
  · refine ⟨0, (by
      unfold proV
      rw [if_neg n1, if_neg (by omega), if_neg (by omega), if_neg (by omega)]
      exact Or.inl ⟨t1.t q12, rfl⟩), rc_0 ?_ rfl⟩
    exact kp_st ek9 (by decide) (kp_st ek8 (by decide) (kp_st ek7 (by decide) (kp_st ek6 (by decide) (kp_st ek5 (by decide) (kp_st ek4 (by decide) (kp_cl (eK (fun _ => fe_vr_keepTurn) hs3 ⟨rfl, trivial⟩) p1))))))
  · omega
theorem kc_image (hs : fS 94 [1] h v h') (C : CJ G h) (W : GW G) : rc 3 h h' 0 := rc_0 (fun k => (c3_image hs C W).2.2 3 k rfl) rfl
theorem kc_town (hs : fS 16 [1] h v h') (C : CJ G h) (W : GW G) : rc 3 h h' 0 := by
  obtain ⟨G', -, -, a⟩ := c3_town hs C W
  exact rc_0 (fun k => a 3 k rfl) rfl
theorem kc_count (hs : fS 78 [1, x] h v h') (C : CJ G h) (W : GW G) : rc 3 h h' 0 := by
  rw [S0_eq (fun _ => fz_vc_count) (show xR (List.replicate 2 none) [1, x] from trivial) hs]
  exact rc_0 (fun _ => rfl) rfl
-- what count answers
theorem sc_wedBits {b : Int} {g : gV} (hs : fS 79 [b] h v h') (R : RC h b g) (W : WF g) : h' = h ∧ v = btF (fun p => g (7 + 5 * p) ≠ 0) (g 0).toNat := by
  have hB := W.1
  refine vt_wedBits hs (fun x0 x1 x2 q => x0 = b ∧ q = h ∧ ∃ k : Nat, x2 = (k : Int) ∧ (k : Int) ≤ g 0 ∧ BT (fun p => g (7 + 5 * p) ≠ 0) k x1) (fun v h' => h' = h ∧ v = btF (fun p => g (7 + 5 * p) ≠ 0) (g 0).toNat) ?_ ?_
  · exact ⟨rfl, rfl, 0, rfl, by omega, rfl⟩
  · rintro x0 x1 x2 q ⟨rfl, rfl, k, j1, j2, j3⟩ z3 e3
    rw [R.many] at e3
    refine ⟨fun q1 => ⟨rfl, ?_⟩, fun q1 z4 e4 z5 e5 => ?_⟩
    · rw [toN (show g 0 = (k : Int) by omega)]
      exact j3.eq
    · rw [e4] at e5
      have e5 := e5.trans (R.wed (p := x2) (by omega) (by omega))
      have wp := W.per (p := x2) (by omega) (by omega)
      unfold wedF at e5
      refine ⟨fun q2 z6 e6 => ?_, fun q2 z6 e6 z7 e7 z8 e8 => ?_⟩
      · have f6 := wr_d e6 (by omega) (by omega)
        exact ⟨rfl, rfl, k + 1, by omega, by omega, j3.n j1 (fun q => by omega)⟩
      · have f8 := wr_d e8 (by omega) (by omega)
        exact ⟨rfl, rfl, k + 1, by omega, by omega, j3.y j1 (by omega) e6 e7⟩
def cnA (G : gS) (x r : Int) : Int := if x = 0 then G.1 0 else if x = 1 then G.1 1 else if x = 2 then G.1 2 else if x = 5 then G.2.2.2.1.1 else if x = 6 then G.2.2.2.2.1 else if x = 7 then G.2.2.1.1 else if 10 < x ∧ x ≤ 16 then r else -9
noncomputable def cnB (G : gS) (x r : Int) : Int := if x = 3 then btF (fun p => G.1 (7 + 5 * p) ≠ 0) (G.1 0).toNat else if x = 4 then sumF (fun p => G.1 (6 + 5 * p)) (G.1 0).toNat else cnA G x r
theorem ca_count (hs : fS 78 [1, x] h v h') (C : CJ G h) (W : GW G) : v = cnB G x (h 3 (x - 10)) := by
  have jm : h 11 1 = G.1 0 := C.1.many
  have jd : h 11 15 = G.1 1 := C.1.day
  have jo : h 11 14 = G.1 2 := C.1.opn
  have jl : h 266 1 = G.2.2.2.1.1 := C.2.2.2.1.1
  have jr : h 1 8 = G.2.2.2.2.1 := C.2.2.2.2.1.1
  have jp : h 80 2 = G.2.2.1.1 := C.2.2.1.1
  have hB := W.1.1.1
  have hD := W.1.2
  refine vc_count hs (fun v _ => v = cnB G x (h 3 (x - 10))) ?_
  unfold cnB cnA
  refine ⟨fun q1 z2 e2 => by omega, fun q1 => ⟨fun q2 z2 e2 => by omega, fun q2 => ⟨fun q3 z2 e2 => by omega, fun q3 => ⟨fun q4 v1 k1 hs1 => ?_, fun q4 => ⟨fun q5 v1 k1 hs1 => ?_, fun q5 => ⟨fun q6 z2 e2 => by omega, fun q6 => ⟨fun q7 z2 e2 => by omega, fun q7 => ⟨fun q8 z2 e2 => by omega, fun q8 => ⟨fun q9 => by omega, fun q9 => ⟨fun q10 => by omega, fun q10 z2 e2 z3 e3 => ?_⟩⟩⟩⟩⟩⟩⟩⟩⟩⟩
  · rw [if_pos q4]
    exact (sc_wedBits hs1 C.1 W.1.1).2
  · rw [if_neg q4, if_pos q5]
    exact (sc_allTears hs1 C.1 W.1.1 (by omega) (by omega) (by omega)).2
  · have f2 := wr_d e2 (by omega) (by omega)
    rw [f2] at e3
    omega
theorem ra_count (hs : fS 252 [271, x] h v h') (M : MJ G h) (W : GW G) : v = cnB G x (h 285 (x - 10)) := by
  have hB := W.1.1.1
  refine vr_count hs (fun v _ => v = cnB G x (h 285 (x - 10))) ?_
  intro k1 ek1
  have M1 : MJ G k1 := by
    rw [ek1]
    exact M.up (by omega)
  have jm : k1 271 0 = G.1 0 := M1.1.many
  have jo : k1 271 9 = G.1 2 := M1.1.opn
  have p1 : ∀ k, k1 285 k = h 285 k := kp_st ek1 (by decide) (fun _ => rfl)
  have jd : k1 271 15 = G.1 1 := M1.1.day
  have jl : k1 271 19 = G.2.2.2.1.1 := M1.2.2.2.1.1
  have jr : k1 271 38 = G.2.2.2.2.1 := M1.2.2.2.2.1
  have jp : k1 271 34 = G.2.2.1.1 := M1.2.2.1.1
  unfold cnB cnA
  refine ⟨fun q1 z2 e2 => by omega, fun q1 => ⟨fun q2 z2 e2 => by omega, fun q2 => ⟨fun q3 z2 e2 => by omega, fun q3 => ⟨fun q4 v2 k2 hs2 => ?_, fun q4 => ⟨fun q5 v2 k2 hs2 => ?_, fun q5 => ⟨fun q6 z2 e2 => by omega, fun q6 => ⟨fun q7 z2 e2 => by omega, fun q7 => ⟨fun q8 z2 e2 => by omega, fun q8 z2 e2 => ⟨fun q9 => (have r9 := xl_lt e2 q9; by omega), fun q9 => (have r9 := xl_ge e2 q9; fun z3 e3 => ⟨fun q10 => (have r10 := xl_gt e3 q10; by omega), fun q10 => (have r10 := xl_le e3 q10; fun z4 e4 z5 e5 => ?_)⟩)⟩⟩⟩⟩⟩⟩⟩⟩⟩
  · rw [if_pos q4]
    exact (sr_wedBits hs2 M1.1 W.1.1).2
  · rw [if_neg q4, if_pos q5]
    exact (sr_allTears hs2 M1.1 W.1.1).2
  · have f4 := wr_d e4 (by omega) (by omega)
    have p := p1 (x - 10)
    rw [f4, p] at e5
    omega
end KD
