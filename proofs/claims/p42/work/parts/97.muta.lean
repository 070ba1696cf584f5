/-! what the calls that change something do, on both sides: the past, the image, letters one by one, the row, persons, wishes, beliefs, events -/
noncomputable def sT (G : gS) (g : gV) : gS := (g, G.2)
noncomputable def sI (G : gS) (I : Int × gV) : gS := (G.1, I, G.2.2)
noncomputable def sP (G : gS) (P : Int × (Int → gV)) : gS := (G.1, G.2.1, P, G.2.2.2)
noncomputable def sL (G : gS) (L : Int × gV) : gS := (G.1, G.2.1, G.2.2.1, L, G.2.2.2.2)
noncomputable def sO (G : gS) (R : Int × gV) : gS := (G.1, G.2.1, G.2.2.1, G.2.2.2.1, R)
noncomputable def keepP (P : Int × (Int → gV)) (g : gV) : Int × (Int → gV) := if P.1 = 8 then (8, fun t => if t = 7 then g else P.2 (t + 1)) else (P.1 + 1, fun t => if t = P.1 then g else P.2 t)
section MU
variable {h h' h0 h1 k1 : fH} {v z c k x y a1 a2 a3 : Int} {g : gV} {G G' : gS} {I L R : Int × gV} {P : Int × (Int → gV)}
theorem xlcmp_l {a b : Int} : xlcmp a b < 0 ↔ a < b := by unfold xlcmp; omega
theorem xlcmp_g {a b : Int} : 0 < xlcmp a b ↔ b < a := by unfold xlcmp; omega
theorem xlcmp_ge {a b : Int} : 0 ≤ xlcmp a b ↔ b ≤ a := by unfold xlcmp; omega
theorem xlcmp_le {a b : Int} : xlcmp a b ≤ 0 ↔ a ≤ b := by unfold xlcmp; omega
theorem CJ.rfd (J : CJ G h) (W : GW G) (e : k1 = fu h 3 c z) (hx : x = y) (hG : G' = G) : x = y ∧ CJ G' k1 ∧ xC h k1 := by
  rw [e, hG]
  exact ⟨hx, J.ref W, (xC.rf h).up (by decide)⟩
theorem MJ.rfd (J : MJ G h) (xx : xM h0 h) (e : k1 = fu h 285 c z) (hx : x = y) (hG : G' = G) : x = y ∧ MJ G' k1 ∧ xM h0 k1 := by
  rw [e, hG]
  exact ⟨hx, J.up (by omega), xx.up (by decide)⟩
theorem CJ.sTP (J : CJ G h) (W : GW G) (hT : RC h' 11 g) (hP : CP P h') (hW : CW h') (e : ∀ c k, ((c = 1 ∧ (k = 3 ∨ k = 8)) ∨ c = 2 ∨ (57 ≤ c ∧ c ≤ 79) ∨ c = 266 ∨ c = 267) → h' c k = h c k) : CJ (sP (sT G g) P) h' :=
  ⟨hT, J.2.1.cg W.bi (e _ _ (by omega)) (fun c k j1 j2 => e c k (by omega)), hP, J.2.2.2.1.cg (e _ _ (by omega)) (fun k => e _ _ (by omega)), J.2.2.2.2.1.cg (e _ _ (by omega)) (fun k => e _ _ (by omega)), hW⟩
theorem CJ.sIm (J : CJ G h) (W : GW G) (hI : CI I h') (hW : CW h') (e : ∀ c k, ((c = 1 ∧ k = 8) ∨ c = 2 ∨ (11 ≤ c ∧ c ≤ 33) ∨ (80 ≤ c ∧ c ≤ 267)) → h' c k = h c k) : CJ (sI G I) h' :=
  ⟨RC_cg J.1 W.1.1.bg (fun c k j1 j2 => e c k (by omega)), hI, J.2.2.1.cg W.bp (fun k q => e _ _ (by omega)) (fun c k j1 j2 => e c k (by omega)), J.2.2.2.1.cg (e _ _ (by omega)) (fun k => e _ _ (by omega)), J.2.2.2.2.1.cg (e _ _ (by omega)) (fun k => e _ _ (by omega)), hW⟩
theorem CJ.sLe (J : CJ G h) (W : GW G) (hL : CL L h') (e : ∀ c k, c ≠ 266 → c ≠ 267 → h' c k = h c k) : CJ (sL G L) h' :=
  ⟨RC_cg J.1 W.1.1.bg (fun c k j1 j2 => e c k (by omega) (by omega)), J.2.1.cg W.bi (e _ _ (by omega) (by omega)) (fun c k j1 j2 => e c k (by omega) (by omega)), J.2.2.1.cg W.bp (fun k q => e _ _ (by omega) (by omega)) (fun c k j1 j2 => e c k (by omega) (by omega)), hL, J.2.2.2.2.1.cg (e _ _ (by omega) (by omega)) (fun k => e _ _ (by omega) (by omega)), J.2.2.2.2.2.cg (fun b k hb => e _ _ (by unfold tw at hb; omega) (by unfold tw at hb; omega))⟩
theorem CJ.sRo (J : CJ G h) (W : GW G) (hR : CO R h') (e : ∀ c k, c ≠ 2 → (c = 1 → k ≠ 8) → h' c k = h c k) : CJ (sO G R) h' :=
  ⟨RC_cg J.1 W.1.1.bg (fun c k j1 j2 => e c k (by omega) (by omega)), J.2.1.cg W.bi (e _ _ (by omega) (by omega)) (fun c k j1 j2 => e c k (by omega) (by omega)), J.2.2.1.cg W.bp (fun k q => e _ _ (by omega) (by omega)) (fun c k j1 j2 => e c k (by omega) (by omega)), J.2.2.2.1.cg (e _ _ (by omega) (by omega)) (fun k => e _ _ (by omega) (by omega)), hR, J.2.2.2.2.2.cg (fun b k hb => e _ _ (by unfold tw at hb; omega) (by unfold tw at hb; omega))⟩
theorem MJ.sTP (J : MJ G h) (hT : RM h' g) (hP : MP P h') (e : ∀ c k, ((c = 271 ∧ (k = 28 ∨ k = 19 ∨ k = 38)) ∨ c = 286 ∨ c = 291 ∨ c = 296) → h' c k = h c k) : MJ (sP (sT G g) P) h' :=
  ⟨hT, J.2.1.cg (e _ _ (by omega)) (fun k => e _ _ (by omega)), hP, J.2.2.2.1.cg (e _ _ (by omega)) (fun k => e _ _ (by omega)), J.2.2.2.2.cg (e _ _ (by omega)) (fun k => e _ _ (by omega))⟩
theorem CW.fu (a : CW h) (hc : ∀ b, tw b → c ≠ b + 19) : CW (fu h c k z) := a.cg (fun b k' hb => fu_c (fun q => hc b hb q.symm))
theorem tw_no {b : Int} (hb : tw b) (hc : c < 30 ∨ (30 < c ∧ c < 53) ∨ c = 80 ∨ c = 81 ∨ 262 < c) : c ≠ b + 19 := by
  unfold tw at hb
  omega
-- the letters
noncomputable def feedC (a : Int) (G : gS) : Prop := 0 ≤ a ∧ a ≤ 255 ∧ G.2.2.2.1.1 < 96
noncomputable def feedG (a : Int) (G : gS) : gS := sL G (G.2.2.2.1.1 + 1, fun i => if i = G.2.2.2.1.1 then a else G.2.2.2.1.2 i)
noncomputable def feedA (a : Int) (G : gS) : Int := if a < 0 then -4 else if 255 < a ∨ 96 ≤ G.2.2.2.1.1 then -6 else G.2.2.2.1.1 + 1
theorem GW_feed (W : GW G) (hc : feedC a1 G) : GW (feedG a1 G) := by
  obtain ⟨w1, w2, w3, ⟨w4, w5, w6⟩, w7⟩ := W
  obtain ⟨c1, c2, c3⟩ := hc
  refine ⟨w1, w2, w3, ⟨?_, ?_, fun i j1 j2 => ?_⟩, w7⟩
  · show 0 ≤ G.2.2.2.1.1 + 1
    omega
  · show G.2.2.2.1.1 + 1 ≤ 96
    omega
  · show 0 ≤ (if i = G.2.2.2.1.1 then a1 else G.2.2.2.1.2 i) ∧ (if i = G.2.2.2.1.1 then a1 else G.2.2.2.1.2 i) ≤ 255
    have j2 : i < G.2.2.2.1.1 + 1 := j2
    split
    · omega
    · exact w6 i j1 (by omega)
theorem cj_feed (hs : fS 12 [1, a1] h v h') (J : CJ G h) (W : GW G) : v = feedA a1 G ∧ ((feedC a1 G ∧ CJ (feedG a1 G) h') ∨ (¬ feedC a1 G ∧ CJ G h')) ∧ xC h h' := by
  have j4 := J.2.2.2.1
  have w4 := W.2.2.2.1
  have ref : ∀ {x c z k1}, k1 = fu h 3 c z → x = feedA a1 G → ¬ feedC a1 G → x = feedA a1 G ∧ ((feedC a1 G ∧ CJ (feedG a1 G) k1) ∨ (¬ feedC a1 G ∧ CJ G k1)) ∧ xC h k1 := fun e hx hn => by
    obtain ⟨r1, r2, r3⟩ := J.rfd W e hx rfl
    exact ⟨r1, Or.inr ⟨hn, r2⟩, r3⟩
  refine vc_feed hs (fun v h' => v = feedA a1 G ∧ ((feedC a1 G ∧ CJ (feedG a1 G) h') ∨ (¬ feedC a1 G ∧ CJ G h')) ∧ xC h h') ?_
  unfold feedC feedA at *
  refine ⟨fun q1 => ⟨fun q2 z2 _ z3 _ z4 _ k1 ek1 => ref ek1 (by omega) (by omega), fun q2 z2 e2 => ⟨fun q3 z3 e3 k1 ek1 z4 e4 z5 e5 k2 ek2 z6 e6 => ?_, fun q3 z3 _ z4 _ z5 _ k1 ek1 => ref ek1 (by rw [j4.1] at e2; omega) (by rw [j4.1] at e2; omega)⟩⟩, fun q1 z2 _ z3 _ z4 _ k1 ek1 => ref ek1 (by omega) (by omega)⟩
  rw [j4.1] at e2 e3
  subst e2 e3
  rw [ek1, fu_c (by omega), j4.1] at e4
  subst e4
  rw [wr_id (by omega) (by omega)] at e5
  subst e5
  rw [ek2, fu_e rfl rfl] at e6
  subst e6
  refine ⟨by omega, Or.inl ⟨by omega, J.sLe W ⟨?_, fun i j1 j2 => ?_⟩ (fun c k n1 n2 => ?_)⟩, ?_⟩
  · rw [ek2, fu_e rfl rfl]
  · have j2 : i < G.2.2.2.1.1 + 1 := j2
    show k2 267 i = if i = G.2.2.2.1.1 then a1 else G.2.2.2.1.2 i
    rw [ek2, fu_c (by omega), ek1]
    split
    · rename_i q
      rw [fu_e rfl q]
    · rename_i q
      rw [fu_k q]
      exact j4.2 i j1 (by omega)
  · rw [ek2, fu_c n1, ek1, fu_c n2]
  · rw [ek2, ek1]
    exact ((xC.rf h).up (by decide)).up (by decide)
theorem mj_feed (hs : fS 150 [271, a1] h v h') (J : MJ G h) (W : GW G) : v = feedA a1 G ∧ ((feedC a1 G ∧ MJ (feedG a1 G) h') ∨ (¬ feedC a1 G ∧ MJ G h')) ∧ xM h h' := by
  have w4 := W.2.2.2.1
  refine vr_feed hs (fun v h' => v = feedA a1 G ∧ ((feedC a1 G ∧ MJ (feedG a1 G) h') ∨ (¬ feedC a1 G ∧ MJ G h')) ∧ xM h h') ?_
  intro k0 ek0
  have J0 : MJ G k0 := by
    rw [ek0]
    exact J.up (by omega)
  have x0 : xM h k0 := by
    rw [ek0]
    exact (xM.rf h).up (by decide)
  have j4 := J0.2.2.2.1
  have ref : ∀ {x c z k1}, k1 = fu k0 285 c z → x = feedA a1 G → ¬ feedC a1 G → x = feedA a1 G ∧ ((feedC a1 G ∧ MJ (feedG a1 G) k1) ∨ (¬ feedC a1 G ∧ MJ G k1)) ∧ xM h k1 := fun e hx hn => by
    obtain ⟨r1, r2, r3⟩ := J0.rfd x0 e hx rfl
    exact ⟨r1, Or.inr ⟨hn, r2⟩, r3⟩
  unfold feedC feedA at *
  refine ⟨fun q1 => ⟨fun q2 z2 _ z3 _ z4 _ k1 ek1 => ref ek1 (by omega) (by omega), fun q2 z2 e2 => ⟨fun q3 z3 e3 k1 ek1 z4 e4 z5 e5 k2 ek2 z6 e6 => ?_, fun q3 z3 _ z4 _ z5 _ k1 ek1 => ref ek1 (by rw [j4.1] at e2; omega) (by rw [j4.1] at e2; omega)⟩⟩, fun q1 z2 _ z3 _ z4 _ k1 ek1 => ref ek1 (by omega) (by omega)⟩
  rw [j4.1] at e2 e3
  subst e2 e3
  rw [ek1, fu_c (by omega), j4.1] at e4
  subst e4
  rw [wr_id (by omega) (by omega)] at e5
  subst e5
  rw [ek2, fu_e rfl rfl] at e6
  subst e6
  refine ⟨by omega, Or.inl ⟨by omega, ⟨?_, J0.2.1.cg ?_ (fun k => ?_), J0.2.2.1.cg ?_ (fun k => ?_), ⟨?_, fun i j1 j2 => ?_⟩, J0.2.2.2.2.cg ?_ (fun k => ?_)⟩⟩, ?_⟩
  · rw [ek2, ek1]
    exact RM_sk (RM_sk J0.1 (by omega)) (by omega)
  · rw [ek2, fu_k (by omega), ek1, fu_c (by omega)]
  · rw [ek2, fu_c (by omega), ek1, fu_c (by omega)]
  · rw [ek2, fu_k (by omega), ek1, fu_c (by omega)]
  · rw [ek2, fu_c (by omega), ek1, fu_c (by omega)]
  · rw [ek2, fu_e rfl rfl]
    rfl
  · have j2 : i < G.2.2.2.1.1 + 1 := j2
    show k2 286 i = if i = G.2.2.2.1.1 then a1 else G.2.2.2.1.2 i
    rw [ek2, fu_c (by omega), ek1]
    split
    · rename_i q
      rw [fu_e rfl q]
    · rename_i q
      rw [fu_k q]
      exact j4.2 i j1 (by omega)
  · rw [ek2, fu_k (by omega), ek1, fu_c (by omega)]
  · rw [ek2, fu_c (by omega), ek1, fu_c (by omega)]
  · rw [ek2, ek1]
    exact (x0.up (by decide)).up (by decide)
-- the row
noncomputable def rowC (a : Int) (G : gS) : Prop := 0 ≤ a ∧ a ≤ 99 ∧ G.2.2.2.2.1 < 12
noncomputable def rowG (a : Int) (G : gS) : gS := sO G (G.2.2.2.2.1 + 1, fun i => if i = G.2.2.2.2.1 then a else G.2.2.2.2.2 i)
noncomputable def rowA (a : Int) (G : gS) : Int := if a < 0 then -4 else if 99 < a ∨ 12 ≤ G.2.2.2.2.1 then -6 else G.2.2.2.2.1 + 1
theorem GW_row (W : GW G) (hc : rowC a1 G) : GW (rowG a1 G) := by
  obtain ⟨w1, w2, w3, w4, w5, w6, w7⟩ := W
  obtain ⟨c1, c2, c3⟩ := hc
  refine ⟨w1, w2, w3, w4, ?_, ?_, fun i j1 j2 => ?_⟩
  · show 0 ≤ G.2.2.2.2.1 + 1
    omega
  · show G.2.2.2.2.1 + 1 ≤ 12
    omega
  · show 0 ≤ (if i = G.2.2.2.2.1 then a1 else G.2.2.2.2.2 i) ∧ (if i = G.2.2.2.2.1 then a1 else G.2.2.2.2.2 i) ≤ 99
    have j2 : i < G.2.2.2.2.1 + 1 := j2
    split
    · omega
    · exact w7 i j1 (by omega)
theorem cj_row (hs : fS 127 [1, a1] h v h') (J : CJ G h) (W : GW G) : v = rowA a1 G ∧ ((rowC a1 G ∧ CJ (rowG a1 G) h') ∨ (¬ rowC a1 G ∧ CJ G h')) ∧ xC h h' := by
  have j4 := J.2.2.2.2.1
  have w4 := W.2.2.2.2
  have ref : ∀ {x c z k1}, k1 = fu h 3 c z → x = rowA a1 G → ¬ rowC a1 G → x = rowA a1 G ∧ ((rowC a1 G ∧ CJ (rowG a1 G) k1) ∨ (¬ rowC a1 G ∧ CJ G k1)) ∧ xC h k1 := fun e hx hn => by
    obtain ⟨r1, r2, r3⟩ := J.rfd W e hx rfl
    exact ⟨r1, Or.inr ⟨hn, r2⟩, r3⟩
  refine vc_row hs (fun v h' => v = rowA a1 G ∧ ((rowC a1 G ∧ CJ (rowG a1 G) h') ∨ (¬ rowC a1 G ∧ CJ G h')) ∧ xC h h') ?_
  unfold rowC rowA at *
  refine ⟨fun q1 => ⟨fun q2 z2 _ z3 _ z4 _ k1 ek1 => ref ek1 (by omega) (by omega), fun q2 z2 e2 => ⟨fun q3 z3 e3 k1 ek1 z4 e4 z5 e5 k2 ek2 z6 e6 => ?_, fun q3 z3 _ z4 _ z5 _ k1 ek1 => ref ek1 (by rw [j4.1] at e2; omega) (by rw [j4.1] at e2; omega)⟩⟩, fun q1 z2 _ z3 _ z4 _ k1 ek1 => ref ek1 (by omega) (by omega)⟩
  rw [j4.1] at e2 e3
  subst e2 e3
  rw [ek1, fu_c (by omega), j4.1] at e4
  subst e4
  rw [wr_id (by omega) (by omega)] at e5
  subst e5
  rw [ek2, fu_e rfl rfl] at e6
  subst e6
  refine ⟨by omega, Or.inl ⟨by omega, J.sRo W ⟨?_, fun i j1 j2 => ?_⟩ (fun c k n1 n2 => ?_)⟩, ?_⟩
  · rw [ek2, fu_e rfl rfl]
  · have j2 : i < G.2.2.2.2.1 + 1 := j2
    show k2 2 i = if i = G.2.2.2.2.1 then a1 else G.2.2.2.2.2 i
    rw [ek2, fu_c (by omega), ek1]
    split
    · rename_i q
      rw [fu_e rfl q]
    · rename_i q
      rw [fu_k q]
      exact j4.2 i j1 (by omega)
  · rw [ek2, ek1]
    unfold fu
    rw [if_neg (by omega), if_neg (by omega)]
  · rw [ek2, ek1]
    exact ((xC.rf h).up (by decide)).up (by decide)
theorem mj_row (hs : fS 247 [271, a1] h v h') (J : MJ G h) (W : GW G) : v = rowA a1 G ∧ ((rowC a1 G ∧ MJ (rowG a1 G) h') ∨ (¬ rowC a1 G ∧ MJ G h')) ∧ xM h h' := by
  have w4 := W.2.2.2.2
  refine vr_row hs (fun v h' => v = rowA a1 G ∧ ((rowC a1 G ∧ MJ (rowG a1 G) h') ∨ (¬ rowC a1 G ∧ MJ G h')) ∧ xM h h') ?_
  intro k0 ek0
  have J0 : MJ G k0 := by
    rw [ek0]
    exact J.up (by omega)
  have x0 : xM h k0 := by
    rw [ek0]
    exact (xM.rf h).up (by decide)
  have j4 := J0.2.2.2.2
  have ref : ∀ {x c z k1}, k1 = fu k0 285 c z → x = rowA a1 G → ¬ rowC a1 G → x = rowA a1 G ∧ ((rowC a1 G ∧ MJ (rowG a1 G) k1) ∨ (¬ rowC a1 G ∧ MJ G k1)) ∧ xM h k1 := fun e hx hn => by
    obtain ⟨r1, r2, r3⟩ := J0.rfd x0 e hx rfl
    exact ⟨r1, Or.inr ⟨hn, r2⟩, r3⟩
  unfold rowC rowA at *
  refine ⟨fun q1 => ⟨fun q2 z2 _ z3 _ z4 _ k1 ek1 => ref ek1 (by omega) (by omega), fun q2 z2 e2 => ⟨fun q3 z3 e3 k1 ek1 z4 e4 z5 e5 k2 ek2 z6 e6 => ?_, fun q3 z3 _ z4 _ z5 _ k1 ek1 => ref ek1 (by rw [j4.1] at e2; omega) (by rw [j4.1] at e2; omega)⟩⟩, fun q1 z2 _ z3 _ z4 _ k1 ek1 => ref ek1 (by omega) (by omega)⟩
  rw [j4.1] at e2 e3
  subst e2 e3
  rw [ek1, fu_c (by omega), j4.1] at e4
  subst e4
  rw [wr_id (by omega) (by omega)] at e5
  subst e5
  rw [ek2, fu_e rfl rfl] at e6
  subst e6
  refine ⟨by omega, Or.inl ⟨by omega, ⟨?_, J0.2.1.cg ?_ (fun k => ?_), J0.2.2.1.cg ?_ (fun k => ?_), J0.2.2.2.1.cg ?_ (fun k => ?_), ⟨?_, fun i j1 j2 => ?_⟩⟩⟩, ?_⟩
  · rw [ek2, ek1]
    exact RM_sk (RM_sk J0.1 (by omega)) (by omega)
  · rw [ek2, fu_k (by omega), ek1, fu_c (by omega)]
  · rw [ek2, fu_c (by omega), ek1, fu_c (by omega)]
  · rw [ek2, fu_k (by omega), ek1, fu_c (by omega)]
  · rw [ek2, fu_c (by omega), ek1, fu_c (by omega)]
  · rw [ek2, fu_k (by omega), ek1, fu_c (by omega)]
  · rw [ek2, fu_c (by omega), ek1, fu_c (by omega)]
  · rw [ek2, fu_e rfl rfl]
    rfl
  · have j2 : i < G.2.2.2.2.1 + 1 := j2
    show k2 296 i = if i = G.2.2.2.2.1 then a1 else G.2.2.2.2.2 i
    rw [ek2, fu_c (by omega), ek1]
    split
    · rename_i q
      rw [fu_e rfl q]
    · rename_i q
      rw [fu_k q]
      exact j4.2 i j1 (by omega)
  · rw [ek2, ek1]
    exact (x0.up (by decide)).up (by decide)
-- clear, judge: the row is empty behind them
noncomputable def zerG (G : gS) : gS := sO G (0, G.2.2.2.2.2)
theorem GW_zer (W : GW G) : GW (zerG G) := by
  obtain ⟨w1, w2, w3, w4, w5, w6, w7⟩ := W
  refine ⟨w1, w2, w3, w4, ?_, ?_, fun i j1 j2 => ?_⟩
  · show (0 : Int) ≤ 0
    omega
  · show (0 : Int) ≤ 12
    omega
  · have j2 : i < 0 := j2
    omega
theorem CJ.zer (J : CJ G h) (W : GW G) : CJ (zerG G) (fu h 1 8 0) := J.sRo W ⟨fu_e rfl rfl, fun i j1 j2 => by
  have j2 : i < 0 := j2
  omega⟩ (fun c k n1 n2 => by
    unfold fu
    rw [if_neg (by omega)])
theorem MJ.zer (J : MJ G h) : MJ (zerG G) (fu h 271 38 0) := ⟨RM_sk J.1 (by omega), J.2.1.cg (fu_k (by omega)) (fun k => fu_c (by omega)), J.2.2.1.cg (fu_k (by omega)) (fun k => fu_c (by omega)), J.2.2.2.1.cg (fu_k (by omega)) (fun k => fu_c (by omega)), ⟨fu_e rfl rfl, fun i j1 j2 => by
  have j2 : i < 0 := j2
  omega⟩⟩
theorem cj_clear (hs : fS 128 [1] h v h') (J : CJ G h) (W : GW G) : v = G.2.2.2.2.1 ∧ CJ (zerG G) h' ∧ xC h h' := by
  refine vc_clear hs (fun v h' => v = G.2.2.2.2.1 ∧ CJ (zerG G) h' ∧ xC h h') ?_
  intro z1 e1 k1 ek1
  rw [J.2.2.2.2.1.1] at e1
  rw [ek1]
  exact ⟨e1, J.zer W, (xC.rf h).up (by decide)⟩
theorem mj_clear (hs : fS 249 [271] h v h') (J : MJ G h) : v = G.2.2.2.2.1 ∧ MJ (zerG G) h' ∧ xM h h' := by
  refine vr_clear hs (fun v h' => v = G.2.2.2.2.1 ∧ MJ (zerG G) h' ∧ xM h h') ?_
  intro k0 ek0 z1 e1 k1 ek1
  have J0 : MJ G k0 := by
    rw [ek0]
    exact J.up (by omega)
  rw [J0.2.2.2.2.1] at e1
  rw [ek1]
  refine ⟨e1, J0.zer, ?_⟩
  rw [ek0]
  exact ((xM.rf h).up (by decide)).up (by decide)
noncomputable def jdO (G : gS) (i : Int) : Prop := i < G.1 0 ∧ G.1 (38 + 5 * i) = G.2.2.2.2.2 i
noncomputable def jdA (G : gS) (v : Int) : Prop := (v = -9 ∧ ∀ i, 0 ≤ i → i < G.2.2.2.2.1 → jdO G i) ∨ (0 ≤ v ∧ v < G.2.2.2.2.1 ∧ ¬ jdO G v ∧ ∀ i, 0 ≤ i → i < v → jdO G i)
theorem jdA.eq (a : jdA G x) (b : jdA G y) : x = y := by
  rcases a with ⟨a1, a2⟩ | ⟨a1, a2, a3, a4⟩
  · rcases b with ⟨b1, b2⟩ | ⟨b1, b2, b3, b4⟩
    · omega
    · exact absurd (a2 y b1 b2) b3
  · rcases b with ⟨b1, b2⟩ | ⟨b1, b2, b3, b4⟩
    · exact absurd (b2 x a1 a2) a3
    · rcases Int.lt_trichotomy x y with q | q | q
      · exact absurd (b4 x a1 q) a3
      · exact q
      · exact absurd (a4 y b1 q) b3
theorem cj_judge (hs : fS 129 [1] h v h') (J : CJ G h) (W : GW G) : jdA G v ∧ CJ (zerG G) h' ∧ xC h h' := by
  have w4 := W.2.2.2.2
  have hB := W.1.1.1
  have fin : ∀ {x k1}, k1 = fu h 1 8 0 → jdA G x → jdA G x ∧ CJ (zerG G) k1 ∧ xC h k1 := fun e hx => by
    rw [e]
    exact ⟨hx, J.zer W, (xC.rf h).up (by decide)⟩
  refine vc_judge hs (fun x0 x1 x2 q => x0 = 1 ∧ q = h ∧ 0 ≤ x2 ∧ x2 ≤ G.2.2.2.2.1 ∧ ((x1 = -9 ∧ ∀ i, 0 ≤ i → i < x2 → jdO G i) ∨ (x1 ≠ -9 ∧ jdA G x1))) (fun v h' => jdA G v ∧ CJ (zerG G) h' ∧ xC h h') ?_ ?_
  · exact ⟨rfl, rfl, by omega, by omega, Or.inl ⟨rfl, fun i j1 j2 => by omega⟩⟩
  · rintro x0 x1 x2 q ⟨rfl, rfl, i1, i2, i3⟩ z3 e3
    rw [J.2.2.2.2.1.1] at e3
    subst e3
    refine ⟨fun q1 k1 ek1 => fin ek1 ?_, fun q1 => ⟨fun q2 k1 ek1 => fin ek1 ?_, fun q2 => ⟨fun q3 => by omega, fun _ z4 e4 => ?_⟩⟩⟩
    · rcases i3 with ⟨i3, i4⟩ | i3
      · exact Or.inl ⟨i3, fun i j1 j2 => i4 i j1 (by omega)⟩
      · exact i3.2
    · rcases i3 with i3 | i3
      · exact absurd i3.1 q2
      · exact i3.2
    · rw [J.1.many] at e4
      subst e4
      rcases i3 with ⟨i3, i4⟩ | i3
      · refine ⟨fun q3 z5 e5 => ?_, fun q3 z5 e5 z6 e6 z7 e7 => ?_⟩
        · rw [wr_id (by omega) (by omega)] at e5
          refine ⟨rfl, rfl, by omega, by omega, Or.inr ⟨by omega, Or.inr ⟨i1, q1, fun a => ?_, i4⟩⟩⟩
          exact absurd a.1 (by omega)
        · have eb := J.1.bel i1 q3 (by omega : (0 : Int) ≤ 0) (by omega)
          rw [show (11 + 10 + x2 : Int) = 20 + 1 + 1 * x2 by omega, ← e5, ← e6, show (38 + 5 * x2 + 0 : Int) = 38 + 5 * x2 by omega] at eb
          rw [J.2.2.2.2.1.2 x2 i1 q1] at e7
          refine ⟨fun q4 z8 e8 => ?_, fun q4 z8 e8 => ?_⟩
          · rw [wr_id (by omega) (by omega)] at e8
            refine ⟨rfl, rfl, by omega, by omega, Or.inl ⟨i3, fun i j1 j2 => ?_⟩⟩
            by_cases q5 : i = x2
            · rw [q5]
              exact ⟨q3, by omega⟩
            · exact i4 i j1 (by omega)
          · rw [wr_id (by omega) (by omega)] at e8
            refine ⟨rfl, rfl, by omega, by omega, Or.inr ⟨by omega, Or.inr ⟨i1, q1, fun a => ?_, i4⟩⟩⟩
            exact q4 (by have := a.2; omega)
      · exact absurd q2 i3.1
theorem mj_judge (hs : fS 248 [271] h v h') (J : MJ G h) (W : GW G) : jdA G v ∧ MJ (zerG G) h' ∧ xM h h' := by
  have w4 := W.2.2.2.2
  have hB := W.1.1.1
  refine vr_judge hs (fun x0 x1 x2 q => x0 = 271 ∧ x1 = G.2.2.2.2.1 ∧ 0 ≤ x2 ∧ x2 ≤ x1 ∧ (∀ i, 0 ≤ i → i < x1 → q 296 i = G.2.2.2.2.2 i) ∧ MJ (zerG G) q ∧ xM h q ∧ ∀ i, 0 ≤ i → i < x2 → jdO G i) (fun v h' => jdA G v ∧ MJ (zerG G) h' ∧ xM h h') ?_ ?_
  · intro k0 ek0 z1 e1 k1 ek1
    have J0 : MJ G k0 := by
      rw [ek0]
      exact J.up (by omega)
    rw [J0.2.2.2.2.1] at e1
    subst e1
    refine ⟨rfl, rfl, by omega, by omega, fun i j1 j2 => ?_, ?_, ?_, fun i j1 j2 => by omega⟩
    · rw [ek1, fu_c (by omega)]
      exact J0.2.2.2.2.2 i j1 j2
    · rw [ek1]
      exact J0.zer
    · rw [ek1, ek0]
      exact ((xM.rf h).up (by decide)).up (by decide)
  · rintro x0 x1 x2 q ⟨rfl, rfl, i1, i2, i3, i4, i5, i6⟩
    refine ⟨fun q1 => ⟨Or.inl ⟨rfl, fun i j1 j2 => i6 i j1 (by omega)⟩, i4, i5⟩, fun q1 z3 e3 => ?_⟩
    have em : q 271 0 = G.1 0 := i4.1.many
    rw [em] at e3
    subst e3
    refine ⟨fun q2 => ⟨Or.inr ⟨i1, q1, fun a => absurd a.1 (by omega), i6⟩, i4, i5⟩, fun q2 z4 e4 z5 e5 z6 e6 => ?_⟩
    rw [wr_id (by omega) (by omega)] at e5
    subst e5
    have eb : q 277 (5 * x2) = G.1 (38 + 5 * x2) := i4.1.bel (i := 5 * x2) (by omega) (by omega)
    rw [eb] at e6
    rw [i3 x2 i1 q1] at e4
    refine ⟨fun q3 z7 e7 => ?_, fun q3 => ⟨Or.inr ⟨i1, q1, fun a => q3 (by have := a.2; omega), i6⟩, i4, i5⟩⟩
    rw [wr_id (by omega) (by omega)] at e7
    refine ⟨rfl, rfl, by omega, by omega, i3, i4, i5, fun i j1 j2 => ?_⟩
    by_cases q5 : i = x2
    · rw [q5]
      exact ⟨q2, by omega⟩
    · exact i6 i j1 (by omega)
-- the image
noncomputable def imgG (G : gS) : gS := sI G (1, G.1)
theorem GW_img (W : GW G) : GW (imgG G) := ⟨W.1, ⟨Or.inr rfl, fun _ => W.1⟩, W.2.2.1, W.2.2.2.1, W.2.2.2.2⟩
theorem cj_image (hs : fS 94 [1] h v h') (J : CJ G h) (W : GW G) : v = G.1 1 ∧ CJ (imgG G) h' ∧ xC h h' := by
  refine vc_image hs (fun v h' => v = G.1 1 ∧ CJ (imgG G) h' ∧ xC h h') ?_
  intro v1 k1 hs1 k2 ek2 z2 e2
  obtain ⟨a1, a2⟩ := sc_copyFrom hs1 J.1 W.1.1.bg (J.2.2.2.2.2 57 (by unfold tw; omega)) (by unfold tw; omega) (by unfold tw; omega) (by omega)
  have hO : ∀ c k, c < 57 ∨ 79 < c → (c = 1 → k ≠ 3) → k2 c k = h c k := fun c k j1 j2 => by
    rw [ek2, ← a2 c k (by omega)]
    unfold fu
    rw [if_neg (by omega)]
  refine ⟨?_, J.sIm W ⟨?_, fun _ => ?_⟩ ?_ (fun c k q => hO c k (by omega) (by omega)), fun c k q => hO c k (by omega) (by omega)⟩
  · rw [e2, hO _ _ (by omega) (by omega)]
    exact J.1.day
  · rw [ek2, fu_e rfl rfl]
  · rw [ek2]
    exact RC_sk a1 W.1.1.bg (by omega)
  · rw [ek2]
    exact (J.2.2.2.2.2.but (by unfold tw; omega) a2 a1.rw').fu (fun b hb => tw_no hb (by omega))
theorem mj_image (hs : fS 181 [271] h v h') (J : MJ G h) : v = G.1 1 ∧ MJ (imgG G) h' ∧ xM h h' := by
  refine vr_image hs (fun v h' => v = G.1 1 ∧ MJ (imgG G) h' ∧ xM h h') ?_
  intro k1 ek1 k2 ek2 v3 k3 hs3 z2 e2
  have r2 : RM k2 G.1 := by
    rw [ek2, ek1]
    exact RM_sk (RM_sk J.1 (by omega)) (by omega)
  obtain ⟨a1, a2, a3⟩ := sr_down hs3 r2 (by decide)
  have hO : ∀ c k, c ≠ 291 → (c < 271 ∨ 284 < c ∨ (c = 271 ∧ k ≠ 0 ∧ k ≠ 15 ∧ k ≠ 9 ∧ k ≠ 29 ∧ k ≠ 30 ∧ k ≠ 31 ∧ k ≠ 16 ∧ k ≠ 28)) → k3 c k = h c k := fun c k j1 j2 => by
    rw [a3 c k j1 (by omega), ek2, ek1]
    unfold fu
    rw [if_neg (by omega), if_neg (by omega)]
  refine ⟨?_, ⟨a1, ⟨?_, fun _ i j1 j2 => a2 i j1 j2⟩, J.2.2.1.cg (hO _ _ (by omega) (by omega)) (fun k => hO _ _ (by omega) (by omega)), J.2.2.2.1.cg (hO _ _ (by omega) (by omega)) (fun k => hO _ _ (by omega) (by omega)), J.2.2.2.2.cg (hO _ _ (by omega) (by omega)) (fun k => hO _ _ (by omega) (by omega))⟩, fun c k q => hO c k (by omega) (by omega)⟩
  · rw [e2]
    exact a1.day
  · rw [a3 271 28 (by omega) (by omega), ek2, fu_e rfl rfl]
    rfl
end MU
