/-! each call on both sides -/
section PP
variable {h h' h0 h1 h2 k0 : fH} {v v2 z c k x y : Int} {g : gV} {G G' : gS} {A : Int → Prop} {C : Prop} {jc jm n : Nat}
theorem xR_n : ∀ {n : Nat} {as : List Int}, as.length = n → xR (List.replicate n none) as
  | 0, as, _ => trivial
  | n + 1, [], h => by cases h
  | n + 1, a :: as, h => xR_n (n := n) (as := as) (by rw [List.length_cons] at h; omega)
theorem as1 {as : List Int} (h : as.length = 1) : ∃ a, as = [a] := by
  match as, h with
  | [a], _ => exact ⟨a, rfl⟩
theorem as2 {as : List Int} (h : as.length = 2) : ∃ a b, as = [a, b] := by
  match as, h with
  | [a, b], _ => exact ⟨a, b, rfl⟩
theorem as3 {as : List Int} (h : as.length = 3) : ∃ a b c, as = [a, b, c] := by
  match as, h with
  | [a, b, c], _ => exact ⟨a, b, c, rfl⟩
theorem as5 {as : List Int} (h : as.length = 5) : ∃ a b c d e, as = [a, b, c, d, e] := by
  match as, h with
  | [a, b, c, d, e], _ => exact ⟨a, b, c, d, e, rfl⟩
theorem as0 {as : List Int} (h : as.length = 0) : as = [] := List.eq_nil_of_length_eq_zero h
theorem post2 (W : GW G) (a : cPost A C G G' h v h1) (b : mPost A C G G' h1 v2 h2) (hW : C → GW G') : SJ h2 := by
  obtain ⟨a1, a2, a3⟩ := a
  obtain ⟨b1, b2, b3⟩ := b
  rcases a2 with ⟨c1, c2⟩ | ⟨c1, c2⟩
  · rcases b2 with ⟨d1, d2⟩ | ⟨d1, d2⟩
    · exact ⟨G', hW c1, c2.xM (hW c1) b3, d2⟩
    · exact absurd c1 d1
  · rcases b2 with ⟨d1, d2⟩ | ⟨d1, d2⟩
    · exact absurd d1 c1
    · exact ⟨G, W, c2.xM W b3, d2⟩
/-- a call that only asks: each side leaves what is spoken of -/
noncomputable def AK (jc jm n : Nat) : Prop := (∀ {G : gS} {h : fH} {v : Int} {h1 : fH} {as : List Int}, as.length = n → GW G → CJ G h → fS jc (1 :: as) h v h1 → CJ G h1 ∧ xC h h1) ∧ (∀ {G : gS} {h : fH} {v : Int} {h1 : fH} {as : List Int}, as.length = n → GW G → MJ G h → fS jm (271 :: as) h v h1 → MJ G h1 ∧ xM h h1)
theorem pj_ask (H : AK jc jm n) : PJ jc jm n false := by
  rintro as h h1 h2 v v2 hl hb ⟨G, W, C, M⟩ s1 s2
  obtain ⟨c1, x1⟩ := H.1 hl W C s1
  obtain ⟨m2, x2⟩ := H.2 hl W (M.xC x1) s2
  exact ⟨⟨G, W, c1.xM W x2, m2⟩, fun q => by cases q⟩
theorem pj_ans (H : AK jc jm n) (E : ∀ {G : gS} {as : List Int} {h h1 h2 : fH} {v v2 : Int}, as.length = n → (∀ a ∈ as, -2147483648 ≤ a ∧ a ≤ 2147483647) → GW G → CJ G h → MJ G h1 → fS jc (1 :: as) h v h1 → fS jm (271 :: as) h1 v2 h2 → v = v2) : PJ jc jm n true := by
  rintro as h h1 h2 v v2 hl hb ⟨G, W, C, M⟩ s1 s2
  obtain ⟨c1, x1⟩ := H.1 hl W C s1
  obtain ⟨m2, x2⟩ := H.2 hl W (M.xC x1) s2
  exact ⟨⟨G, W, c1.xM W x2, m2⟩, fun _ => E hl hb W C (M.xC x1) s1 s2⟩

theorem mj_preach {a1 : Int} (hs : fS 220 [271, a1] h v h') (J : MJ G h) (W : GW G) : MJ G h' ∧ xM h h' := by
  have hB := W.1.1.1
  have wo : ∀ {h h' : fH} {v x : Int} {G : gS}, fS 213 [271, x] h v h' → MJ G h → MJ G h' ∧ xM h h' := fun {h h' v x G} hs J => mj_ask (as := [271, x]) (fun g h0 => SQ_lt 0 (fun _ => fp_vr_wooersOf)) (by omega) ⟨rfl, trivial⟩ hs J
  have on : ∀ {h h' : fH} {v x : Int} {G : gS}, fS 199 [x] h v h' → MJ G h → MJ G h' ∧ xM h h' := fun {h h' v x G} hs J => mj_ask (as := [x]) (fun g h0 => SQ_lt 0 (fun _ => fp_vr_onesOf)) (by omega) trivial hs J
  refine vr_preach hs (fun x0 x1 x2 x3 x4 q => x0 = 271 ∧ 0 ≤ x1 ∧ x1 ≤ 4 ∧ 0 ≤ x4 ∧ MJ G q ∧ xM h q) (fun v h' => MJ G h' ∧ xM h h') ?_ ?_
  · intro k1 ek1
    have J1 : MJ G k1 := by
      rw [ek1]
      exact J.up (by omega)
    have x1 : xM h k1 := by
      rw [ek1]
      exact (xM.rf h).up (by decide)
    have ref : ∀ {c z : Int} {kk : fH}, kk = fu k1 285 c z → MJ G kk ∧ xM h kk := fun e => by
      rw [e]
      exact ⟨J1.up (by omega), x1.up (by decide)⟩
    exact fun z2 e2 => ⟨fun _ z3 _ z4 _ z5 _ k2 ek2 => ref ek2, fun q2 z3 e3 => ⟨fun _ z4 _ z5 _ z6 _ k2 ek2 => ref ek2, fun q3 => ⟨rfl, xl_ge e2 q2, xl_le e3 q3, Int.le_refl 0, J1, x1⟩⟩⟩
  · rintro x0 x1 x2 x3 x4 q ⟨rfl, i1, i2, i3, i4, i5⟩ z5 e5
    rw [i4.1.many] at e5
    refine ⟨fun _ => ⟨i4, i5⟩, fun q1 v1 k1 hs1 v2 k2 hs2 z8 e8 z9 e9 z10 e10 z11 e11 z12 e12 z13 e13 k3 ek3 v4 k4 hs4 v5 k5 hs5 z16 e16 z17 e17 z18 e18 z19 e19 z20 e20 z21 e21 k6 ek6 => ?_⟩
    obtain ⟨j1, y1⟩ := wo hs1 i4
    obtain ⟨j2, y2⟩ := on hs2 j1
    have f8 := wr_d e8 (by omega) (by omega)
    have f9 := wr_d e9 (by omega) (by omega)
    have f10 := wr_d e10 (by omega) (by omega)
    have f11 := wr_d e11 (by omega) (by omega)
    have f16 := wr_d e16 (by omega) (by omega)
    have f17 := wr_d e17 (by omega) (by omega)
    have f18 := wr_d e18 (by omega) (by omega)
    have f19 := wr_d e19 (by omega) (by omega)
    have wb := W.1.1.bel (p := x4) (e := x1) i3 (by omega) i1 (by omega)
    have g12 : z12 = G.1 (38 + 5 * x4 + x1) := by
      rw [e12, j2.1.bel (by omega) (by omega)]
      exact congrArg G.1 (by omega)
    have f13 := wr_d e13 (by omega) (by omega)
    have r3 := j2.1.u_bel (i := z9) (z := z13) (by omega) (by omega)
    rw [← ek3] at r3
    have J3 : MJ (sP (sT G (gu G.1 (38 + z9) z13)) G.2.2.1) k3 := j2.sTP r3 (j2.2.2.1.cg (by rw [ek3, fu_c (by omega)]) (fun k => by rw [ek3, fu_c (by omega)])) (fun c k n => by rw [ek3, fu_c (by omega)])
    obtain ⟨j4, y4⟩ := wo hs4 J3
    obtain ⟨j5, y5⟩ := on hs5 j4
    have r5 : RM k5 (gu G.1 (38 + z9) z13) := j5.1
    have g20 : z20 = z13 := by
      rw [e20, r5.bel (by omega) (by omega)]
      exact gu_e (by omega)
    have f21 := wr_d e21 (by omega) (by omega)
    have r6 := r5.u_bel (i := z17) (z := z21) (by omega) (by omega)
    rw [← ek6] at r6
    have R6 : RM k6 G.1 := RM_ext r6 (fun j n1 n2 => by
      unfold gu
      split
      · rename_i e
        rw [show z21 = z12 by omega, g12]
        exact congrArg G.1 (by omega)
      · rw [if_neg (by omega)])
    have J6 : MJ (sP (sT (sP (sT G (gu G.1 (38 + z9) z13)) G.2.2.1) G.1) G.2.2.1) k6 := j5.sTP R6 (j5.2.2.1.cg (by rw [ek6, fu_c (by omega)]) (fun k => by rw [ek6, fu_c (by omega)])) (fun c k n => by rw [ek6, fu_c (by omega)])
    have J6 : MJ G k6 := J6
    have X6 : xM h k6 := by
      refine i5.tr (y1.tr (y2.tr ?_))
      intro c k n
      rw [ek6, fu_c (by omega), y5 c k n, y4 c k n, ek3, fu_c (by omega)]
    have fin : ∀ {z22 : Int}, z22 = wr (x4 + 1) → (271 : Int) = 271 ∧ 0 ≤ x1 ∧ x1 ≤ 4 ∧ 0 ≤ z22 ∧ MJ G k6 ∧ xM h k6 := fun e22 => by
      have f22 := wr_d e22 (by omega) (by omega)
      exact ⟨rfl, i1, i2, by omega, J6, X6⟩
    exact ⟨fun _ => ⟨fun _ z22 e22 => fin e22, fun _ => ⟨fun _ z22 e22 => fin e22, fun _ z22 e22 => fin e22⟩⟩, fun _ => ⟨fun _ => ⟨fun _ z22 e22 => fin e22, fun _ => ⟨fun _ z22 e22 => fin e22, fun _ z22 e22 => fin e22⟩⟩, fun _ => ⟨fun _ z22 e22 => fin e22, fun _ => ⟨fun _ z22 e22 => fin e22, fun _ z22 e22 => fin e22⟩⟩⟩⟩
theorem ak_personOf : AK 74 184 2 := ⟨fun {G h v h1 as} hl W C hs => cj_ask (fun _ => fc1_vc_personOf) (show xR (some 1 :: List.replicate 2 none) (1 :: as) from ⟨rfl, xR_n hl⟩) hs C W, fun {G h v h1 as} hl W M hs => mj_ask (fun g h0 => SQ_lt 0 (fun _ => fp_vr_personOf)) (by omega) (show xR (some 271 :: List.replicate 2 none) (271 :: as) from ⟨rfl, xR_n hl⟩) hs M⟩
theorem pj_personOf : PJ 74 184 2 false := pj_ask ak_personOf
theorem ak_belief : AK 75 185 2 := ⟨fun {G h v h1 as} hl W C hs => cj_ask (fun _ => fc1_vc_belief) (show xR (some 1 :: List.replicate 2 none) (1 :: as) from ⟨rfl, xR_n hl⟩) hs C W, fun {G h v h1 as} hl W M hs => mj_ask (fun g h0 => SQ_lt 0 (fun _ => fp_vr_belief)) (by omega) (show xR (some 271 :: List.replicate 2 none) (271 :: as) from ⟨rfl, xR_n hl⟩) hs M⟩
theorem pj_belief : PJ 75 185 2 false := pj_ask ak_belief
theorem ak_eventOf : AK 76 186 2 := ⟨fun {G h v h1 as} hl W C hs => cj_ask (fun _ => fc1_vc_eventOf) (show xR (some 1 :: List.replicate 2 none) (1 :: as) from ⟨rfl, xR_n hl⟩) hs C W, fun {G h v h1 as} hl W M hs => mj_ask (fun g h0 => SQ_lt 0 (fun _ => fp_vr_eventOf)) (by omega) (show xR (some 271 :: List.replicate 2 none) (271 :: as) from ⟨rfl, xR_n hl⟩) hs M⟩
theorem pj_eventOf : PJ 76 186 2 false := pj_ask ak_eventOf
theorem ak_wagerOf : AK 77 187 2 := ⟨fun {G h v h1 as} hl W C hs => cj_ask (fun _ => fc1_vc_wagerOf) (show xR (some 1 :: List.replicate 2 none) (1 :: as) from ⟨rfl, xR_n hl⟩) hs C W, fun {G h v h1 as} hl W M hs => mj_ask (fun g h0 => SQ_lt 0 (fun _ => fp_vr_wagerOf)) (by omega) (show xR (some 271 :: List.replicate 2 none) (271 :: as) from ⟨rfl, xR_n hl⟩) hs M⟩
theorem pj_wagerOf : PJ 77 187 2 false := pj_ask ak_wagerOf
theorem ak_personIn : AK 96 200 3 := ⟨fun {G h v h1 as} hl W C hs => cj_ask (fun _ => fc1_vc_personIn) (show xR (some 1 :: List.replicate 3 none) (1 :: as) from ⟨rfl, xR_n hl⟩) hs C W, fun {G h v h1 as} hl W M hs => mj_ask (fun g h0 => fq0_vr_personIn) (by omega) (show xR (some 271 :: List.replicate 3 none) (271 :: as) from ⟨rfl, xR_n hl⟩) hs M⟩
theorem pj_personIn : PJ 96 200 3 false := pj_ask ak_personIn
theorem ak_beliefIn : AK 98 201 3 := ⟨fun {G h v h1 as} hl W C hs => cj_ask (fun _ => fc1_vc_beliefIn) (show xR (some 1 :: List.replicate 3 none) (1 :: as) from ⟨rfl, xR_n hl⟩) hs C W, fun {G h v h1 as} hl W M hs => mj_ask (fun g h0 => fq0_vr_beliefIn) (by omega) (show xR (some 271 :: List.replicate 3 none) (271 :: as) from ⟨rfl, xR_n hl⟩) hs M⟩
theorem pj_beliefIn : PJ 98 201 3 false := pj_ask ak_beliefIn
theorem ak_wedIn : AK 102 203 1 := ⟨fun {G h v h1 as} hl W C hs => cj_ask (fun _ => fc1_vc_wedIn) (show xR (some 1 :: List.replicate 1 none) (1 :: as) from ⟨rfl, xR_n hl⟩) hs C W, fun {G h v h1 as} hl W M hs => mj_ask (fun g h0 => fq0_vr_wedIn) (by omega) (show xR (some 271 :: List.replicate 1 none) (271 :: as) from ⟨rfl, xR_n hl⟩) hs M⟩
theorem pj_wedIn : PJ 102 203 1 false := pj_ask ak_wedIn
theorem ak_wedWhen : AK 103 205 1 := ⟨fun {G h v h1 as} hl W C hs => cj_ask (fun _ => fc1_vc_wedWhen) (show xR (some 1 :: List.replicate 1 none) (1 :: as) from ⟨rfl, xR_n hl⟩) hs C W, fun {G h v h1 as} hl W M hs => mj_ask (fun g h0 => fq0_vr_wedWhen) (by omega) (show xR (some 271 :: List.replicate 1 none) (271 :: as) from ⟨rfl, xR_n hl⟩) hs M⟩
theorem pj_wedWhen : PJ 103 205 1 false := pj_ask ak_wedWhen
theorem ak_happens : AK 105 207 2 := ⟨fun {G h v h1 as} hl W C hs => cj_ask (fun _ => fc1_vc_happens) (show xR (some 1 :: List.replicate 2 none) (1 :: as) from ⟨rfl, xR_n hl⟩) hs C W, fun {G h v h1 as} hl W M hs => mj_ask (fun g h0 => SQ_lt 0 (fun _ => fp_vr_happens)) (by omega) (show xR (some 271 :: List.replicate 2 none) (271 :: as) from ⟨rfl, xR_n hl⟩) hs M⟩
theorem pj_happens : PJ 105 207 2 false := pj_ask ak_happens
theorem ak_bet : AK 106 208 2 := ⟨fun {G h v h1 as} hl W C hs => cj_ask (fun _ => fc1_vc_bet) (show xR (some 1 :: List.replicate 2 none) (1 :: as) from ⟨rfl, xR_n hl⟩) hs C W, fun {G h v h1 as} hl W M hs => mj_ask (fun g h0 => SQ_lt 0 (fun _ => fp_vr_bet)) (by omega) (show xR (some 271 :: List.replicate 2 none) (271 :: as) from ⟨rfl, xR_n hl⟩) hs M⟩
theorem pj_bet : PJ 106 208 2 false := pj_ask ak_bet
theorem ak_takers : AK 108 211 3 := ⟨fun {G h v h1 as} hl W C hs => cj_ask (fun _ => fc1_vc_takers) (show xR (some 1 :: List.replicate 3 none) (1 :: as) from ⟨rfl, xR_n hl⟩) hs C W, fun {G h v h1 as} hl W M hs => mj_ask (fun g h0 => SQ_lt 0 (fun _ => fp_vr_takers)) (by omega) (show xR (some 271 :: List.replicate 3 none) (271 :: as) from ⟨rfl, xR_n hl⟩) hs M⟩
theorem pj_takers : PJ 108 211 3 false := pj_ask ak_takers
theorem ak_wooers : AK 109 212 1 := ⟨fun {G h v h1 as} hl W C hs => cj_ask (fun _ => fc1_vc_wooers) (show xR (some 1 :: List.replicate 1 none) (1 :: as) from ⟨rfl, xR_n hl⟩) hs C W, fun {G h v h1 as} hl W M hs => mj_ask (fun g h0 => SQ_lt 0 (fun _ => fp_vr_wooers)) (by omega) (show xR (some 271 :: List.replicate 1 none) (271 :: as) from ⟨rfl, xR_n hl⟩) hs M⟩
theorem pj_wooers : PJ 109 212 1 false := pj_ask ak_wooers
theorem ak_match : AK 111 214 1 := ⟨fun {G h v h1 as} hl W C hs => cj_ask (fun _ => fc1_vc_match) (show xR (some 1 :: List.replicate 1 none) (1 :: as) from ⟨rfl, xR_n hl⟩) hs C W, fun {G h v h1 as} hl W M hs => mj_ask (fun g h0 => SQ_lt 0 (fun _ => fp_vr_match)) (by omega) (show xR (some 271 :: List.replicate 1 none) (271 :: as) from ⟨rfl, xR_n hl⟩) hs M⟩
theorem pj_match : PJ 111 214 1 false := pj_ask ak_match
theorem ak_fix : AK 118 219 1 := ⟨fun {G h v h1 as} hl W C hs => cj_mind (fm_vc_fix C.1 W.1.1 _ _ _ _ (show xR (some 1 :: List.replicate 1 none) (1 :: as) from ⟨rfl, xR_n hl⟩) (SC.rf C.w34) hs) C W, fun {G h v h1 as} hl W M hs => mj_ask (fun g h0 => fq0_vr_fix) (by omega) (show xR (some 271 :: List.replicate 1 none) (271 :: as) from ⟨rfl, xR_n hl⟩) hs M⟩
theorem pj_fix : PJ 118 219 1 false := pj_ask ak_fix
theorem ak_preach : AK 119 220 1 := ⟨fun {G h v h1 as} hl W C hs => (by
  obtain ⟨x0, rfl⟩ := as1 hl
  exact cj_mind (sm_preach hs (SC.rf C.w34) C.1 W.1.1) C W), fun {G h v h1 as} hl W M hs => (by
  obtain ⟨x0, rfl⟩ := as1 hl
  exact mj_preach hs M W)⟩
theorem pj_preach : PJ 119 220 1 false := pj_ask ak_preach
theorem ak_fair : AK 121 221 1 := ⟨fun {G h v h1 as} hl W C hs => cj_ask (fun _ => fc1_vc_fair) (show xR (some 1 :: List.replicate 1 none) (1 :: as) from ⟨rfl, xR_n hl⟩) hs C W, fun {G h v h1 as} hl W M hs => mj_ask (fun g h0 => SQ_lt 0 (fun _ => fp_vr_fair)) (by omega) (show xR (some 271 :: List.replicate 1 none) (271 :: as) from ⟨rfl, xR_n hl⟩) hs M⟩
theorem pj_fair : PJ 121 221 1 false := pj_ask ak_fair
theorem ak_hedge : AK 123 222 2 := ⟨fun {G h v h1 as} hl W C hs => cj_mind (fm_vc_hedge C.1 W.1.1 _ _ _ _ (show xR (some 1 :: List.replicate 2 none) (1 :: as) from ⟨rfl, xR_n hl⟩) (SC.rf C.w34) hs) C W, fun {G h v h1 as} hl W M hs => mj_ask (fun g h0 => fq0_vr_hedge) (by omega) (show xR (some 271 :: List.replicate 2 none) (271 :: as) from ⟨rfl, xR_n hl⟩) hs M⟩
theorem pj_hedge : PJ 123 222 2 false := pj_ask ak_hedge
theorem ak_uponWhat : AK 130 225 2 := ⟨fun {G h v h1 as} hl W C hs => (by
  obtain ⟨x0, x1, rfl⟩ := as2 hl
  exact cj_mind (sm_uponWhat hs (SC.rf C.w34) C.1 W.1.1) C W), fun {G h v h1 as} hl W M hs => mj_ask (fun g h0 => fq0_vr_uponWhat) (by omega) (show xR (some 271 :: List.replicate 2 none) (271 :: as) from ⟨rfl, xR_n hl⟩) hs M⟩
theorem pj_uponWhat : PJ 130 225 2 false := pj_ask ak_uponWhat
theorem ak_whatKind : AK 132 228 2 := ⟨fun {G h v h1 as} hl W C hs => (by
  obtain ⟨x0, x1, rfl⟩ := as2 hl
  exact cj_mind (sm_whatKind hs (SC.rf C.w34) C.1 W.1.1) C W), fun {G h v h1 as} hl W M hs => mj_ask (fun g h0 => fq0_vr_whatKind) (by omega) (show xR (some 271 :: List.replicate 2 none) (271 :: as) from ⟨rfl, xR_n hl⟩) hs M⟩
theorem pj_whatKind : PJ 132 228 2 false := pj_ask ak_whatKind
theorem ak_two : AK 125 229 3 := ⟨fun {G h v h1 as} hl W C hs => (by
  obtain ⟨x0, x1, x2, rfl⟩ := as3 hl
  exact cj_mind (sm_two hs (SC.rf C.w34) C.1 W.1.1) C W), fun {G h v h1 as} hl W M hs => mj_ask (fun g h0 => fq0_vr_two) (by omega) (show xR (some 271 :: List.replicate 3 none) (271 :: as) from ⟨rfl, xR_n hl⟩) hs M⟩
theorem pj_two : PJ 125 229 3 false := pj_ask ak_two
theorem ak_sure : AK 133 230 4 := ⟨fun {G h v h1 as} hl W C hs => cj_ask (fun _ => fc1_vc_sure) (show xR (some 1 :: List.replicate 4 none) (1 :: as) from ⟨rfl, xR_n hl⟩) hs C W, fun {G h v h1 as} hl W M hs => mj_ask (fun g h0 => fq0_vr_sure) (by omega) (show xR (some 271 :: List.replicate 4 none) (271 :: as) from ⟨rfl, xR_n hl⟩) hs M⟩
theorem pj_sure : PJ 133 230 4 false := pj_ask ak_sure
theorem ak_shares : AK 136 233 2 := ⟨fun {G h v h1 as} hl W C hs => cj_ask (fun _ => fc1_vc_shares) (show xR (some 1 :: List.replicate 2 none) (1 :: as) from ⟨rfl, xR_n hl⟩) hs C W, fun {G h v h1 as} hl W M hs => mj_ask (fun g h0 => SQ_lt 0 (fun _ => fp_vr_shares)) (by omega) (show xR (some 271 :: List.replicate 2 none) (271 :: as) from ⟨rfl, xR_n hl⟩) hs M⟩
theorem pj_shares : PJ 136 233 2 false := pj_ask ak_shares
theorem ak_saddest : AK 138 234 1 := ⟨fun {G h v h1 as} hl W C hs => cj_ask (fun _ => fc1_vc_saddest) (show xR (some 1 :: List.replicate 1 none) (1 :: as) from ⟨rfl, xR_n hl⟩) hs C W, fun {G h v h1 as} hl W M hs => mj_ask (fun g h0 => SQ_lt 0 (fun _ => fp_vr_saddest)) (by omega) (show xR (some 271 :: List.replicate 1 none) (271 :: as) from ⟨rfl, xR_n hl⟩) hs M⟩
theorem pj_saddest : PJ 138 234 1 false := pj_ask ak_saddest
theorem ak_wished : AK 142 239 1 := ⟨fun {G h v h1 as} hl W C hs => cj_ask (fun _ => fc1_vc_wished) (show xR (some 1 :: List.replicate 1 none) (1 :: as) from ⟨rfl, xR_n hl⟩) hs C W, fun {G h v h1 as} hl W M hs => mj_ask (fun g h0 => SQ_lt 0 (fun _ => fp_vr_wished)) (by omega) (show xR (some 271 :: List.replicate 1 none) (271 :: as) from ⟨rfl, xR_n hl⟩) hs M⟩
theorem pj_wished : PJ 142 239 1 false := pj_ask ak_wished
theorem ak_mean : AK 135 240 2 := ⟨fun {G h v h1 as} hl W C hs => cj_ask (fun _ => fc1_vc_mean) (show xR (some 1 :: List.replicate 2 none) (1 :: as) from ⟨rfl, xR_n hl⟩) hs C W, fun {G h v h1 as} hl W M hs => mj_ask (fun g h0 => SQ_lt 0 (fun _ => fp_vr_mean)) (by omega) (show xR (some 271 :: List.replicate 2 none) (271 :: as) from ⟨rfl, xR_n hl⟩) hs M⟩
theorem pj_mean : PJ 135 240 2 false := pj_ask ak_mean
theorem ak_scorn : AK 143 241 1 := ⟨fun {G h v h1 as} hl W C hs => cj_ask (fun _ => fc1_vc_scorn) (show xR (some 1 :: List.replicate 1 none) (1 :: as) from ⟨rfl, xR_n hl⟩) hs C W, fun {G h v h1 as} hl W M hs => mj_ask (fun g h0 => SQ_lt 0 (fun _ => fp_vr_scorn)) (by omega) (show xR (some 271 :: List.replicate 1 none) (271 :: as) from ⟨rfl, xR_n hl⟩) hs M⟩
theorem pj_scorn : PJ 143 241 1 false := pj_ask ak_scorn
theorem ak_left : AK 144 242 1 := ⟨fun {G h v h1 as} hl W C hs => cj_ask (fun _ => fc1_vc_left) (show xR (some 1 :: List.replicate 1 none) (1 :: as) from ⟨rfl, xR_n hl⟩) hs C W, fun {G h v h1 as} hl W M hs => mj_ask (fun g h0 => fq0_vr_left) (by omega) (show xR (some 271 :: List.replicate 1 none) (271 :: as) from ⟨rfl, xR_n hl⟩) hs M⟩
theorem pj_left : PJ 144 242 1 false := pj_ask ak_left
theorem ak_hope : AK 101 246 3 := ⟨fun {G h v h1 as} hl W C hs => cj_ask (fun _ => fc1_vc_hope) (show xR (some 1 :: List.replicate 3 none) (1 :: as) from ⟨rfl, xR_n hl⟩) hs C W, fun {G h v h1 as} hl W M hs => mj_ask (fun g h0 => fq0_vr_hope) (by omega) (show xR (some 271 :: List.replicate 3 none) (271 :: as) from ⟨rfl, xR_n hl⟩) hs M⟩
theorem pj_hope : PJ 101 246 3 false := pj_ask ak_hope
theorem ak_lots : AK 137 250 3 := ⟨fun {G h v h1 as} hl W C hs => cj_mind (fm_vc_lots C.1 W.1.1 _ _ _ _ (show xR (some 1 :: List.replicate 3 none) (1 :: as) from ⟨rfl, xR_n hl⟩) (SC.rf C.w34) hs) C W, fun {G h v h1 as} hl W M hs => mj_ask (fun g h0 => fq0_vr_lots) (by omega) (show xR (some 271 :: List.replicate 3 none) (271 :: as) from ⟨rfl, xR_n hl⟩) hs M⟩
theorem ak_count : AK 78 252 1 := ⟨fun {G h v h1 as} hl W C hs => (by
  have e := S0_eq (fun _ => fz_vc_count) (show xR (List.replicate 2 none) (1 :: as) from xR_n (by rw [List.length_cons, hl])) hs
  rw [e]
  exact ⟨C, xC.rf _⟩), fun {G h v h1 as} hl W M hs => mj_ask (fun g h0 => SQ_lt 0 (fun _ => fp_vr_count)) (by omega) (show xR (some 271 :: List.replicate 1 none) (271 :: as) from ⟨rfl, xR_n hl⟩) hs M⟩
theorem pj_count : PJ 78 252 1 false := pj_ask ak_count
theorem proV_un {a c e s d : Int} (p : proV g a c e s d v) (q : proV g a c e s d v2) : v = v2 := by
  unfold proV at p q
  split at p
  · rename_i h1
    rw [if_pos h1] at q
    omega
  · rename_i h1
    rw [if_neg h1] at q
    split at p
    · rename_i h2
      rw [if_pos h2] at q
      omega
    · rename_i h2
      rw [if_neg h2] at q
      split at p
      · rename_i h3
        rw [if_pos h3] at q
        omega
      · rename_i h3
        rw [if_neg h3] at q
        split at p
        · rename_i h4
          rw [if_pos h4] at q
          omega
        · rename_i h4
          rw [if_neg h4] at q
          rcases p with ⟨p1, p2⟩ | ⟨p1, p2⟩
          · rcases q with ⟨q1, q2⟩ | ⟨q1, q2⟩
            · omega
            · exact absurd p1 q1
          · rcases q with ⟨q1, q2⟩ | ⟨q1, q2⟩
            · exact absurd q1 p1
            · omega
theorem pj_feed : PJ 12 150 1 true := by
  rintro as h h1 h2 v v2 hl hb ⟨G, W, C, M⟩ hs1 hs2
  obtain ⟨x0, rfl⟩ := as1 hl
  have a : cPost (fun v => v = feedA x0 G) (feedC x0 G) G (feedG x0 G) h v h1 := cj_feed hs1 C W
  have b : mPost (fun v => v = feedA x0 G) (feedC x0 G) G (feedG x0 G) h1 v2 h2 := mj_feed hs2 (M.xC a.2.2) W
  exact ⟨post2 W a b (GW_feed W), fun _ => a.1.trans b.1.symm⟩
theorem pj_row : PJ 127 247 1 true := by
  rintro as h h1 h2 v v2 hl hb ⟨G, W, C, M⟩ hs1 hs2
  obtain ⟨x0, rfl⟩ := as1 hl
  have a : cPost (fun v => v = rowA x0 G) (rowC x0 G) G (rowG x0 G) h v h1 := cj_row hs1 C W
  have b : mPost (fun v => v = rowA x0 G) (rowC x0 G) G (rowG x0 G) h1 v2 h2 := mj_row hs2 (M.xC a.2.2) W
  exact ⟨post2 W a b (GW_row W), fun _ => a.1.trans b.1.symm⟩
theorem pj_back : PJ 92 183 0 true := by
  rintro as h h1 h2 v v2 hl hb ⟨G, W, C, M⟩ hs1 hs2
  have hl := as0 hl
  subst hl
  have a : cPost (fun v => v = backA  G) (backC  G) G (backG  G) h v h1 := cj_back hs1 C W
  have b : mPost (fun v => v = backA  G) (backC  G) G (backG  G) h1 v2 h2 := mj_back hs2 (M.xC a.2.2) W
  exact ⟨post2 W a b (GW_back W), fun _ => a.1.trans b.1.symm⟩
theorem pj_restore : PJ 95 182 0 true := by
  rintro as h h1 h2 v v2 hl hb ⟨G, W, C, M⟩ hs1 hs2
  have hl := as0 hl
  subst hl
  have a : cPost (fun v => v = restA  G) (restC  G) G (restG  G) h v h1 := cj_restore hs1 C W
  have b : mPost (fun v => v = restA  G) (restC  G) G (restG  G) h1 v2 h2 := mj_restore hs2 (M.xC a.2.2) W
  exact ⟨post2 W a b (GW_rest W), fun _ => a.1.trans b.1.symm⟩
theorem pj_person : PJ 84 188 2 true := by
  rintro as h h1 h2 v v2 hl hb ⟨G, W, C, M⟩ hs1 hs2
  obtain ⟨x0, x1, rfl⟩ := as2 hl
  have a : cPost (persA x0 x1 G) (persC x0 x1 G) G (persG x0 x1 G) h v h1 := cj_person hs1 C W
  have b : mPost (persA x0 x1 G) (persC x0 x1 G) G (persG x0 x1 G) h1 v2 h2 := mj_person hs2 (M.xC a.2.2) W
  exact ⟨post2 W a b (fun q => GW_tp W ⟨WF_come W.1.1 q.2.2.2.2 q.1 q.2.1 q.2.2.1 q.2.2.2.1, by have := W.1.1.1; have := W.1.2; show comeG G.1 _ _ 1 ≤ 999; unfold comeG; rw [if_neg (by omega), if_neg (by omega), if_neg (by omega), if_neg (by omega), if_neg (by omega), if_neg (by omega)]; assumption⟩ (GP_zero G)), fun _ => a.1.trans b.1.symm⟩
theorem pj_wishes : PJ 85 190 2 true := by
  rintro as h h1 h2 v v2 hl hb ⟨G, W, C, M⟩ hs1 hs2
  obtain ⟨x0, x1, rfl⟩ := as2 hl
  have a : cPost (wishA x0 x1 G) (wishC x0 x1 G) G (wishG x0 x1 G) h v h1 := cj_wishes hs1 C W
  have b : mPost (wishA x0 x1 G) (wishC x0 x1 G) G (wishG x0 x1 G) h1 v2 h2 := mj_wishes hs2 (M.xC a.2.2) W
  exact ⟨post2 W a b (fun q => GW_tp W ⟨WF_wish W.1.1 q.1 q.2.1 q.2.2.1 q.2.2.2, by have := q.1; rw [gu_n (by omega)]; exact W.1.2⟩ (GP_zero G)), fun _ => a.1.trans b.1.symm⟩
theorem pj_believes : PJ 86 191 3 true := by
  rintro as h h1 h2 v v2 hl hb ⟨G, W, C, M⟩ hs1 hs2
  obtain ⟨x0, x1, x2, rfl⟩ := as3 hl
  have a : cPost (beliA x0 x1 x2 G) (beliC x0 x1 x2 G) G (beliG x0 x1 x2 G) h v h1 := cj_believes hs1 C W
  have b : mPost (beliA x0 x1 x2 G) (beliC x0 x1 x2 G) G (beliG x0 x1 x2 G) h1 v2 h2 := mj_believes hs2 (M.xC a.2.2) W
  exact ⟨post2 W a b (fun q => GW_tp W ⟨WF_bel W.1.1 q.1 q.2.1 q.2.2.1 (by have := q.2.2.2.1; omega) q.2.2.2.2.1 q.2.2.2.2.2, by have := q.1; have := q.2.2.1; rw [gu_n (by omega)]; exact W.1.2⟩ (GP_keep W)), fun _ => a.1.trans b.1.symm⟩
theorem pj_fixes : PJ 88 193 3 true := by
  rintro as h h1 h2 v v2 hl hb ⟨G, W, C, M⟩ hs1 hs2
  obtain ⟨x0, x1, x2, rfl⟩ := as3 hl
  have a : cPost (fixeA x0 x1 x2 G) (fixeC x0 x1 x2 G) G (fixeG x0 x1 x2 G) h v h1 := cj_fixes hs1 C W
  have b : mPost (fixeA x0 x1 x2 G) (fixeC x0 x1 x2 G) G (fixeG x0 x1 x2 G) h1 v2 h2 := mj_fixes hs2 (M.xC a.2.2) W
  exact ⟨post2 W a b (fun q => GW_tp W ⟨WF_set W.1.1 q.1 (by have := q.2.1; omega) q.2.2.1 q.2.2.2.1 q.2.2.2.2.1 q.2.2.2.2.2, by have := q.1; rw [gu_n (by omega), gu_n (by omega)]; exact W.1.2⟩ (GP_keep W)), fun _ => a.1.trans b.1.symm⟩
theorem pj_days : PJ 90 197 1 false := by
  rintro as h h1 h2 v v2 hl hb ⟨G, W, C, M⟩ hs1 hs2
  obtain ⟨x0, rfl⟩ := as1 hl
  have a : cPost (daysA x0 G) (daysC x0 G) G (daysG x0 G) h v h1 := cj_days hs1 C W
  have b : mPost (daysA x0 G) (daysC x0 G) G (daysG x0 G) h1 v2 h2 := mj_days hs2 (M.xC a.2.2) W
  exact ⟨post2 W a b (fun q => GW_tp W (by have q1 := q.1; have q3 := q.2.2; have := W.1.1.1; obtain ⟨r1, r2, r3⟩ := dayN_ok W.1.1 (Int.toNat x0) (by omega); exact ⟨r1, by omega⟩) (GP_keep W)), fun q => by cases q⟩
theorem pj_proposes : PJ 89 194 5 true := by
  rintro as h h1 h2 v v2 hl hb ⟨G, W, C, M⟩ hs1 hs2
  obtain ⟨x0, x1, x2, x3, x4, rfl⟩ := as5 hl
  have a : cPost (propA x0 x1 x2 x3 x4 G) (propC x0 x1 x2 x3 x4 G) G (propG x0 x1 x2 x3 x4 G) h v h1 := cj_proposes hs1 C W
  have b : mPost (propA x0 x1 x2 x3 x4 G) (propC x0 x1 x2 x3 x4 G) G (propG x0 x1 x2 x3 x4 G) h1 v2 h2 := mj_proposes hs2 (M.xC a.2.2) W
  exact ⟨post2 W a b (fun q => GW_tp W ⟨proC_WF W.1.1 q, by have := W.1.1.1; rw [proF_o (by omega) (by omega)]; exact W.1.2⟩ (GP_keep W)), (by
  intro _
  rcases a.1 with ⟨p1, p2⟩ | ⟨p1, p2⟩
  · rcases b.1 with ⟨q1, q2⟩ | ⟨q1, q2⟩
    · exact proV_un p2 q2
    · exact absurd ((proV_0 p2).mpr q1) p1
  · rcases b.1 with ⟨q1, q2⟩ | ⟨q1, q2⟩
    · exact absurd ((proV_0 q2).mpr p1) q1
    · exact p2.trans q2.symm)⟩
theorem pj_clear : PJ 128 249 0 true := by
  rintro as h h1 h2 v v2 hl hb ⟨G, W, C, M⟩ hs1 hs2
  have hl := as0 hl
  subst hl
  obtain ⟨a1, a2, a3⟩ := cj_clear hs1 C W
  obtain ⟨b1, b2, b3⟩ := mj_clear hs2 (M.xC a3)
  exact ⟨⟨zerG G, GW_zer W, a2.xM (GW_zer W) b3, b2⟩, fun _ => a1.trans b1.symm⟩
theorem pj_image : PJ 94 181 0 true := by
  rintro as h h1 h2 v v2 hl hb ⟨G, W, C, M⟩ hs1 hs2
  have hl := as0 hl
  subst hl
  obtain ⟨a1, a2, a3⟩ := cj_image hs1 C W
  obtain ⟨b1, b2, b3⟩ := mj_image hs2 (M.xC a3)
  exact ⟨⟨imgG G, GW_img W, a2.xM (GW_img W) b3, b2⟩, fun _ => a1.trans b1.symm⟩
theorem pj_judge : PJ 129 248 0 true := by
  rintro as h h1 h2 v v2 hl hb ⟨G, W, C, M⟩ hs1 hs2
  have hl := as0 hl
  subst hl
  obtain ⟨a1, a2, a3⟩ := cj_judge hs1 C W
  obtain ⟨b1, b2, b3⟩ := mj_judge hs2 (M.xC a3) W
  exact ⟨⟨zerG G, GW_zer W, a2.xM (GW_zer W) b3, b2⟩, fun _ => a1.eq b1⟩
theorem pj_town : PJ 16 152 0 true := by
  rintro as h h1 h2 v v2 hl hb ⟨G, W, C, M⟩ hs1 hs2
  have hl := as0 hl
  subst hl
  obtain ⟨G1, a1, a2, a3⟩ := cj_town hs1 C W
  obtain ⟨G2, b1, b2, b3⟩ := mj_town hs2 (M.xC a3) W
  obtain ⟨e1, e2⟩ := twR_un a1 b1
  subst e2
  have W1 := GW_tw W a1
  exact ⟨⟨G1, W1, a2.xM W1 b3, b2⟩, fun _ => e1⟩
end PP
