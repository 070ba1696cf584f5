/-! each call counts its refusal, the same on both sides (made by a program) -/
def bp (n k z : Int) : Int := if k = n then wr (z + 1) else z
def rc (c : Int) (h h' : fH) (n : Int) : Prop := ∀ k, 1 ≤ k → k ≤ 6 → h' c k = bp n k (h c k)
def xt3 (h h' : fH) : Prop := ∀ c k, c = 3 → h' c k = h c k
theorem fl_4 : f_len 4 = 6 := by decide +kernel
section RC0
variable {c n N v z z2 z3 z4 : Int} {h h' h0 h1 h2 hM hK : fH} {j : Nat}
theorem rc_0 (p : ∀ k, h' c k = h c k) (hn : N = 0) : rc c h h' N := fun k k1 k2 => by
  unfold bp
  rw [p k, if_neg (by omega)]
theorem rc_k (e2 : z2 = wr (-(-n))) (e3 : z3 = hM c z2) (e4 : z4 = wr (z3 + 1)) (ek : hK = fu hM c z2 z4) (p : ∀ k, hM c k = h0 c k) (hn : N = n ∧ 0 ≤ n ∧ n ≤ 6) : rc c h0 hK N := fun k k1 k2 => by
  have f2 := wr_d e2 (by omega) (by omega)
  unfold bp
  rw [ek]
  by_cases d : k = z2
  · rw [fu_e rfl d, if_pos (by omega), e4, e3, p, d]
  · rw [fu_k d, if_neg (by omega), p k]
theorem kp_st {c' i : Int} (e : h2 = fu h1 c' i z) (hc : c ≠ c') (p : ∀ k, h1 c k = h0 c k) : ∀ k, h2 c k = h0 c k := fun k => by
  rw [e, fu_c hc]
  exact p k
theorem kp_cp {a b i : Int} (e : h2 = fcp h1 a b i) (hc : c ≠ b) (p : ∀ k, h1 c k = h0 c k) : ∀ k, h2 c k = h0 c k := fun k => by
  rw [e]
  unfold fcp
  rw [if_neg (fun q => hc q.1)]
  exact p k
theorem kp_cl (e : ∀ k, h2 c k = h1 c k) (p : ∀ k, h1 c k = h0 c k) : ∀ k, h2 c k = h0 c k := fun k => (e k).trans (p k)
theorem S0_k {rq : List (Option Int)} {as : List Int} (H : ∀ h, XC (S0 h) (j, rq, 0, 0)) (hS : fS j as h v h') (hr : xR rq as) : ∀ k, h' c k = h c k := fun k => by rw [S0_eq H hr hS]
theorem xt3.rf (h : fH) : xt3 h h := fun _ _ _ => rfl
theorem xt3.tr (a : xt3 h h0) (b : xt3 h0 h1) : xt3 h h1 := fun c k q => (b c k q).trans (a c k q)
theorem xt3.up {k : Int} (a : xt3 h h0) (hc : c ≠ 3) : xt3 h (fu h0 c k z) := fun c' k' q => by
  rw [fu_c (by omega)]
  exact a c' k' q
theorem xt3.fr (hf : frC c h h') (hc : 3 < c) : xt3 h h' := fun c' k' q => hf c' k' (by omega)
end RC0
section C3
variable {h h' h0 h1 k1 : fH} {v z c k x y a1 a2 a3 : Int} {g : gV} {G G' : gS} {I L R : Int × gV} {P : Int × (Int → gV)}
theorem c3_image (hs : fS 94 [1] h v h') (J : CJ G h) (W : GW G) : v = G.1 1 ∧ CJ (imgG G) h' ∧ xt3 h h' := by
  refine vc_image hs (fun v h' => v = G.1 1 ∧ CJ (imgG G) h' ∧ xt3 h h') ?_
  intro v1 k1 hs1 k2 ek2 z2 e2
  obtain ⟨a1, a2⟩ := sc_copyFrom hs1 J.1 W.1.1.bg (J.2.2.2.2.2 57 (by unfold tw; omega)) (by unfold tw; omega) (by unfold tw; omega) (by omega)
  have hO : ∀ c k, c < 57 ∨ 79 < c → (c = 1 → k ≠ 3) → k2 c k = h c k := fun c k j1 j2 => by
    rw [ek2, ← a2 c k (by omega)]
    unfold fu
    rw [if_neg (by omega)]
  refine ⟨?_, J.sIm W ⟨?_, fun _ => ?_⟩ ?_ (fun c k q => hO c k (by omega) (by omega)), fun c k q => hO c k (by omega) (by omega)⟩
  · rw [e2, hO _ _ (by omega) (by omega)]
    exact J.1.day
  · rw [ek2, fu_e rfl rfl]
  · rw [ek2]
    exact RC_sk a1 W.1.1.bg (by omega)
  · rw [ek2]
    exact (J.2.2.2.2.2.but (by unfold tw; omega) a2 a1.rw').fu (fun b hb => tw_no hb (by omega))
end C3
section C3
variable {h h' h0 h1 k1 k2 k3 : fH} {v z c k x y a1 a2 a3 a4 a5 n p b : Int} {g g' : gV} {G G' : gS} {P : Int × (Int → gV)}
theorem c3_keep (hs : fS 87 [80, 11] h v h') (J : CJ G h) (W : GW G) : CJ (sP G (keepP G.2.2.1 G.1)) h' ∧ xt3 h h' := by
  obtain ⟨j1, j2, j3⟩ := J.2.2.1
  obtain ⟨w1, w2, w3⟩ := W.2.2.1
  refine vp_keep hs (fun v h' => CJ (sP G (keepP G.2.2.1 G.1)) h' ∧ xt3 h h') ?_
  intro z2 e2 z3 e3 z4 e4 k1 ek1 z5 e5 z6 e6 v2 k2 hs2 z8 e8 z9 e9 z10 e10 k3 ek3
  rw [wr_id (by omega) (by omega)] at e3
  rw [xrem_nn (by omega) (by omega) (by omega)] at e4
  rw [ek1, fu_e rfl rfl] at e5
  have b4 : 0 ≤ z4 ∧ z4 < 8 := by omega
  have b6 : 82 ≤ z6 ∧ z6 ≤ 243 := by omega
  have t6 : tw z6 := by
    unfold tw
    omega
  have R1 : RC k1 11 G.1 := by
    rw [ek1]
    exact RC_sk J.1 W.1.1.bg (by omega)
  have CW1 : CW k1 := by
    rw [ek1]
    exact J.2.2.2.2.2.fu (fun b hb => tw_no hb (by omega))
  obtain ⟨c1, c2⟩ := sc_copyFrom hs2 R1 W.1.1.bg (CW1 z6 t6) t6 (by unfold tw; omega) (by omega)
  have d8 : z8 = G.2.2.1.1 := by
    rw [e8, c2 80 2 (by omega), ek1, fu_k (by omega), j1]
  rw [wr_id (by omega) (by omega)] at e9
  unfold xmin at e10
  have l1 : k3 80 1 = z4 := by
    rw [ek3, fu_k (by omega), c2 80 1 (by omega), ek1, fu_e rfl rfl]
  have l2 : k3 80 2 = z10 := by
    rw [ek3, fu_e rfl rfl]
  have hO : ∀ c k, c < 80 ∨ 265 < c → k3 c k = h c k := fun c k q => by
    rw [ek3, fu_c (by omega), c2 c k (by omega), ek1, fu_c (by omega)]
  refine ⟨J.sTP (g := G.1) W ?_ ?_ ?_ (fun c k q => hO c k (by omega)), fun c k q => hO c k (by omega)⟩
  · exact RC_cg J.1 W.1.1.bg (fun c k n1 n2 => hO c k (by omega))
  · obtain ⟨T1, Pp, e, hc⟩ := keep_f G.2.2.1 G.1
    rw [e]
    refine ⟨?_, ?_, fun t t1 t2 => ?_⟩
    · show k3 80 2 = T1 + 1
      rw [l2, e10]
      split <;> omega
    · rw [l1]
      exact b4
    · have t2 : t < T1 + 1 := t2
      rw [l1]
      show RC k3 (pB z4 (T1 + 1) t) (if t = T1 then G.1 else Pp t)
      by_cases q : t = T1
      · rw [if_pos q]
        have eb : pB z4 (T1 + 1) t = z6 := by
          unfold pB
          omega
        rw [eb, ek3]
        exact RC_sk c1 W.1.1.bg (by omega)
      · rw [if_neg q]
        have bb := pB_b z4 (T1 + 1) t
        have bd : pB z4 (T1 + 1) t + 22 < z6 ∨ z6 + 22 < pB z4 (T1 + 1) t := by
          unfold pB
          omega
        rcases hc with ⟨q1, q2, q3⟩ | ⟨q1, q2, q3⟩
        · rw [q3]
          have r := j3 (t + 1) (by omega) (by omega)
          have eb : pB (h 80 1) G.2.2.1.1 (t + 1) = pB z4 (T1 + 1) t := by
            unfold pB
            omega
          rw [eb] at r
          exact past_mv r (w3 (t + 1) (by omega) (by omega)).1.bg ek1 c2 ek3 bb.1 bd
        · rw [q3]
          have r := j3 t t1 (by omega)
          have eb : pB (h 80 1) G.2.2.1.1 t = pB z4 (T1 + 1) t := by
            unfold pB
            omega
          rw [eb] at r
          exact past_mv r (w3 t t1 (by omega)).1.bg ek1 c2 ek3 bb.1 bd
  · rw [ek3]
    exact (CW1.but t6 c2 c1.rw').fu (fun b hb => tw_no hb (by omega))
theorem c3_putBack (hs : fS 93 [80, 11] h v h') (J : CJ G h) (W : GW G) (hc : backC G) : CJ (backG G) h' ∧ xt3 h h' := by
  obtain ⟨j1, j2, j3⟩ := J.2.2.1
  obtain ⟨w1, w2, w3⟩ := W.2.2.1
  unfold backC at hc
  refine vp_putBack hs (fun v h' => CJ (backG G) h' ∧ xt3 h h') ?_
  intro z2 e2 z3 e3 v1 k1 hs1 z5 e5 z6 e6 z7 e7 z8 e8 k2 ek2 z9 e9 z10 e10 k3 ek3
  have eb : pB (h 80 1) G.2.2.1.1 (G.2.2.1.1 - 1) = z3 := by
    unfold pB
    omega
  have r3 := j3 (G.2.2.1.1 - 1) (by omega) (by omega)
  have B3 := (w3 (G.2.2.1.1 - 1) (by omega) (by omega)).1.bg
  rw [eb] at r3
  have t3 : tw z3 := by
    rw [← eb]
    exact pB_tw _ _ _
  have b3 : 82 ≤ z3 ∧ z3 ≤ 243 := by omega
  have t11 : tw 11 := by
    unfold tw
    omega
  obtain ⟨c1, c2⟩ := sc_copyFrom hs1 r3 B3 (J.2.2.2.2.2 11 t11) t11 t3 (by omega)
  rw [c2 80 1 (by omega)] at e5
  rw [wr_id (by omega) (by omega)] at e6
  rw [wr_id (by omega) (by omega)] at e7
  rw [xrem_nn (by omega) (by omega) (by omega)] at e8
  have d9 : z9 = G.2.2.1.1 := by
    rw [e9, ek2, fu_k (by omega), c2 80 2 (by omega), j1]
  rw [wr_id (by omega) (by omega)] at e10
  have hO : ∀ c k, (c < 11 ∨ 33 < c) → c ≠ 80 → k3 c k = h c k := fun c k q1 q2 => by
    rw [ek3, fu_c q2, ek2, fu_c q2, c2 c k (by omega)]
  refine ⟨J.sTP W ?_ ?_ ?_ (fun c k q => hO c k (by omega) (by omega)), fun c k q => hO c k (by omega) (by omega)⟩
  · rw [ek3, ek2]
    exact RC_sk (RC_sk c1 B3 (by omega)) B3 (by omega)
  · have l1 : k3 80 1 = z8 := by
      rw [ek3, fu_k (by omega), ek2, fu_e rfl rfl]
    refine ⟨?_, ?_, fun t t1 t2 => ?_⟩
    · rw [ek3, fu_e rfl rfl]
      show z10 = G.2.2.1.1 - 1
      omega
    · rw [l1]
      omega
    · have t2 : t < G.2.2.1.1 - 1 := t2
      rw [l1]
      show RC k3 (pB z8 (G.2.2.1.1 - 1) t) (G.2.2.1.2 t)
      have r := j3 t t1 (by omega)
      have eq : pB z8 (G.2.2.1.1 - 1) t = pB (h 80 1) G.2.2.1.1 t := by
        unfold pB
        omega
      rw [eq]
      have bb := pB_b (h 80 1) G.2.2.1.1 t
      exact RC_cg r (w3 t t1 (by omega)).1.bg (fun c k n1 n2 => hO c k (by omega) (by omega))
  · rw [ek3, ek2]
    exact ((J.2.2.2.2.2.but t11 c2 c1.rw').fu (fun b hb => tw_no hb (by omega))).fu (fun b hb => tw_no hb (by omega))
end C3
section C3
variable {h h' h0 h1 k1 : fH} {v v' z c k y a b x n p q q' i : Int} {g : gV} {G G' G'' : gS} {L : Int × gV} {K K' : Nat}
theorem c3_town (hs : fS 16 [1] h v h') (J : CJ G h) (W : GW G) : ∃ G', twR G v G' ∧ CJ G' h' ∧ xt3 h h' := by
  have hL : LB G.2.2.2.1 := W.2.2.2.1
  have hL' := hL.2.1
  have hB := W.1.1.1
  have t34 : tw 34 := by
    unfold tw
    omega
  have t11 : tw 11 := Or.inl rfl
  have moved : ∀ {q : fH} {g' : gV}, RC q 34 g' → frC 34 h q → CJ G q := fun r f => J.cg W (fun c k n => f c k (by omega)) r.rw'
  refine vc_town hs (fun x0 x2 x3 q => x0 = 1 ∧ ∃ K k : Nat, psK G.2.2.2.1 K ∧ k ≤ K ∧ x2 = (k : Int) ∧ x3 = plF G.2.2.2.1 k ∧ okX G.2.2.2.1 G.1 k ∧ RC q 34 (stG G.2.2.2.1 G.1 k) ∧ frC 34 h q) (fun v h' => ∃ G', twR G v G' ∧ CJ G' h' ∧ xt3 h h') ?_ ?_
  · intro v1 k1 hs1
    obtain ⟨a1, a2⟩ := sl_first hs1 J.2.2.2.1 hL
    rw [a1]
    refine ⟨fun q1 v2 k2 hs2 => ?_, fun q1 k2 ek2 z2 e2 => ?_⟩
    · obtain ⟨c1, c2⟩ := sc_copyFrom hs2 J.1 W.1.1.bg J.w34 t34 t11 (by omega)
      rcases a2 with ⟨a2, K, a3⟩ | ⟨a2, a3, a4⟩
      · exact ⟨rfl, K, 0, a3, Nat.zero_le _, rfl, rfl, fun j hj => by omega, c1, c2⟩
      · omega
    · rcases a2 with ⟨a2, K, a3⟩ | ⟨a2, a3, a4⟩
      · omega
      · have f2 := wr_d e2 (by omega) (by omega)
        refine ⟨zlG G, Or.inl ⟨v1, a4, f2, rfl⟩, ?_, ?_⟩
        · rw [ek2]
          exact J.zl W
        · rw [ek2]
          exact (xt3.rf h).up (by decide)
  · rintro x0 x2 x3 q ⟨rfl, K, k, i1, i2, i3, i4, i5, i6, i7⟩ z3 e3
    have J1 := moved i6 i7
    have hk := ok_b hL k (fun j hj => i1.2.1 j (by omega))
    have x1 : xt3 h q := xt3.fr i7 (by decide)
    have ws := st_ok W.1 k i5
    rw [J1.2.2.2.1.1] at e3
    have kK : G.2.2.2.1.1 ≤ x3 → k = K := fun q1 => by
      by_cases e : k = K
      · exact e
      · exfalso
        have g1 := i1.2.1 k (by omega)
        have g2 := gd_end g1.1
        have g3 := g1.1.1
        omega
    have good : ∀ {k1 k2 k3 : fH} {w : Int}, k = K → k1 = fu q 266 1 0 → fS 23 [11, 34] k1 w k2 → k3 = fu k2 80 2 0 → ∃ G', twR G x2 G' ∧ CJ G' k3 ∧ xt3 h k3 := fun {k1 k2 k3 w} e ek1 hs ek3 => by
      have J2 : CJ (zlG G) k1 := by
        rw [ek1]
        exact J1.zl W
      have R2 : RC k1 34 (stG G.2.2.2.1 G.1 k) := by
        rw [ek1]
        exact RC_sk i6 ws.1.bg (by omega)
      obtain ⟨c1, c2⟩ := sc_copyFrom hs R2 ws.1.bg (J2.2.2.2.2.2 11 t11) t11 t34 (by omega)
      have hO : ∀ c k, (c < 11 ∨ 33 < c) → (c = 80 → k ≠ 2) → k3 c k = k1 c k := fun c k n1 n2 => by
        rw [ek3]
        unfold fu
        rw [if_neg (by omega)]
        exact c2 c k (by omega)
      refine ⟨tnG G K, Or.inr (Or.inr ⟨K, i1, e ▸ i5, by rw [i3, e], rfl⟩), ?_, fun c k n1 => ?_⟩
      · rw [← e]
        refine J2.sTP (GW_zl W) ?_ (CP_zero ?_ ?_) ?_ (fun c k q => hO c k (by omega) (by omega))
        · rw [ek3]
          exact RC_sk c1 ws.1.bg (by omega)
        · rw [ek3, fu_e rfl rfl]
        · rw [hO _ _ (by omega) (by omega)]
          exact J2.2.2.1.2.1
        · rw [ek3]
          exact (J2.2.2.2.2.2.but t11 c2 c1.rw').fu (fun b hb => tw_no hb (by omega))
      · rw [hO c k (by omega) (by omega), ek1, fu_c (by omega)]
        exact x1 c k n1
    have bad : ∀ {k1 : fH}, k < K → ¬ tcF G.2.2.2.1 (plF G.2.2.2.1 k) (stG G.2.2.2.1 G.1 k) → k1 = fu q 266 1 0 → ∀ z, z = wr (-2000 - x3) → ∃ G', twR G z G' ∧ CJ G' k1 ∧ xt3 h k1 := fun e hn ek1 z ez => by
      have f := wr_d ez (by omega) (by omega)
      refine ⟨zlG G, Or.inr (Or.inl ⟨K, k, i1, e, i5, hn, by omega, rfl⟩), ?_, ?_⟩
      · rw [ek1]
        exact J1.zl W
      · rw [ek1]
        exact x1.up (by decide)
    refine ⟨fun q1 z4 e4 => ?_, fun q1 v1 k1 hs1 => ?_⟩
    · rw [J1.2.2.2.1.1] at e4
      refine ⟨fun q2 => by omega, fun _ k1 ek1 v2 k2 hs2 k3 ek3 => good (kK (by omega)) ek1 hs2 ek3⟩
    · have kl : k < K := by
        by_cases e : k = K
        · rw [e] at i4
          have := i1.2.2
          omega
        · omega
      have hg := (i1.2.1 k kl).1
      obtain ⟨f1, f2⟩ := sc_tell hs1 J1.2.2.2.1 hL i6 ws.1 ws.2 (by omega)
      rw [i4] at f2
      rcases f2 with ⟨f2, f3, f4⟩ | ⟨f2, f3, f4⟩
      · refine ⟨fun q2 => absurd q2 f2, fun _ z5 e5 v2 k2 hs2 v3 k3 hs3 z8 e8 z9 e9 => ?_⟩
        have J2 := moved f4 (i7.tr f1)
        obtain ⟨g1, g2⟩ := sl_at hs2 J2.2.2.2.1
        rw [g1] at hs3
        obtain ⟨g3, g4⟩ := sl_dig hs3
        rw [g2, i4] at g4
        have hd := dg_b (atF G.2.2.2.1 (plF G.2.2.2.1 k))
        have f5 := wr_d e5 (by omega) (by omega)
        have f8 := wr_d e8 (by omega) (by omega)
        have f9 := wr_d e9 (by omega) (by omega)
        rw [g3]
        refine ⟨rfl, K, k + 1, i1, kl, by omega, ?_, fun j hj => ?_, f4, i7.tr f1⟩
        · show z9 = plF G.2.2.2.1 k + 2 + dgF (atF G.2.2.2.1 (plF G.2.2.2.1 k))
          omega
        · by_cases e : j = k
          · rw [e]
            exact f3
          · exact i5 j (by omega)
      · rw [f4]
        refine ⟨fun _ z5 e5 => ?_, fun q2 => absurd f2 q2⟩
        rw [J1.2.2.2.1.1] at e5
        refine ⟨fun _ k2 ek2 z6 e6 => bad kl f3 ek2 z6 e6, fun q2 => by omega⟩
end C3
section KC
variable {h h' : fH} {v x y z w u : Int} {G : gS}
theorem kc_feed (hs : fS 12 [1, x] h v h') (C : CJ G h) (W : GW G) : rc 3 h h' (if x < 0 then 4 else if 255 < x ∨ 96 ≤ G.2.2.2.1.1 then 6 else 0) := by
  have hB := W.1.1.1
  have hD := W.1.2
  have hL := W.2.2.2.1.1
  have hP := W.2.2.1.1
  have hI := W.2.1.1
  have hL2 := W.2.2.2.1.2.1
  have hR := W.2.2.2.2.1
  have hR2 := W.2.2.2.2.2.1
  have jm : h 11 1 = G.1 0 := C.1.many
  have jd : h 11 15 = G.1 1 := C.1.day
  have jo : h 11 14 = G.1 2 := C.1.opn
  have jl : h 266 1 = G.2.2.2.1.1 := C.2.2.2.1.1
  have jr : h 1 8 = G.2.2.2.2.1 := C.2.2.2.2.1.1
  have jp : h 80 2 = G.2.2.1.1 := C.2.2.1.1
  have ji : h 1 3 = G.2.1.1 := C.2.1.1
  have jk := fl_4
  refine vc_feed hs (fun _ h' => rc 3 h h' (if x < 0 then 4 else if 255 < x ∨ 96 ≤ G.2.2.2.1.1 then 6 else 0)) ?_
  · exact ⟨fun q1 => ⟨fun q2 => fun z2 e2 => fun z3 e3 => fun z4 e4 => fun k1 ek1 => rc_k e2 e3 e4 ek1 (fun _ => rfl) (by omega), fun q2 => fun z2 e2 => ⟨fun q3 => fun z3 e3 => fun k1 ek1 => fun z4 e4 => fun z5 e5 => (have f5 := wr_f e5; fun k2 ek2 => fun z6 e6 => rc_0 (kp_st ek2 (by decide) (kp_st ek1 (by decide) (fun _ => rfl))) (by omega)), fun q3 => fun z3 e3 => fun z4 e4 => fun z5 e5 => fun k1 ek1 => rc_k e3 e4 e5 ek1 (fun _ => rfl) (by omega)⟩⟩, fun q1 => fun z2 e2 => fun z3 e3 => fun z4 e4 => fun k1 ek1 => rc_k e2 e3 e4 ek1 (fun _ => rfl) (by omega)⟩
theorem kc_personOf (hs : fS 74 [1, x, y] h v h') (C : CJ G h) (W : GW G) : rc 3 h h' (if x < 0 ∨ G.1 0 ≤ x then 1 else if y < 0 ∨ 7 < y then 2 else 0) := by
  have hB := W.1.1.1
  have hD := W.1.2
  have hL := W.2.2.2.1.1
  have hP := W.2.2.1.1
  have hI := W.2.1.1
  have hL2 := W.2.2.2.1.2.1
  have hR := W.2.2.2.2.1
  have hR2 := W.2.2.2.2.2.1
  have jm : h 11 1 = G.1 0 := C.1.many
  have jd : h 11 15 = G.1 1 := C.1.day
  have jo : h 11 14 = G.1 2 := C.1.opn
  have jl : h 266 1 = G.2.2.2.1.1 := C.2.2.2.1.1
  have jr : h 1 8 = G.2.2.2.2.1 := C.2.2.2.2.1.1
  have jp : h 80 2 = G.2.2.1.1 := C.2.2.1.1
  have ji : h 1 3 = G.2.1.1 := C.2.1.1
  have jk := fl_4
  refine vc_personOf hs (fun _ h' => rc 3 h h' (if x < 0 ∨ G.1 0 ≤ x then 1 else if y < 0 ∨ 7 < y then 2 else 0)) ?_
  · exact ⟨fun q1 => fun z3 e3 => fun z4 e4 => fun z5 e5 => fun k1 ek1 => rc_k e3 e4 e5 ek1 (fun _ => rfl) (by omega), fun q1 => fun z3 e3 => ⟨fun q2 => fun z4 e4 => fun z5 e5 => fun z6 e6 => fun k1 ek1 => rc_k e4 e5 e6 ek1 (fun _ => rfl) (by omega), fun q2 => ⟨fun q3 => fun z4 e4 => rc_0 (fun _ => rfl) (by omega), fun q3 => ⟨fun q4 => fun z4 e4 => rc_0 (fun _ => rfl) (by omega), fun q4 => ⟨fun q5 => fun z4 e4 => rc_0 (fun _ => rfl) (by omega), fun q5 => ⟨fun q6 => fun z4 e4 => rc_0 (fun _ => rfl) (by omega), fun q6 => ⟨fun q7 => fun z4 e4 => rc_0 (fun _ => rfl) (by omega), fun q7 => ⟨fun q8 => fun z4 e4 => rc_0 (fun _ => rfl) (by omega), fun q8 => ⟨fun q9 => fun z4 e4 => rc_0 (fun _ => rfl) (by omega), fun q9 => ⟨fun q10 => fun z4 e4 => rc_0 (fun _ => rfl) (by omega), fun q10 => fun z4 e4 => fun z5 e5 => fun z6 e6 => fun k1 ek1 => rc_k e4 e5 e6 ek1 (fun _ => rfl) (by omega)⟩⟩⟩⟩⟩⟩⟩⟩⟩⟩
theorem kc_belief (hs : fS 75 [1, x, y] h v h') (C : CJ G h) (W : GW G) : rc 3 h h' (if x < 0 ∨ G.1 0 ≤ x ∨ y < 0 ∨ 4 < y then 1 else 0) := by
  have hB := W.1.1.1
  have hD := W.1.2
  have hL := W.2.2.2.1.1
  have hP := W.2.2.1.1
  have hI := W.2.1.1
  have hL2 := W.2.2.2.1.2.1
  have hR := W.2.2.2.2.1
  have hR2 := W.2.2.2.2.2.1
  have jm : h 11 1 = G.1 0 := C.1.many
  have jd : h 11 15 = G.1 1 := C.1.day
  have jo : h 11 14 = G.1 2 := C.1.opn
  have jl : h 266 1 = G.2.2.2.1.1 := C.2.2.2.1.1
  have jr : h 1 8 = G.2.2.2.2.1 := C.2.2.2.2.1.1
  have jp : h 80 2 = G.2.2.1.1 := C.2.2.1.1
  have ji : h 1 3 = G.2.1.1 := C.2.1.1
  have jk := fl_4
  refine vc_belief hs (fun _ h' => rc 3 h h' (if x < 0 ∨ G.1 0 ≤ x ∨ y < 0 ∨ 4 < y then 1 else 0)) ?_
  · exact ⟨fun q1 => fun z3 e3 => fun z4 e4 => fun z5 e5 => fun k1 ek1 => rc_k e3 e4 e5 ek1 (fun _ => rfl) (by omega), fun q1 => fun z3 e3 => ⟨fun q2 => fun z4 e4 => fun z5 e5 => fun z6 e6 => fun k1 ek1 => rc_k e4 e5 e6 ek1 (fun _ => rfl) (by omega), fun q2 => ⟨fun q3 => fun z4 e4 => fun z5 e5 => fun z6 e6 => fun k1 ek1 => rc_k e4 e5 e6 ek1 (fun _ => rfl) (by omega), fun q3 => ⟨fun q4 => fun z4 e4 => fun z5 e5 => fun z6 e6 => fun k1 ek1 => rc_k e4 e5 e6 ek1 (fun _ => rfl) (by omega), fun q4 => fun z4 e4 => fun z5 e5 => rc_0 (fun _ => rfl) (by omega)⟩⟩⟩⟩
theorem kc_eventOf (hs : fS 76 [1, x, y] h v h') (C : CJ G h) (W : GW G) : rc 3 h h' (if x < 0 ∨ 4 < x then 1 else if y < 0 ∨ 2 < y then 2 else 0) := by
  have hB := W.1.1.1
  have hD := W.1.2
  have hL := W.2.2.2.1.1
  have hP := W.2.2.1.1
  have hI := W.2.1.1
  have hL2 := W.2.2.2.1.2.1
  have hR := W.2.2.2.2.1
  have hR2 := W.2.2.2.2.2.1
  have jm : h 11 1 = G.1 0 := C.1.many
  have jd : h 11 15 = G.1 1 := C.1.day
  have jo : h 11 14 = G.1 2 := C.1.opn
  have jl : h 266 1 = G.2.2.2.1.1 := C.2.2.2.1.1
  have jr : h 1 8 = G.2.2.2.2.1 := C.2.2.2.2.1.1
  have jp : h 80 2 = G.2.2.1.1 := C.2.2.1.1
  have ji : h 1 3 = G.2.1.1 := C.2.1.1
  have jk := fl_4
  refine vc_eventOf hs (fun _ h' => rc 3 h h' (if x < 0 ∨ 4 < x then 1 else if y < 0 ∨ 2 < y then 2 else 0)) ?_
  · exact ⟨fun q1 => fun z3 e3 => fun z4 e4 => fun z5 e5 => fun k1 ek1 => rc_k e3 e4 e5 ek1 (fun _ => rfl) (by omega), fun q1 => ⟨fun q2 => fun z3 e3 => fun z4 e4 => fun z5 e5 => fun k1 ek1 => rc_k e3 e4 e5 ek1 (fun _ => rfl) (by omega), fun q2 => ⟨fun q3 => fun z3 e3 => rc_0 (fun _ => rfl) (by omega), fun q3 => ⟨fun q4 => fun z3 e3 => rc_0 (fun _ => rfl) (by omega), fun q4 => ⟨fun q5 => fun z3 e3 => fun z4 e4 => fun z5 e5 => (have f5 := wr_f e5; fun z6 e6 => fun z7 e7 => ⟨fun q6 => rc_0 (fun _ => rfl) (by omega), fun q6 => rc_0 (fun _ => rfl) (by omega)⟩), fun q5 => fun z3 e3 => fun z4 e4 => fun z5 e5 => fun k1 ek1 => rc_k e3 e4 e5 ek1 (fun _ => rfl) (by omega)⟩⟩⟩⟩⟩
theorem kc_wagerOf (hs : fS 77 [1, x, y] h v h') (C : CJ G h) (W : GW G) : rc 3 h h' (if x < 0 ∨ G.1 2 ≤ x then 1 else if y < 0 ∨ 4 < y then 2 else 0) := by
  have hB := W.1.1.1
  have hD := W.1.2
  have hL := W.2.2.2.1.1
  have hP := W.2.2.1.1
  have hI := W.2.1.1
  have hL2 := W.2.2.2.1.2.1
  have hR := W.2.2.2.2.1
  have hR2 := W.2.2.2.2.2.1
  have jm : h 11 1 = G.1 0 := C.1.many
  have jd : h 11 15 = G.1 1 := C.1.day
  have jo : h 11 14 = G.1 2 := C.1.opn
  have jl : h 266 1 = G.2.2.2.1.1 := C.2.2.2.1.1
  have jr : h 1 8 = G.2.2.2.2.1 := C.2.2.2.2.1.1
  have jp : h 80 2 = G.2.2.1.1 := C.2.2.1.1
  have ji : h 1 3 = G.2.1.1 := C.2.1.1
  have jk := fl_4
  refine vc_wagerOf hs (fun _ h' => rc 3 h h' (if x < 0 ∨ G.1 2 ≤ x then 1 else if y < 0 ∨ 4 < y then 2 else 0)) ?_
  · exact ⟨fun q1 => fun z3 e3 => fun z4 e4 => fun z5 e5 => fun k1 ek1 => rc_k e3 e4 e5 ek1 (fun _ => rfl) (by omega), fun q1 => fun z3 e3 => ⟨fun q2 => fun z4 e4 => ⟨fun q3 => fun z5 e5 => rc_0 (fun _ => rfl) (by omega), fun q3 => ⟨fun q4 => fun z5 e5 => rc_0 (fun _ => rfl) (by omega), fun q4 => ⟨fun q5 => fun z5 e5 => rc_0 (fun _ => rfl) (by omega), fun q5 => ⟨fun q6 => fun z5 e5 => rc_0 (fun _ => rfl) (by omega), fun q6 => ⟨fun q7 => fun z5 e5 => rc_0 (fun _ => rfl) (by omega), fun q7 => fun z5 e5 => fun z6 e6 => fun z7 e7 => fun k1 ek1 => rc_k e5 e6 e7 ek1 (fun _ => rfl) (by omega)⟩⟩⟩⟩⟩, fun q2 => fun z4 e4 => fun z5 e5 => fun z6 e6 => fun k1 ek1 => rc_k e4 e5 e6 ek1 (fun _ => rfl) (by omega)⟩⟩
theorem kc_person (hs : fS 84 [1, x, y] h v h') (C : CJ G h) (W : GW G) : rc 3 h h' (if x < 0 ∨ 5 < x then 2 else if y < 0 then 4 else if 9 < y ∨ 7 ≤ G.1 0 then 6 else 0) := by
  have hB := W.1.1.1
  have hD := W.1.2
  have hL := W.2.2.2.1.1
  have hP := W.2.2.1.1
  have hI := W.2.1.1
  have hL2 := W.2.2.2.1.2.1
  have hR := W.2.2.2.2.1
  have hR2 := W.2.2.2.2.2.1
  have jm : h 11 1 = G.1 0 := C.1.many
  have jd : h 11 15 = G.1 1 := C.1.day
  have jo : h 11 14 = G.1 2 := C.1.opn
  have jl : h 266 1 = G.2.2.2.1.1 := C.2.2.2.1.1
  have jr : h 1 8 = G.2.2.2.2.1 := C.2.2.2.2.1.1
  have jp : h 80 2 = G.2.2.1.1 := C.2.2.1.1
  have ji : h 1 3 = G.2.1.1 := C.2.1.1
  have jk := fl_4
  refine vc_person hs (fun _ h' => rc 3 h h' (if x < 0 ∨ 5 < x then 2 else if y < 0 then 4 else if 9 < y ∨ 7 ≤ G.1 0 then 6 else 0)) ?_
  · exact fun z3 e3 => ⟨fun q1 => fun z4 e4 => fun z5 e5 => fun z6 e6 => fun k1 ek1 => rc_k e4 e5 e6 ek1 (fun _ => rfl) (by omega), fun q1 => ⟨fun q2 => fun z4 e4 => fun z5 e5 => fun z6 e6 => fun k1 ek1 => rc_k e4 e5 e6 ek1 (fun _ => rfl) (by omega), fun q2 => ⟨fun q3 => ⟨fun q4 => fun z4 e4 => fun z5 e5 => fun z6 e6 => fun k1 ek1 => rc_k e4 e5 e6 ek1 (fun _ => rfl) (by omega), fun q4 => fun z4 e4 => ⟨fun q5 => fun v1 k1 hs1 => fun k2 ek2 => fun z6 e6 => fun z7 e7 => (have f7 := wr_f e7; rc_0 (kp_st ek2 (by decide) (kp_cl (fun k => (sc_come hs1 C.1 W.1.1 (Or.inl rfl) (by omega) (by omega) (by omega) (by omega) (by omega)).2 3 k (by omega)) (fun _ => rfl))) (by omega)), fun q5 => fun z5 e5 => fun z6 e6 => fun z7 e7 => fun k1 ek1 => rc_k e5 e6 e7 ek1 (fun _ => rfl) (by omega)⟩⟩, fun q3 => fun z4 e4 => fun z5 e5 => fun z6 e6 => fun k1 ek1 => rc_k e4 e5 e6 ek1 (fun _ => rfl) (by omega)⟩⟩⟩
theorem kc_wishes (hs : fS 85 [1, x, y] h v h') (C : CJ G h) (W : GW G) : rc 3 h h' (if x < 0 ∨ G.1 0 ≤ x ∨ y < 0 ∨ 6 < y then 1 else 0) := by
  have hB := W.1.1.1
  have hD := W.1.2
  have hL := W.2.2.2.1.1
  have hP := W.2.2.1.1
  have hI := W.2.1.1
  have hL2 := W.2.2.2.1.2.1
  have hR := W.2.2.2.2.1
  have hR2 := W.2.2.2.2.2.1
  have jm : h 11 1 = G.1 0 := C.1.many
  have jd : h 11 15 = G.1 1 := C.1.day
  have jo : h 11 14 = G.1 2 := C.1.opn
  have jl : h 266 1 = G.2.2.2.1.1 := C.2.2.2.1.1
  have jr : h 1 8 = G.2.2.2.2.1 := C.2.2.2.2.1.1
  have jp : h 80 2 = G.2.2.1.1 := C.2.2.1.1
  have ji : h 1 3 = G.2.1.1 := C.2.1.1
  have jk := fl_4
  refine vc_wishes hs (fun _ h' => rc 3 h h' (if x < 0 ∨ G.1 0 ≤ x ∨ y < 0 ∨ 6 < y then 1 else 0)) ?_
  · exact ⟨fun q1 => fun z3 e3 => fun z4 e4 => fun z5 e5 => fun k1 ek1 => rc_k e3 e4 e5 ek1 (fun _ => rfl) (by omega), fun q1 => fun z3 e3 => ⟨fun q2 => fun z4 e4 => fun z5 e5 => fun z6 e6 => fun k1 ek1 => rc_k e4 e5 e6 ek1 (fun _ => rfl) (by omega), fun q2 => ⟨fun q3 => fun z4 e4 => fun z5 e5 => fun z6 e6 => fun k1 ek1 => rc_k e4 e5 e6 ek1 (fun _ => rfl) (by omega), fun q3 => ⟨fun q4 => fun z4 e4 => fun z5 e5 => fun z6 e6 => fun k1 ek1 => rc_k e4 e5 e6 ek1 (fun _ => rfl) (by omega), fun q4 => fun z4 e4 => fun k1 ek1 => fun k2 ek2 => rc_0 (kp_st ek2 (by decide) (kp_st ek1 (by decide) (fun _ => rfl))) (by omega)⟩⟩⟩⟩
theorem kc_believes (hs : fS 86 [1, x, y, z] h v h') (C : CJ G h) (W : GW G) : rc 3 h h' (if x < 0 ∨ G.1 0 ≤ x ∨ y < 0 ∨ 4 < y then 1 else if z < 0 then 4 else if 9 < z then 6 else 0) := by
  have hB := W.1.1.1
  have hD := W.1.2
  have hL := W.2.2.2.1.1
  have hP := W.2.2.1.1
  have hI := W.2.1.1
  have hL2 := W.2.2.2.1.2.1
  have hR := W.2.2.2.2.1
  have hR2 := W.2.2.2.2.2.1
  have jm : h 11 1 = G.1 0 := C.1.many
  have jd : h 11 15 = G.1 1 := C.1.day
  have jo : h 11 14 = G.1 2 := C.1.opn
  have jl : h 266 1 = G.2.2.2.1.1 := C.2.2.2.1.1
  have jr : h 1 8 = G.2.2.2.2.1 := C.2.2.2.2.1.1
  have jp : h 80 2 = G.2.2.1.1 := C.2.2.1.1
  have ji : h 1 3 = G.2.1.1 := C.2.1.1
  have jk := fl_4
  refine vc_believes hs (fun _ h' => rc 3 h h' (if x < 0 ∨ G.1 0 ≤ x ∨ y < 0 ∨ 4 < y then 1 else if z < 0 then 4 else if 9 < z then 6 else 0)) ?_
  · exact ⟨fun q1 => fun z4 e4 => fun z5 e5 => fun z6 e6 => fun k1 ek1 => rc_k e4 e5 e6 ek1 (fun _ => rfl) (by omega), fun q1 => fun z4 e4 => ⟨fun q2 => fun z5 e5 => fun z6 e6 => fun z7 e7 => fun k1 ek1 => rc_k e5 e6 e7 ek1 (fun _ => rfl) (by omega), fun q2 => ⟨fun q3 => fun z5 e5 => fun z6 e6 => fun z7 e7 => fun k1 ek1 => rc_k e5 e6 e7 ek1 (fun _ => rfl) (by omega), fun q3 => ⟨fun q4 => fun z5 e5 => fun z6 e6 => fun z7 e7 => fun k1 ek1 => rc_k e5 e6 e7 ek1 (fun _ => rfl) (by omega), fun q4 => ⟨fun q5 => ⟨fun q6 => fun v1 k1 hs1 => fun z6 e6 => fun z7 e7 => fun z8 e8 => fun k2 ek2 => rc_0 (kp_st ek2 (by omega) (kp_cl (fun k => (c3_keep hs1 C W).2 3 k rfl) (fun _ => rfl))) (by omega), fun q6 => fun z5 e5 => fun z6 e6 => fun z7 e7 => fun k1 ek1 => rc_k e5 e6 e7 ek1 (fun _ => rfl) (by omega)⟩, fun q5 => fun z5 e5 => fun z6 e6 => fun z7 e7 => fun k1 ek1 => rc_k e5 e6 e7 ek1 (fun _ => rfl) (by omega)⟩⟩⟩⟩⟩
theorem kc_fixes (hs : fS 88 [1, x, y, z] h v h') (C : CJ G h) (W : GW G) : rc 3 h h' (if x < 0 ∨ 4 < x then 1 else if y < 1 ∨ z < 0 then 4 else if 9 < y ∨ 8 < z then 6 else 0) := by
  have hB := W.1.1.1
  have hD := W.1.2
  have hL := W.2.2.2.1.1
  have hP := W.2.2.1.1
  have hI := W.2.1.1
  have hL2 := W.2.2.2.1.2.1
  have hR := W.2.2.2.2.1
  have hR2 := W.2.2.2.2.2.1
  have jm : h 11 1 = G.1 0 := C.1.many
  have jd : h 11 15 = G.1 1 := C.1.day
  have jo : h 11 14 = G.1 2 := C.1.opn
  have jl : h 266 1 = G.2.2.2.1.1 := C.2.2.2.1.1
  have jr : h 1 8 = G.2.2.2.2.1 := C.2.2.2.2.1.1
  have jp : h 80 2 = G.2.2.1.1 := C.2.2.1.1
  have ji : h 1 3 = G.2.1.1 := C.2.1.1
  have jk := fl_4
  refine vc_fixes hs (fun _ h' => rc 3 h h' (if x < 0 ∨ 4 < x then 1 else if y < 1 ∨ z < 0 then 4 else if 9 < y ∨ 8 < z then 6 else 0)) ?_
  · exact ⟨fun q1 => fun z4 e4 => fun z5 e5 => fun z6 e6 => fun k1 ek1 => rc_k e4 e5 e6 ek1 (fun _ => rfl) (by omega), fun q1 => ⟨fun q2 => fun z4 e4 => fun z5 e5 => fun z6 e6 => fun k1 ek1 => rc_k e4 e5 e6 ek1 (fun _ => rfl) (by omega), fun q2 => ⟨fun q3 => fun z4 e4 => fun z5 e5 => fun z6 e6 => fun k1 ek1 => rc_k e4 e5 e6 ek1 (fun _ => rfl) (by omega), fun q3 => ⟨fun q4 => ⟨fun q5 => fun z4 e4 => fun z5 e5 => fun z6 e6 => fun k1 ek1 => rc_k e4 e5 e6 ek1 (fun _ => rfl) (by omega), fun q5 => ⟨fun q6 => fun v1 k1 hs1 => fun z5 e5 => fun z6 e6 => (have f6 := wr_f e6; fun z7 e7 => fun z8 e8 => (have f8 := wr_f e8; fun k2 ek2 => fun k3 ek3 => rc_0 (kp_st ek3 (by decide) (kp_st ek2 (by decide) (kp_cl (fun k => (c3_keep hs1 C W).2 3 k rfl) (fun _ => rfl)))) (by omega))), fun q6 => fun z4 e4 => fun z5 e5 => fun z6 e6 => fun k1 ek1 => rc_k e4 e5 e6 ek1 (fun _ => rfl) (by omega)⟩⟩, fun q4 => fun z4 e4 => fun z5 e5 => fun z6 e6 => fun k1 ek1 => rc_k e4 e5 e6 ek1 (fun _ => rfl) (by omega)⟩⟩⟩⟩
theorem kc_days (hs : fS 90 [1, x] h v h') (C : CJ G h) (W : GW G) : rc 3 h h' (if x < 1 then 4 else if 60 < x ∨ 999 < G.1 1 + x then 6 else 0) := by
  have hB := W.1.1.1
  have hD := W.1.2
  have hL := W.2.2.2.1.1
  have hP := W.2.2.1.1
  have hI := W.2.1.1
  have hL2 := W.2.2.2.1.2.1
  have hR := W.2.2.2.2.1
  have hR2 := W.2.2.2.2.2.1
  have jm : h 11 1 = G.1 0 := C.1.many
  have jd : h 11 15 = G.1 1 := C.1.day
  have jo : h 11 14 = G.1 2 := C.1.opn
  have jl : h 266 1 = G.2.2.2.1.1 := C.2.2.2.1.1
  have jr : h 1 8 = G.2.2.2.2.1 := C.2.2.2.2.1.1
  have jp : h 80 2 = G.2.2.1.1 := C.2.2.1.1
  have ji : h 1 3 = G.2.1.1 := C.2.1.1
  have jk := fl_4
  refine vc_days hs (fun _ h' => rc 3 h h' (if x < 1 then 4 else if 60 < x ∨ 999 < G.1 1 + x then 6 else 0)) ?_
  · exact ⟨fun q1 => ⟨fun q2 => fun z2 e2 => fun z3 e3 => fun z4 e4 => fun k1 ek1 => rc_k e2 e3 e4 ek1 (fun _ => rfl) (by omega), fun q2 => fun z2 e2 => fun z3 e3 => (have f3 := wr_f e3; ⟨fun q3 => fun v1 k1 hs1 => fun v2 k2 hs2 => fun v3 k3 hs3 => rc_0 (kp_cl (S0_k (fun _ => fz_vt_howManyWed) hs3 trivial) (kp_cl (fun k => (sc_goOn hs2 (show RC k1 11 G.1 from (cj_keep hs1 C W).1.1) W.1.1 (by omega) (by omega)).2 3 k (by omega)) (kp_cl (fun k => (c3_keep hs1 C W).2 3 k rfl) (fun _ => rfl)))) (by omega), fun q3 => fun z4 e4 => fun z5 e5 => fun z6 e6 => fun k1 ek1 => rc_k e4 e5 e6 ek1 (fun _ => rfl) (by omega)⟩)⟩, fun q1 => fun z2 e2 => fun z3 e3 => fun z4 e4 => fun k1 ek1 => rc_k e2 e3 e4 ek1 (fun _ => rfl) (by omega)⟩
theorem kc_back (hs : fS 92 [1] h v h') (C : CJ G h) (W : GW G) : rc 3 h h' (if G.2.2.1.1 = 0 then 3 else 0) := by
  have hB := W.1.1.1
  have hD := W.1.2
  have hL := W.2.2.2.1.1
  have hP := W.2.2.1.1
  have hI := W.2.1.1
  have hL2 := W.2.2.2.1.2.1
  have hR := W.2.2.2.2.1
  have hR2 := W.2.2.2.2.2.1
  have jm : h 11 1 = G.1 0 := C.1.many
  have jd : h 11 15 = G.1 1 := C.1.day
  have jo : h 11 14 = G.1 2 := C.1.opn
  have jl : h 266 1 = G.2.2.2.1.1 := C.2.2.2.1.1
  have jr : h 1 8 = G.2.2.2.2.1 := C.2.2.2.2.1.1
  have jp : h 80 2 = G.2.2.1.1 := C.2.2.1.1
  have ji : h 1 3 = G.2.1.1 := C.2.1.1
  have jk := fl_4
  refine vc_back hs (fun _ h' => rc 3 h h' (if G.2.2.1.1 = 0 then 3 else 0)) ?_
  · exact fun z1 e1 => ⟨fun q1 => fun v1 k1 hs1 => fun z3 e3 => rc_0 (kp_cl (fun k => (c3_putBack hs1 C W (by unfold backC; omega)).2 3 k rfl) (fun _ => rfl)) (by omega), fun q1 => fun z2 e2 => fun z3 e3 => fun z4 e4 => fun k1 ek1 => rc_k e2 e3 e4 ek1 (fun _ => rfl) (by omega)⟩
theorem kc_restore (hs : fS 95 [1] h v h') (C : CJ G h) (W : GW G) : rc 3 h h' (if G.2.1.1 = 0 then 3 else 0) := by
  have hB := W.1.1.1
  have hD := W.1.2
  have hL := W.2.2.2.1.1
  have hP := W.2.2.1.1
  have hI := W.2.1.1
  have hL2 := W.2.2.2.1.2.1
  have hR := W.2.2.2.2.1
  have hR2 := W.2.2.2.2.2.1
  have jm : h 11 1 = G.1 0 := C.1.many
  have jd : h 11 15 = G.1 1 := C.1.day
  have jo : h 11 14 = G.1 2 := C.1.opn
  have jl : h 266 1 = G.2.2.2.1.1 := C.2.2.2.1.1
  have jr : h 1 8 = G.2.2.2.2.1 := C.2.2.2.2.1.1
  have jp : h 80 2 = G.2.2.1.1 := C.2.2.1.1
  have ji : h 1 3 = G.2.1.1 := C.2.1.1
  have jk := fl_4
  refine vc_restore hs (fun _ h' => rc 3 h h' (if G.2.1.1 = 0 then 3 else 0)) ?_
  · exact fun z1 e1 => ⟨fun q1 => fun v1 k1 hs1 => fun k2 ek2 => fun z3 e3 => rc_0 (kp_st ek2 (by decide) (kp_cl (fun k => (sc_copyFrom hs1 (C.2.1.2 (by omega)) (W.bi (by omega)) (C.2.2.2.2.2 11 (Or.inl rfl)) (Or.inl rfl) (by unfold tw; omega) (by omega)).2 3 k (by omega)) (fun _ => rfl))) (by omega), fun q1 => fun z2 e2 => fun z3 e3 => fun z4 e4 => fun k1 ek1 => rc_k e2 e3 e4 ek1 (fun _ => rfl) (by omega)⟩
theorem kc_personIn (hs : fS 96 [1, x, y, z] h v h') (C : CJ G h) (W : GW G) : rc 3 h h' (if x < 0 ∨ G.1 0 ≤ x then 1 else if y < 0 then 4 else if 60 < y then 6 else if z < 0 ∨ 1 < z then 2 else 0) := by
  have hB := W.1.1.1
  have hD := W.1.2
  have hL := W.2.2.2.1.1
  have hP := W.2.2.1.1
  have hI := W.2.1.1
  have hL2 := W.2.2.2.1.2.1
  have hR := W.2.2.2.2.1
  have hR2 := W.2.2.2.2.2.1
  have jm : h 11 1 = G.1 0 := C.1.many
  have jd : h 11 15 = G.1 1 := C.1.day
  have jo : h 11 14 = G.1 2 := C.1.opn
  have jl : h 266 1 = G.2.2.2.1.1 := C.2.2.2.1.1
  have jr : h 1 8 = G.2.2.2.2.1 := C.2.2.2.2.1.1
  have jp : h 80 2 = G.2.2.1.1 := C.2.2.1.1
  have ji : h 1 3 = G.2.1.1 := C.2.1.1
  have jk := fl_4
  refine vc_personIn hs (fun _ h' => rc 3 h h' (if x < 0 ∨ G.1 0 ≤ x then 1 else if y < 0 then 4 else if 60 < y then 6 else if z < 0 ∨ 1 < z then 2 else 0)) ?_
  · exact ⟨fun q1 => fun z4 e4 => fun z5 e5 => fun z6 e6 => fun k1 ek1 => rc_k e4 e5 e6 ek1 (fun _ => rfl) (by omega), fun q1 => fun z4 e4 => ⟨fun q2 => fun z5 e5 => fun z6 e6 => fun z7 e7 => fun k1 ek1 => rc_k e5 e6 e7 ek1 (fun _ => rfl) (by omega), fun q2 => ⟨fun q3 => ⟨fun q4 => ⟨fun q5 => fun z5 e5 => fun z6 e6 => fun z7 e7 => fun k1 ek1 => rc_k e5 e6 e7 ek1 (fun _ => rfl) (by omega), fun q5 => ⟨fun q6 => fun z5 e5 => fun z6 e6 => fun z7 e7 => fun k1 ek1 => rc_k e5 e6 e7 ek1 (fun _ => rfl) (by omega), fun q6 => ⟨fun q7 => fun v1 k1 hs1 => rc_0 (kp_cl (S0_k (fun _ => fz_vt_tearsOf) hs1 trivial) (fun _ => rfl)) (by omega), fun q7 => fun v1 k1 hs1 => rc_0 (kp_cl (S0_k (fun _ => fz_vt_wedTo) hs1 trivial) (fun _ => rfl)) (by omega)⟩⟩⟩, fun q4 => fun z5 e5 => fun z6 e6 => fun z7 e7 => fun k1 ek1 => rc_k e5 e6 e7 ek1 (fun _ => rfl) (by omega)⟩, fun q3 => fun z5 e5 => fun z6 e6 => fun z7 e7 => fun k1 ek1 => rc_k e5 e6 e7 ek1 (fun _ => rfl) (by omega)⟩⟩⟩
theorem kc_beliefIn (hs : fS 98 [1, x, y, z] h v h') (C : CJ G h) (W : GW G) : rc 3 h h' (if x < 0 ∨ G.1 0 ≤ x ∨ y < 0 ∨ 4 < y then 1 else if z < 0 then 4 else if 60 < z then 6 else 0) := by
  have hB := W.1.1.1
  have hD := W.1.2
  have hL := W.2.2.2.1.1
  have hP := W.2.2.1.1
  have hI := W.2.1.1
  have hL2 := W.2.2.2.1.2.1
  have hR := W.2.2.2.2.1
  have hR2 := W.2.2.2.2.2.1
  have jm : h 11 1 = G.1 0 := C.1.many
  have jd : h 11 15 = G.1 1 := C.1.day
  have jo : h 11 14 = G.1 2 := C.1.opn
  have jl : h 266 1 = G.2.2.2.1.1 := C.2.2.2.1.1
  have jr : h 1 8 = G.2.2.2.2.1 := C.2.2.2.2.1.1
  have jp : h 80 2 = G.2.2.1.1 := C.2.2.1.1
  have ji : h 1 3 = G.2.1.1 := C.2.1.1
  have jk := fl_4
  refine vc_beliefIn hs (fun _ h' => rc 3 h h' (if x < 0 ∨ G.1 0 ≤ x ∨ y < 0 ∨ 4 < y then 1 else if z < 0 then 4 else if 60 < z then 6 else 0)) ?_
  · exact ⟨fun q1 => fun z4 e4 => fun z5 e5 => fun z6 e6 => fun k1 ek1 => rc_k e4 e5 e6 ek1 (fun _ => rfl) (by omega), fun q1 => fun z4 e4 => ⟨fun q2 => fun z5 e5 => fun z6 e6 => fun z7 e7 => fun k1 ek1 => rc_k e5 e6 e7 ek1 (fun _ => rfl) (by omega), fun q2 => ⟨fun q3 => fun z5 e5 => fun z6 e6 => fun z7 e7 => fun k1 ek1 => rc_k e5 e6 e7 ek1 (fun _ => rfl) (by omega), fun q3 => ⟨fun q4 => fun z5 e5 => fun z6 e6 => fun z7 e7 => fun k1 ek1 => rc_k e5 e6 e7 ek1 (fun _ => rfl) (by omega), fun q4 => ⟨fun q5 => ⟨fun q6 => fun v1 k1 hs1 => rc_0 (kp_cl (S0_k (fun _ => fz_vt_beliefOf) hs1 trivial) (fun _ => rfl)) (by omega), fun q6 => fun z5 e5 => fun z6 e6 => fun z7 e7 => fun k1 ek1 => rc_k e5 e6 e7 ek1 (fun _ => rfl) (by omega)⟩, fun q5 => fun z5 e5 => fun z6 e6 => fun z7 e7 => fun k1 ek1 => rc_k e5 e6 e7 ek1 (fun _ => rfl) (by omega)⟩⟩⟩⟩⟩
theorem kc_wedIn (hs : fS 102 [1, x] h v h') (C : CJ G h) (W : GW G) : rc 3 h h' (if x < 0 then 4 else if 60 < x then 6 else 0) := by
  have hB := W.1.1.1
  have hD := W.1.2
  have hL := W.2.2.2.1.1
  have hP := W.2.2.1.1
  have hI := W.2.1.1
  have hL2 := W.2.2.2.1.2.1
  have hR := W.2.2.2.2.1
  have hR2 := W.2.2.2.2.2.1
  have jm : h 11 1 = G.1 0 := C.1.many
  have jd : h 11 15 = G.1 1 := C.1.day
  have jo : h 11 14 = G.1 2 := C.1.opn
  have jl : h 266 1 = G.2.2.2.1.1 := C.2.2.2.1.1
  have jr : h 1 8 = G.2.2.2.2.1 := C.2.2.2.2.1.1
  have jp : h 80 2 = G.2.2.1.1 := C.2.2.1.1
  have ji : h 1 3 = G.2.1.1 := C.2.1.1
  have jk := fl_4
  refine vc_wedIn hs (fun _ h' => rc 3 h h' (if x < 0 then 4 else if 60 < x then 6 else 0)) ?_
  · exact ⟨fun q1 => ⟨fun q2 => fun v1 k1 hs1 => rc_0 (kp_cl (S0_k (fun _ => fz_vt_howManyWed) hs1 trivial) (fun _ => rfl)) (by omega), fun q2 => fun z2 e2 => fun z3 e3 => fun z4 e4 => fun k1 ek1 => rc_k e2 e3 e4 ek1 (fun _ => rfl) (by omega)⟩, fun q1 => fun z2 e2 => fun z3 e3 => fun z4 e4 => fun k1 ek1 => rc_k e2 e3 e4 ek1 (fun _ => rfl) (by omega)⟩
theorem kc_wedWhen (hs : fS 103 [1, x] h v h') (C : CJ G h) (W : GW G) : rc 3 h h' (if x < -1 ∨ G.1 0 ≤ x then 1 else 0) := by
  have hB := W.1.1.1
  have hD := W.1.2
  have hL := W.2.2.2.1.1
  have hP := W.2.2.1.1
  have hI := W.2.1.1
  have hL2 := W.2.2.2.1.2.1
  have hR := W.2.2.2.2.1
  have hR2 := W.2.2.2.2.2.1
  have jm : h 11 1 = G.1 0 := C.1.many
  have jd : h 11 15 = G.1 1 := C.1.day
  have jo : h 11 14 = G.1 2 := C.1.opn
  have jl : h 266 1 = G.2.2.2.1.1 := C.2.2.2.1.1
  have jr : h 1 8 = G.2.2.2.2.1 := C.2.2.2.2.1.1
  have jp : h 80 2 = G.2.2.1.1 := C.2.2.1.1
  have ji : h 1 3 = G.2.1.1 := C.2.1.1
  have jk := fl_4
  refine vc_wedWhen hs (fun _ h' => rc 3 h h' (if x < -1 ∨ G.1 0 ≤ x then 1 else 0)) ?_
  · exact ⟨fun q1 => ⟨fun q2 => fun z2 e2 => fun z3 e3 => fun z4 e4 => fun k1 ek1 => rc_k e2 e3 e4 ek1 (fun _ => rfl) (by omega), fun q2 => fun z2 e2 => ⟨fun q3 => fun z3 e3 => fun z4 e4 => fun z5 e5 => fun k1 ek1 => rc_k e3 e4 e5 ek1 (fun _ => rfl) (by omega), fun q3 => fun v1 k1 hs1 => rc_0 (kp_cl (S0_k (fun _ => fz_vt_daysToWedding) hs1 trivial) (fun _ => rfl)) (by omega)⟩⟩, fun q1 => fun v1 k1 hs1 => rc_0 (kp_cl (S0_k (fun _ => fz_vc_firstToWed) hs1 trivial) (fun _ => rfl)) (by omega)⟩
theorem kc_happens (hs : fS 105 [1, x, y] h v h') (C : CJ G h) (W : GW G) : rc 3 h h' (if x < 0 ∨ 4 < x then 1 else if y < 0 then 4 else if 60 < y then 6 else 0) := by
  have hB := W.1.1.1
  have hD := W.1.2
  have hL := W.2.2.2.1.1
  have hP := W.2.2.1.1
  have hI := W.2.1.1
  have hL2 := W.2.2.2.1.2.1
  have hR := W.2.2.2.2.1
  have hR2 := W.2.2.2.2.2.1
  have jm : h 11 1 = G.1 0 := C.1.many
  have jd : h 11 15 = G.1 1 := C.1.day
  have jo : h 11 14 = G.1 2 := C.1.opn
  have jl : h 266 1 = G.2.2.2.1.1 := C.2.2.2.1.1
  have jr : h 1 8 = G.2.2.2.2.1 := C.2.2.2.2.1.1
  have jp : h 80 2 = G.2.2.1.1 := C.2.2.1.1
  have ji : h 1 3 = G.2.1.1 := C.2.1.1
  have jk := fl_4
  refine vc_happens hs (fun x0 x1 x2 x3 x4 q => 1 = x0 ∧ (∀ k, q 3 k = h 3 k) ∧ (if x < 0 ∨ 4 < x then 1 else if y < 0 then 4 else if 60 < y then 6 else 0 : Int) = 0) (fun _ h' => rc 3 h h' (if x < 0 ∨ 4 < x then 1 else if y < 0 then 4 else if 60 < y then 6 else 0)) ?_ ?_
  · exact ⟨fun q1 => fun z3 e3 => fun z4 e4 => fun z5 e5 => fun k1 ek1 => rc_k e3 e4 e5 ek1 (fun _ => rfl) (by omega), fun q1 => ⟨fun q2 => fun z3 e3 => fun z4 e4 => fun z5 e5 => fun k1 ek1 => rc_k e3 e4 e5 ek1 (fun _ => rfl) (by omega), fun q2 => ⟨fun q3 => ⟨fun q4 => ⟨rfl, (fun _ => rfl), (by omega)⟩, fun q4 => fun z3 e3 => fun z4 e4 => fun z5 e5 => fun k1 ek1 => rc_k e3 e4 e5 ek1 (fun _ => rfl) (by omega)⟩, fun q3 => fun z3 e3 => fun z4 e4 => fun z5 e5 => fun k1 ek1 => rc_k e3 e4 e5 ek1 (fun _ => rfl) (by omega)⟩⟩⟩
  · rintro x0 x1 x2 x3 x4 q ⟨rfl, i1, i2⟩
    exact ⟨fun q1 => rc_0 i1 i2, fun q1 => fun z5 e5 => fun z6 e6 => fun z7 e7 => fun z8 e8 => fun z9 e9 => fun z10 e10 => ⟨fun q2 => fun z11 e11 => ⟨rfl, i1, i2⟩, fun q2 => fun z11 e11 => fun z12 e12 => ⟨rfl, i1, i2⟩⟩⟩
theorem kc_bet (hs : fS 106 [1, x, y] h v h') (C : CJ G h) (W : GW G) : rc 3 h h' (if x < 0 ∨ G.1 0 ≤ x ∨ y < 0 ∨ G.1 0 ≤ y ∨ x = y then 1 else 0) := by
  have hB := W.1.1.1
  have hD := W.1.2
  have hL := W.2.2.2.1.1
  have hP := W.2.2.1.1
  have hI := W.2.1.1
  have hL2 := W.2.2.2.1.2.1
  have hR := W.2.2.2.2.1
  have hR2 := W.2.2.2.2.2.1
  have jm : h 11 1 = G.1 0 := C.1.many
  have jd : h 11 15 = G.1 1 := C.1.day
  have jo : h 11 14 = G.1 2 := C.1.opn
  have jl : h 266 1 = G.2.2.2.1.1 := C.2.2.2.1.1
  have jr : h 1 8 = G.2.2.2.2.1 := C.2.2.2.2.1.1
  have jp : h 80 2 = G.2.2.1.1 := C.2.2.1.1
  have ji : h 1 3 = G.2.1.1 := C.2.1.1
  have jk := fl_4
  refine vc_bet hs (fun _ h' => rc 3 h h' (if x < 0 ∨ G.1 0 ≤ x ∨ y < 0 ∨ G.1 0 ≤ y ∨ x = y then 1 else 0)) ?_
  · exact ⟨fun q1 => fun z3 e3 => fun z4 e4 => fun z5 e5 => fun k1 ek1 => rc_k e3 e4 e5 ek1 (fun _ => rfl) (by omega), fun q1 => fun z3 e3 => ⟨fun q2 => fun z4 e4 => fun z5 e5 => fun z6 e6 => fun k1 ek1 => rc_k e4 e5 e6 ek1 (fun _ => rfl) (by omega), fun q2 => ⟨fun q3 => fun z4 e4 => fun z5 e5 => fun z6 e6 => fun k1 ek1 => rc_k e4 e5 e6 ek1 (fun _ => rfl) (by omega), fun q3 => fun z4 e4 => ⟨fun q4 => fun z5 e5 => fun z6 e6 => fun z7 e7 => fun k1 ek1 => rc_k e5 e6 e7 ek1 (fun _ => rfl) (by omega), fun q4 => ⟨fun q5 => fun z5 e5 => fun z6 e6 => fun z7 e7 => fun k1 ek1 => rc_k e5 e6 e7 ek1 (fun _ => rfl) (by omega), fun q5 => fun v1 k1 hs1 => rc_0 (kp_cl (S0_k (fun _ => fz_vt_bestBet) hs1 trivial) (fun _ => rfl)) (by omega)⟩⟩⟩⟩⟩
theorem kc_takers (hs : fS 108 [1, x, y, z] h v h') (C : CJ G h) (W : GW G) : rc 3 h h' (if x < 0 ∨ G.1 0 ≤ x ∨ y < 0 ∨ 4 < y then 1 else if z < 0 ∨ 1 < z then 2 else 0) := by
  have hB := W.1.1.1
  have hD := W.1.2
  have hL := W.2.2.2.1.1
  have hP := W.2.2.1.1
  have hI := W.2.1.1
  have hL2 := W.2.2.2.1.2.1
  have hR := W.2.2.2.2.1
  have hR2 := W.2.2.2.2.2.1
  have jm : h 11 1 = G.1 0 := C.1.many
  have jd : h 11 15 = G.1 1 := C.1.day
  have jo : h 11 14 = G.1 2 := C.1.opn
  have jl : h 266 1 = G.2.2.2.1.1 := C.2.2.2.1.1
  have jr : h 1 8 = G.2.2.2.2.1 := C.2.2.2.2.1.1
  have jp : h 80 2 = G.2.2.1.1 := C.2.2.1.1
  have ji : h 1 3 = G.2.1.1 := C.2.1.1
  have jk := fl_4
  refine vc_takers hs (fun x0 x1 x2 x3 x4 x5 q => 1 = x0 ∧ (∀ k, q 3 k = h 3 k) ∧ (if x < 0 ∨ G.1 0 ≤ x ∨ y < 0 ∨ 4 < y then 1 else if z < 0 ∨ 1 < z then 2 else 0 : Int) = 0) (fun _ h' => rc 3 h h' (if x < 0 ∨ G.1 0 ≤ x ∨ y < 0 ∨ 4 < y then 1 else if z < 0 ∨ 1 < z then 2 else 0)) ?_ ?_
  · exact ⟨fun q1 => fun z4 e4 => fun z5 e5 => fun z6 e6 => fun k1 ek1 => rc_k e4 e5 e6 ek1 (fun _ => rfl) (by omega), fun q1 => fun z4 e4 => ⟨fun q2 => fun z5 e5 => fun z6 e6 => fun z7 e7 => fun k1 ek1 => rc_k e5 e6 e7 ek1 (fun _ => rfl) (by omega), fun q2 => ⟨fun q3 => fun z5 e5 => fun z6 e6 => fun z7 e7 => fun k1 ek1 => rc_k e5 e6 e7 ek1 (fun _ => rfl) (by omega), fun q3 => ⟨fun q4 => fun z5 e5 => fun z6 e6 => fun z7 e7 => fun k1 ek1 => rc_k e5 e6 e7 ek1 (fun _ => rfl) (by omega), fun q4 => ⟨fun q5 => fun z5 e5 => fun z6 e6 => fun z7 e7 => fun k1 ek1 => rc_k e5 e6 e7 ek1 (fun _ => rfl) (by omega), fun q5 => ⟨fun q6 => fun z5 e5 => fun z6 e6 => fun z7 e7 => fun k1 ek1 => rc_k e5 e6 e7 ek1 (fun _ => rfl) (by omega), fun q6 => ⟨rfl, (fun _ => rfl), (by omega)⟩⟩⟩⟩⟩⟩⟩
  · rintro x0 x1 x2 x3 x4 x5 q ⟨rfl, i1, i2⟩
    exact fun z6 e6 => ⟨fun q1 => rc_0 i1 i2, fun q1 => ⟨fun q2 => fun z7 e7 => ⟨rfl, i1, i2⟩, fun q2 => fun v1 k1 hs1 => ⟨fun q3 => fun z8 e8 => ⟨rfl, (kp_cl (S0_k (fun _ => fz_vt_wouldTake) hs1 trivial) i1), i2⟩, fun q3 => fun z8 e8 => fun z9 e9 => fun z10 e10 => ⟨rfl, (kp_cl (S0_k (fun _ => fz_vt_wouldTake) hs1 trivial) i1), i2⟩⟩⟩⟩
theorem kc_wooers (hs : fS 109 [1, x] h v h') (C : CJ G h) (W : GW G) : rc 3 h h' (if x < 0 ∨ G.1 0 ≤ x then 1 else 0) := by
  have hB := W.1.1.1
  have hD := W.1.2
  have hL := W.2.2.2.1.1
  have hP := W.2.2.1.1
  have hI := W.2.1.1
  have hL2 := W.2.2.2.1.2.1
  have hR := W.2.2.2.2.1
  have hR2 := W.2.2.2.2.2.1
  have jm : h 11 1 = G.1 0 := C.1.many
  have jd : h 11 15 = G.1 1 := C.1.day
  have jo : h 11 14 = G.1 2 := C.1.opn
  have jl : h 266 1 = G.2.2.2.1.1 := C.2.2.2.1.1
  have jr : h 1 8 = G.2.2.2.2.1 := C.2.2.2.2.1.1
  have jp : h 80 2 = G.2.2.1.1 := C.2.2.1.1
  have ji : h 1 3 = G.2.1.1 := C.2.1.1
  have jk := fl_4
  refine vc_wooers hs (fun _ h' => rc 3 h h' (if x < 0 ∨ G.1 0 ≤ x then 1 else 0)) ?_
  · exact ⟨fun q1 => fun z2 e2 => fun z3 e3 => fun z4 e4 => fun k1 ek1 => rc_k e2 e3 e4 ek1 (fun _ => rfl) (by omega), fun q1 => fun z2 e2 => ⟨fun q2 => fun z3 e3 => fun z4 e4 => fun z5 e5 => fun k1 ek1 => rc_k e3 e4 e5 ek1 (fun _ => rfl) (by omega), fun q2 => fun v1 k1 hs1 => rc_0 (kp_cl (S0_k (fun _ => fz_vt_wooerBits) hs1 trivial) (fun _ => rfl)) (by omega)⟩⟩
theorem kc_match (hs : fS 111 [1, x] h v h') (C : CJ G h) (W : GW G) : rc 3 h h' (if x < -1 ∨ G.1 0 ≤ x then 1 else 0) := by
  have hB := W.1.1.1
  have hD := W.1.2
  have hL := W.2.2.2.1.1
  have hP := W.2.2.1.1
  have hI := W.2.1.1
  have hL2 := W.2.2.2.1.2.1
  have hR := W.2.2.2.2.1
  have hR2 := W.2.2.2.2.2.1
  have jm : h 11 1 = G.1 0 := C.1.many
  have jd : h 11 15 = G.1 1 := C.1.day
  have jo : h 11 14 = G.1 2 := C.1.opn
  have jl : h 266 1 = G.2.2.2.1.1 := C.2.2.2.1.1
  have jr : h 1 8 = G.2.2.2.2.1 := C.2.2.2.2.1.1
  have jp : h 80 2 = G.2.2.1.1 := C.2.2.1.1
  have ji : h 1 3 = G.2.1.1 := C.2.1.1
  have jk := fl_4
  refine vc_match hs (fun _ h' => rc 3 h h' (if x < -1 ∨ G.1 0 ≤ x then 1 else 0)) ?_
  · exact ⟨fun q1 => fun v1 k1 hs1 => ⟨fun q2 => fun v2 k2 hs2 => rc_0 (kp_cl (S0_k (fun _ => fz_vw_partnerOf) hs2 trivial) (kp_cl (eK (fun _ => fe3_vw_reckon) hs1 ⟨rfl, trivial⟩) (fun _ => rfl))) (by omega), fun q2 => fun v2 k2 hs2 => rc_0 (kp_cl (S0_k (fun _ => fz_vw_most) hs2 trivial) (kp_cl (eK (fun _ => fe3_vw_reckon) hs1 ⟨rfl, trivial⟩) (fun _ => rfl))) (by omega)⟩, fun q1 => ⟨fun q3 => fun z2 e2 => fun z3 e3 => fun z4 e4 => fun k1 ek1 => rc_k e2 e3 e4 ek1 (fun _ => rfl) (by omega), fun q3 => fun z2 e2 => ⟨fun q4 => fun z3 e3 => fun z4 e4 => fun z5 e5 => fun k1 ek1 => rc_k e3 e4 e5 ek1 (fun _ => rfl) (by omega), fun q4 => fun v1 k1 hs1 => ⟨fun q5 => fun v2 k2 hs2 => rc_0 (kp_cl (S0_k (fun _ => fz_vw_partnerOf) hs2 trivial) (kp_cl (eK (fun _ => fe3_vw_reckon) hs1 ⟨rfl, trivial⟩) (fun _ => rfl))) (by omega), fun q5 => fun v2 k2 hs2 => rc_0 (kp_cl (S0_k (fun _ => fz_vw_most) hs2 trivial) (kp_cl (eK (fun _ => fe3_vw_reckon) hs1 ⟨rfl, trivial⟩) (fun _ => rfl))) (by omega)⟩⟩⟩⟩
theorem kc_fair (hs : fS 121 [1, x] h v h') (C : CJ G h) (W : GW G) : rc 3 h h' (if x < 0 ∨ 1 < x then 2 else 0) := by
  have hB := W.1.1.1
  have hD := W.1.2
  have hL := W.2.2.2.1.1
  have hP := W.2.2.1.1
  have hI := W.2.1.1
  have hL2 := W.2.2.2.1.2.1
  have hR := W.2.2.2.2.1
  have hR2 := W.2.2.2.2.2.1
  have jm : h 11 1 = G.1 0 := C.1.many
  have jd : h 11 15 = G.1 1 := C.1.day
  have jo : h 11 14 = G.1 2 := C.1.opn
  have jl : h 266 1 = G.2.2.2.1.1 := C.2.2.2.1.1
  have jr : h 1 8 = G.2.2.2.2.1 := C.2.2.2.2.1.1
  have jp : h 80 2 = G.2.2.1.1 := C.2.2.1.1
  have ji : h 1 3 = G.2.1.1 := C.2.1.1
  have jk := fl_4
  refine vc_fair hs (fun x0 x1 x2 x3 q => 1 = x0 ∧ (∀ k, q 3 k = h 3 k) ∧ (if x < 0 ∨ 1 < x then 2 else 0 : Int) = 0) (fun _ h' => rc 3 h h' (if x < 0 ∨ 1 < x then 2 else 0)) ?_ ?_
  · exact ⟨fun q1 => fun z2 e2 => fun z3 e3 => fun z4 e4 => fun k1 ek1 => rc_k e2 e3 e4 ek1 (fun _ => rfl) (by omega), fun q1 => ⟨fun q2 => fun z2 e2 => fun z3 e3 => fun z4 e4 => fun k1 ek1 => rc_k e2 e3 e4 ek1 (fun _ => rfl) (by omega), fun q2 => ⟨rfl, (fun _ => rfl), (by omega)⟩⟩⟩
  · rintro x0 x1 x2 x3 q ⟨rfl, i1, i2⟩
    exact fun z4 e4 => ⟨fun q1 => rc_0 i1 i2, fun q1 => ⟨fun q2 => fun v1 k1 hs1 => ⟨fun q3 => fun z6 e6 => ⟨rfl, (kp_cl (S0_k (fun _ => fz_vt_isLost) hs1 trivial) i1), i2⟩, fun q3 => fun z6 e6 => fun z7 e7 => fun z8 e8 => ⟨rfl, (kp_cl (S0_k (fun _ => fz_vt_isLost) hs1 trivial) i1), i2⟩⟩, fun q2 => fun z5 e5 => fun z6 e6 => fun z7 e7 => fun z8 e8 => fun v1 k1 hs1 => fun z10 e10 => fun z11 e11 => fun z12 e12 => fun v2 k2 hs2 => ⟨fun q4 => fun z14 e14 => ⟨rfl, (kp_cl (S0_k (fun _ => fz_vt_trust) hs2 trivial) (kp_cl (S0_k (fun _ => fz_vt_trust) hs1 trivial) i1)), i2⟩, fun q4 => fun z14 e14 => fun z15 e15 => fun z16 e16 => ⟨rfl, (kp_cl (S0_k (fun _ => fz_vt_trust) hs2 trivial) (kp_cl (S0_k (fun _ => fz_vt_trust) hs1 trivial) i1)), i2⟩⟩⟩⟩
theorem kc_sure (hs : fS 133 [1, x, y, z, w] h v h') (C : CJ G h) (W : GW G) : rc 3 h h' (if x < 0 ∨ G.1 0 ≤ x then 1 else if y < 0 ∨ z < 2 then 4 else if 7 < y ∨ 20 < z then 6 else if w < 0 ∨ 1 < w then 2 else 0) := by
  have hB := W.1.1.1
  have hD := W.1.2
  have hL := W.2.2.2.1.1
  have hP := W.2.2.1.1
  have hI := W.2.1.1
  have hL2 := W.2.2.2.1.2.1
  have hR := W.2.2.2.2.1
  have hR2 := W.2.2.2.2.2.1
  have jm : h 11 1 = G.1 0 := C.1.many
  have jd : h 11 15 = G.1 1 := C.1.day
  have jo : h 11 14 = G.1 2 := C.1.opn
  have jl : h 266 1 = G.2.2.2.1.1 := C.2.2.2.1.1
  have jr : h 1 8 = G.2.2.2.2.1 := C.2.2.2.2.1.1
  have jp : h 80 2 = G.2.2.1.1 := C.2.2.1.1
  have ji : h 1 3 = G.2.1.1 := C.2.1.1
  have jk := fl_4
  refine vc_sure hs (fun _ h' => rc 3 h h' (if x < 0 ∨ G.1 0 ≤ x then 1 else if y < 0 ∨ z < 2 then 4 else if 7 < y ∨ 20 < z then 6 else if w < 0 ∨ 1 < w then 2 else 0)) ?_
  · exact ⟨fun q1 => fun z5 e5 => fun z6 e6 => fun z7 e7 => fun k1 ek1 => fun z8 e8 => rc_k e5 e6 e7 ek1 (fun _ => rfl) (by omega), fun q1 => fun z5 e5 => ⟨fun q2 => fun z6 e6 => fun z7 e7 => fun z8 e8 => fun k1 ek1 => fun z9 e9 => rc_k e6 e7 e8 ek1 (fun _ => rfl) (by omega), fun q2 => ⟨fun q3 => fun z6 e6 => fun z7 e7 => fun z8 e8 => fun k1 ek1 => fun z9 e9 => rc_k e6 e7 e8 ek1 (fun _ => rfl) (by omega), fun q3 => ⟨fun q4 => ⟨fun q5 => fun z6 e6 => fun z7 e7 => fun z8 e8 => fun k1 ek1 => fun z9 e9 => rc_k e6 e7 e8 ek1 (fun _ => rfl) (by omega), fun q5 => ⟨fun q6 => ⟨fun q7 => fun z6 e6 => fun z7 e7 => fun z8 e8 => fun k1 ek1 => fun z9 e9 => rc_k e6 e7 e8 ek1 (fun _ => rfl) (by omega), fun q7 => ⟨fun q8 => fun z6 e6 => fun z7 e7 => fun z8 e8 => fun k1 ek1 => fun z9 e9 => rc_k e6 e7 e8 ek1 (fun _ => rfl) (by omega), fun q8 => fun z6 e6 => ⟨fun q9 => fun v1 k1 hs1 => ⟨fun q10 => ⟨fun q11 => rc_0 (kp_cl (S0_k (fun _ => fz_vt_wagerWith) hs1 trivial) (fun _ => rfl)) (by omega), fun q11 => rc_0 (kp_cl (S0_k (fun _ => fz_vt_wagerWith) hs1 trivial) (fun _ => rfl)) (by omega)⟩, fun q10 => fun z8 e8 => fun z9 e9 => ⟨fun q12 => ⟨fun q13 => rc_0 (kp_cl (S0_k (fun _ => fz_vt_wagerWith) hs1 trivial) (fun _ => rfl)) (by omega), fun q13 => rc_0 (kp_cl (S0_k (fun _ => fz_vt_wagerWith) hs1 trivial) (fun _ => rfl)) (by omega)⟩, fun q12 => fun z10 e10 => fun z11 e11 => ⟨fun q14 => ⟨fun q15 => rc_0 (kp_cl (S0_k (fun _ => fz_vt_wagerWith) hs1 trivial) (fun _ => rfl)) (by omega), fun q15 => rc_0 (kp_cl (S0_k (fun _ => fz_vt_wagerWith) hs1 trivial) (fun _ => rfl)) (by omega)⟩, fun q14 => fun z12 e12 => (have f12 := wr_f e12; ⟨fun q16 => rc_0 (kp_cl (S0_k (fun _ => fz_vt_wagerWith) hs1 trivial) (fun _ => rfl)) (by omega), fun q16 => rc_0 (kp_cl (S0_k (fun _ => fz_vt_wagerWith) hs1 trivial) (fun _ => rfl)) (by omega)⟩)⟩⟩⟩, fun q9 => fun v1 k1 hs1 => ⟨fun q17 => ⟨fun q18 => rc_0 (kp_cl (S0_k (fun _ => fz_vt_wagerWith) hs1 trivial) (fun _ => rfl)) (by omega), fun q18 => rc_0 (kp_cl (S0_k (fun _ => fz_vt_wagerWith) hs1 trivial) (fun _ => rfl)) (by omega)⟩, fun q17 => fun z8 e8 => fun z9 e9 => ⟨fun q19 => ⟨fun q20 => rc_0 (kp_cl (S0_k (fun _ => fz_vt_wagerWith) hs1 trivial) (fun _ => rfl)) (by omega), fun q20 => rc_0 (kp_cl (S0_k (fun _ => fz_vt_wagerWith) hs1 trivial) (fun _ => rfl)) (by omega)⟩, fun q19 => fun z10 e10 => fun z11 e11 => ⟨fun q21 => ⟨fun q22 => rc_0 (kp_cl (S0_k (fun _ => fz_vt_wagerWith) hs1 trivial) (fun _ => rfl)) (by omega), fun q22 => rc_0 (kp_cl (S0_k (fun _ => fz_vt_wagerWith) hs1 trivial) (fun _ => rfl)) (by omega)⟩, fun q21 => fun z12 e12 => (have f12 := wr_f e12; ⟨fun q23 => rc_0 (kp_cl (S0_k (fun _ => fz_vt_wagerWith) hs1 trivial) (fun _ => rfl)) (by omega), fun q23 => rc_0 (kp_cl (S0_k (fun _ => fz_vt_wagerWith) hs1 trivial) (fun _ => rfl)) (by omega)⟩)⟩⟩⟩⟩⟩⟩, fun q6 => fun z6 e6 => fun z7 e7 => fun z8 e8 => fun k1 ek1 => fun z9 e9 => rc_k e6 e7 e8 ek1 (fun _ => rfl) (by omega)⟩⟩, fun q4 => fun z6 e6 => fun z7 e7 => fun z8 e8 => fun k1 ek1 => fun z9 e9 => rc_k e6 e7 e8 ek1 (fun _ => rfl) (by omega)⟩⟩⟩⟩
theorem kc_shares (hs : fS 136 [1, x, y] h v h') (C : CJ G h) (W : GW G) : rc 3 h h' (if x < 1 then 4 else if 9 < x then 6 else if y < 0 ∨ 1 < y then 2 else 0) := by
  have hB := W.1.1.1
  have hD := W.1.2
  have hL := W.2.2.2.1.1
  have hP := W.2.2.1.1
  have hI := W.2.1.1
  have hL2 := W.2.2.2.1.2.1
  have hR := W.2.2.2.2.1
  have hR2 := W.2.2.2.2.2.1
  have jm : h 11 1 = G.1 0 := C.1.many
  have jd : h 11 15 = G.1 1 := C.1.day
  have jo : h 11 14 = G.1 2 := C.1.opn
  have jl : h 266 1 = G.2.2.2.1.1 := C.2.2.2.1.1
  have jr : h 1 8 = G.2.2.2.2.1 := C.2.2.2.2.1.1
  have jp : h 80 2 = G.2.2.1.1 := C.2.2.1.1
  have ji : h 1 3 = G.2.1.1 := C.2.1.1
  have jk := fl_4
  refine vc_shares hs (fun _ h' => rc 3 h h' (if x < 1 then 4 else if 9 < x then 6 else if y < 0 ∨ 1 < y then 2 else 0)) ?_
  · exact ⟨fun q1 => ⟨fun q2 => ⟨fun q3 => fun z3 e3 => fun z4 e4 => fun z5 e5 => fun k1 ek1 => rc_k e3 e4 e5 ek1 (fun _ => rfl) (by omega), fun q3 => ⟨fun q4 => fun z3 e3 => fun z4 e4 => fun z5 e5 => fun k1 ek1 => rc_k e3 e4 e5 ek1 (fun _ => rfl) (by omega), fun q4 => ⟨fun q5 => fun v1 k1 hs1 => fun z4 e4 => rc_0 (kp_cl (S0_k (fun _ => fz_vt_allTears) hs1 trivial) (fun _ => rfl)) (by omega), fun q5 => fun v1 k1 hs1 => fun z4 e4 => rc_0 (kp_cl (S0_k (fun _ => fz_vt_allTears) hs1 trivial) (fun _ => rfl)) (by omega)⟩⟩⟩, fun q2 => fun z3 e3 => fun z4 e4 => fun z5 e5 => fun k1 ek1 => rc_k e3 e4 e5 ek1 (fun _ => rfl) (by omega)⟩, fun q1 => fun z3 e3 => fun z4 e4 => fun z5 e5 => fun k1 ek1 => rc_k e3 e4 e5 ek1 (fun _ => rfl) (by omega)⟩
theorem kc_saddest (hs : fS 138 [1, x] h v h') (C : CJ G h) (W : GW G) : rc 3 h h' (if x < 0 ∨ 2 < x then 2 else 0) := by
  have hB := W.1.1.1
  have hD := W.1.2
  have hL := W.2.2.2.1.1
  have hP := W.2.2.1.1
  have hI := W.2.1.1
  have hL2 := W.2.2.2.1.2.1
  have hR := W.2.2.2.2.1
  have hR2 := W.2.2.2.2.2.1
  have jm : h 11 1 = G.1 0 := C.1.many
  have jd : h 11 15 = G.1 1 := C.1.day
  have jo : h 11 14 = G.1 2 := C.1.opn
  have jl : h 266 1 = G.2.2.2.1.1 := C.2.2.2.1.1
  have jr : h 1 8 = G.2.2.2.2.1 := C.2.2.2.2.1.1
  have jp : h 80 2 = G.2.2.1.1 := C.2.2.1.1
  have ji : h 1 3 = G.2.1.1 := C.2.1.1
  have jk := fl_4
  refine vc_saddest hs (fun _ h' => rc 3 h h' (if x < 0 ∨ 2 < x then 2 else 0)) ?_
  · exact ⟨fun q1 => fun v1 k1 hs1 => rc_0 (kp_cl (S0_k (fun _ => fz_vc_whoHasMostTears) hs1 trivial) (fun _ => rfl)) (by omega), fun q1 => ⟨fun q2 => fun v1 k1 hs1 => rc_0 (kp_cl (S0_k (fun _ => fz_vc_twosWhoWishEachOther) hs1 trivial) (fun _ => rfl)) (by omega), fun q2 => ⟨fun q3 => fun v1 k1 hs1 => rc_0 (kp_cl (S0_k (fun _ => fz_vt_freeBits) hs1 trivial) (fun _ => rfl)) (by omega), fun q3 => fun z2 e2 => fun z3 e3 => fun z4 e4 => fun k1 ek1 => rc_k e2 e3 e4 ek1 (fun _ => rfl) (by omega)⟩⟩⟩
theorem kc_wished (hs : fS 142 [1, x] h v h') (C : CJ G h) (W : GW G) : rc 3 h h' (if x < 0 ∨ G.1 0 ≤ x then 1 else 0) := by
  have hB := W.1.1.1
  have hD := W.1.2
  have hL := W.2.2.2.1.1
  have hP := W.2.2.1.1
  have hI := W.2.1.1
  have hL2 := W.2.2.2.1.2.1
  have hR := W.2.2.2.2.1
  have hR2 := W.2.2.2.2.2.1
  have jm : h 11 1 = G.1 0 := C.1.many
  have jd : h 11 15 = G.1 1 := C.1.day
  have jo : h 11 14 = G.1 2 := C.1.opn
  have jl : h 266 1 = G.2.2.2.1.1 := C.2.2.2.1.1
  have jr : h 1 8 = G.2.2.2.2.1 := C.2.2.2.2.1.1
  have jp : h 80 2 = G.2.2.1.1 := C.2.2.1.1
  have ji : h 1 3 = G.2.1.1 := C.2.1.1
  have jk := fl_4
  refine vc_wished hs (fun x0 x1 x2 x3 q => 1 = x0 ∧ (∀ k, q 3 k = h 3 k) ∧ (if x < 0 ∨ G.1 0 ≤ x then 1 else 0 : Int) = 0) (fun _ h' => rc 3 h h' (if x < 0 ∨ G.1 0 ≤ x then 1 else 0)) ?_ ?_
  · exact ⟨fun q1 => fun z2 e2 => fun z3 e3 => fun z4 e4 => fun k1 ek1 => rc_k e2 e3 e4 ek1 (fun _ => rfl) (by omega), fun q1 => fun z2 e2 => ⟨fun q2 => fun z3 e3 => fun z4 e4 => fun z5 e5 => fun k1 ek1 => rc_k e3 e4 e5 ek1 (fun _ => rfl) (by omega), fun q2 => ⟨rfl, (fun _ => rfl), (by omega)⟩⟩⟩
  · rintro x0 x1 x2 x3 q ⟨rfl, i1, i2⟩
    exact fun z4 e4 => ⟨fun q1 => rc_0 i1 i2, fun q1 => ⟨fun q2 => fun z5 e5 => ⟨rfl, i1, i2⟩, fun q2 => fun z5 e5 => ⟨fun q3 => fun z6 e6 => ⟨rfl, i1, i2⟩, fun q3 => fun z6 e6 => fun z7 e7 => ⟨rfl, i1, i2⟩⟩⟩⟩
theorem kc_mean (hs : fS 135 [1, x, y] h v h') (C : CJ G h) (W : GW G) : rc 3 h h' (if x < 0 ∨ 4 < x then 1 else if y < 0 ∨ 1 < y then 2 else 0) := by
  have hB := W.1.1.1
  have hD := W.1.2
  have hL := W.2.2.2.1.1
  have hP := W.2.2.1.1
  have hI := W.2.1.1
  have hL2 := W.2.2.2.1.2.1
  have hR := W.2.2.2.2.1
  have hR2 := W.2.2.2.2.2.1
  have jm : h 11 1 = G.1 0 := C.1.many
  have jd : h 11 15 = G.1 1 := C.1.day
  have jo : h 11 14 = G.1 2 := C.1.opn
  have jl : h 266 1 = G.2.2.2.1.1 := C.2.2.2.1.1
  have jr : h 1 8 = G.2.2.2.2.1 := C.2.2.2.2.1.1
  have jp : h 80 2 = G.2.2.1.1 := C.2.2.1.1
  have ji : h 1 3 = G.2.1.1 := C.2.1.1
  have jk := fl_4
  refine vc_mean hs (fun x0 x1 x2 x3 x4 q => 1 = x0 ∧ (∀ k, q 3 k = h 3 k) ∧ (if x < 0 ∨ 4 < x then 1 else if y < 0 ∨ 1 < y then 2 else 0 : Int) = 0) (fun x0 x2 x3 x4 x5 q => 1 = x0 ∧ (∀ k, q 3 k = h 3 k) ∧ (if x < 0 ∨ 4 < x then 1 else if y < 0 ∨ 1 < y then 2 else 0 : Int) = 0) (fun _ h' => rc 3 h h' (if x < 0 ∨ 4 < x then 1 else if y < 0 ∨ 1 < y then 2 else 0)) ?_ ?_ ?_
  · exact ⟨fun q1 => fun z3 e3 => fun z4 e4 => fun z5 e5 => fun k1 ek1 => fun z6 e6 => rc_k e3 e4 e5 ek1 (fun _ => rfl) (by omega), fun q1 => ⟨fun q2 => fun z3 e3 => fun z4 e4 => fun z5 e5 => fun k1 ek1 => fun z6 e6 => rc_k e3 e4 e5 ek1 (fun _ => rfl) (by omega), fun q2 => ⟨fun q3 => fun z3 e3 => fun z4 e4 => fun z5 e5 => fun k1 ek1 => fun z6 e6 => rc_k e3 e4 e5 ek1 (fun _ => rfl) (by omega), fun q3 => ⟨fun q4 => fun z3 e3 => fun z4 e4 => fun z5 e5 => fun k1 ek1 => fun z6 e6 => rc_k e3 e4 e5 ek1 (fun _ => rfl) (by omega), fun q4 => fun z3 e3 => ⟨fun q5 => ⟨rfl, (fun _ => rfl), (by omega)⟩, fun q5 => rc_0 (fun _ => rfl) (by omega)⟩⟩⟩⟩⟩
  · rintro x0 x1 x2 x3 x4 q ⟨rfl, i1, i2⟩
    exact fun z5 e5 => ⟨fun q1 => ⟨rfl, i1, i2⟩, fun q1 => fun z6 e6 => fun z7 e7 => fun z8 e8 => fun z9 e9 => ⟨rfl, i1, i2⟩⟩
  · rintro x0 x2 x3 x4 x5 q ⟨rfl, i1, i2⟩
    exact fun z5 e5 => ⟨fun q1 => ⟨fun q2 => fun z6 e6 => fun z7 e7 => rc_0 i1 i2, fun q2 => fun z6 e6 => rc_0 i1 i2⟩, fun q1 => fun z6 e6 => ⟨fun q3 => fun z7 e7 => ⟨rfl, i1, i2⟩, fun q3 => fun z7 e7 => fun z8 e8 => ⟨fun q4 => fun z9 e9 => ⟨rfl, i1, i2⟩, fun q4 => fun z9 e9 => ⟨rfl, i1, i2⟩⟩⟩⟩
theorem kc_scorn (hs : fS 143 [1, x] h v h') (C : CJ G h) (W : GW G) : rc 3 h h' (if x < 0 ∨ 4 < x then 1 else 0) := by
  have hB := W.1.1.1
  have hD := W.1.2
  have hL := W.2.2.2.1.1
  have hP := W.2.2.1.1
  have hI := W.2.1.1
  have hL2 := W.2.2.2.1.2.1
  have hR := W.2.2.2.2.1
  have hR2 := W.2.2.2.2.2.1
  have jm : h 11 1 = G.1 0 := C.1.many
  have jd : h 11 15 = G.1 1 := C.1.day
  have jo : h 11 14 = G.1 2 := C.1.opn
  have jl : h 266 1 = G.2.2.2.1.1 := C.2.2.2.1.1
  have jr : h 1 8 = G.2.2.2.2.1 := C.2.2.2.2.1.1
  have jp : h 80 2 = G.2.2.1.1 := C.2.2.1.1
  have ji : h 1 3 = G.2.1.1 := C.2.1.1
  have jk := fl_4
  refine vc_scorn hs (fun x0 x1 x2 x3 q => 1 = x0 ∧ (∀ k, q 3 k = h 3 k) ∧ (if x < 0 ∨ 4 < x then 1 else 0 : Int) = 0) (fun _ h' => rc 3 h h' (if x < 0 ∨ 4 < x then 1 else 0)) ?_ ?_
  · exact ⟨fun q1 => fun z2 e2 => fun z3 e3 => fun z4 e4 => fun k1 ek1 => rc_k e2 e3 e4 ek1 (fun _ => rfl) (by omega), fun q1 => ⟨fun q2 => fun z2 e2 => fun z3 e3 => fun z4 e4 => fun k1 ek1 => rc_k e2 e3 e4 ek1 (fun _ => rfl) (by omega), fun q2 => ⟨rfl, (fun _ => rfl), (by omega)⟩⟩⟩
  · rintro x0 x1 x2 x3 q ⟨rfl, i1, i2⟩
    exact fun z4 e4 => ⟨fun q1 => rc_0 i1 i2, fun q1 => fun z5 e5 => fun z6 e6 => ⟨fun q2 => fun z7 e7 => fun z8 e8 => ⟨rfl, i1, i2⟩, fun q2 => ⟨fun q3 => fun z7 e7 => ⟨rfl, i1, i2⟩, fun q3 => fun z7 e7 => fun z8 e8 => ⟨rfl, i1, i2⟩⟩⟩⟩
theorem kc_left (hs : fS 144 [1, x] h v h') (C : CJ G h) (W : GW G) : rc 3 h h' (if x < 0 ∨ 4 < x then 2 else 0) := by
  have hB := W.1.1.1
  have hD := W.1.2
  have hL := W.2.2.2.1.1
  have hP := W.2.2.1.1
  have hI := W.2.1.1
  have hL2 := W.2.2.2.1.2.1
  have hR := W.2.2.2.2.1
  have hR2 := W.2.2.2.2.2.1
  have jm : h 11 1 = G.1 0 := C.1.many
  have jd : h 11 15 = G.1 1 := C.1.day
  have jo : h 11 14 = G.1 2 := C.1.opn
  have jl : h 266 1 = G.2.2.2.1.1 := C.2.2.2.1.1
  have jr : h 1 8 = G.2.2.2.2.1 := C.2.2.2.2.1.1
  have jp : h 80 2 = G.2.2.1.1 := C.2.2.1.1
  have ji : h 1 3 = G.2.1.1 := C.2.1.1
  have jk := fl_4
  refine vc_left hs (fun _ h' => rc 3 h h' (if x < 0 ∨ 4 < x then 2 else 0)) ?_
  · exact ⟨fun q1 => fun v1 k1 hs1 => rc_0 (kp_cl (S0_k (fun _ => fz_vc_daysOfLastWager) hs1 trivial) (fun _ => rfl)) (by omega), fun q1 => ⟨fun q2 => fun v1 k1 hs1 => rc_0 (kp_cl (S0_k (fun _ => fz_vc_longestChasteRun) hs1 trivial) (fun _ => rfl)) (by omega), fun q2 => ⟨fun q3 => fun v1 k1 hs1 => rc_0 (kp_cl (S0_k (fun _ => fz_vc_eventsToday) hs1 trivial) (fun _ => rfl)) (by omega), fun q3 => ⟨fun q4 => fun v1 k1 hs1 => rc_0 (kp_cl (S0_k (fun _ => fz_vc_twosWhoWishEachOther) hs1 trivial) (fun _ => rfl)) (by omega), fun q4 => ⟨fun q5 => fun v1 k1 hs1 => rc_0 (kp_cl (S0_k (fun _ => fz_vc_rivals) hs1 trivial) (fun _ => rfl)) (by omega), fun q5 => fun z2 e2 => fun z3 e3 => fun z4 e4 => fun k1 ek1 => rc_k e2 e3 e4 ek1 (fun _ => rfl) (by omega)⟩⟩⟩⟩⟩
theorem kc_hope (hs : fS 101 [1, x, y, z] h v h') (C : CJ G h) (W : GW G) : rc 3 h h' (if x < 0 ∨ G.1 0 ≤ x ∨ y < 0 ∨ 4 < y then 1 else if z < 0 then 4 else if 60 < z then 6 else 0) := by
  have hB := W.1.1.1
  have hD := W.1.2
  have hL := W.2.2.2.1.1
  have hP := W.2.2.1.1
  have hI := W.2.1.1
  have hL2 := W.2.2.2.1.2.1
  have hR := W.2.2.2.2.1
  have hR2 := W.2.2.2.2.2.1
  have jm : h 11 1 = G.1 0 := C.1.many
  have jd : h 11 15 = G.1 1 := C.1.day
  have jo : h 11 14 = G.1 2 := C.1.opn
  have jl : h 266 1 = G.2.2.2.1.1 := C.2.2.2.1.1
  have jr : h 1 8 = G.2.2.2.2.1 := C.2.2.2.2.1.1
  have jp : h 80 2 = G.2.2.1.1 := C.2.2.1.1
  have ji : h 1 3 = G.2.1.1 := C.2.1.1
  have jk := fl_4
  refine vc_hope hs (fun _ h' => rc 3 h h' (if x < 0 ∨ G.1 0 ≤ x ∨ y < 0 ∨ 4 < y then 1 else if z < 0 then 4 else if 60 < z then 6 else 0)) ?_
  · exact ⟨fun q1 => fun z4 e4 => fun z5 e5 => fun z6 e6 => fun k1 ek1 => fun z7 e7 => (have f7 := wr_f e7; rc_k e4 e5 e6 ek1 (fun _ => rfl) (by omega)), fun q1 => fun z4 e4 => ⟨fun q2 => fun z5 e5 => fun z6 e6 => fun z7 e7 => fun k1 ek1 => fun z8 e8 => (have f8 := wr_f e8; rc_k e5 e6 e7 ek1 (fun _ => rfl) (by omega)), fun q2 => ⟨fun q3 => fun z5 e5 => fun z6 e6 => fun z7 e7 => fun k1 ek1 => fun z8 e8 => (have f8 := wr_f e8; rc_k e5 e6 e7 ek1 (fun _ => rfl) (by omega)), fun q3 => ⟨fun q4 => fun z5 e5 => fun z6 e6 => fun z7 e7 => fun k1 ek1 => fun z8 e8 => (have f8 := wr_f e8; rc_k e5 e6 e7 ek1 (fun _ => rfl) (by omega)), fun q4 => ⟨fun q5 => ⟨fun q6 => fun v1 k1 hs1 => fun z6 e6 => fun z7 e7 => fun z8 e8 => (have f8 := wr_f e8; rc_0 (kp_cl (S0_k (fun _ => fz_vt_beliefOf) hs1 trivial) (fun _ => rfl)) (by omega)), fun q6 => fun z5 e5 => fun z6 e6 => fun z7 e7 => fun k1 ek1 => fun z8 e8 => (have f8 := wr_f e8; rc_k e5 e6 e7 ek1 (fun _ => rfl) (by omega))⟩, fun q5 => fun z5 e5 => fun z6 e6 => fun z7 e7 => fun k1 ek1 => fun z8 e8 => (have f8 := wr_f e8; rc_k e5 e6 e7 ek1 (fun _ => rfl) (by omega))⟩⟩⟩⟩⟩
theorem kc_row (hs : fS 127 [1, x] h v h') (C : CJ G h) (W : GW G) : rc 3 h h' (if x < 0 then 4 else if 99 < x ∨ 12 ≤ G.2.2.2.2.1 then 6 else 0) := by
  have hB := W.1.1.1
  have hD := W.1.2
  have hL := W.2.2.2.1.1
  have hP := W.2.2.1.1
  have hI := W.2.1.1
  have hL2 := W.2.2.2.1.2.1
  have hR := W.2.2.2.2.1
  have hR2 := W.2.2.2.2.2.1
  have jm : h 11 1 = G.1 0 := C.1.many
  have jd : h 11 15 = G.1 1 := C.1.day
  have jo : h 11 14 = G.1 2 := C.1.opn
  have jl : h 266 1 = G.2.2.2.1.1 := C.2.2.2.1.1
  have jr : h 1 8 = G.2.2.2.2.1 := C.2.2.2.2.1.1
  have jp : h 80 2 = G.2.2.1.1 := C.2.2.1.1
  have ji : h 1 3 = G.2.1.1 := C.2.1.1
  have jk := fl_4
  refine vc_row hs (fun _ h' => rc 3 h h' (if x < 0 then 4 else if 99 < x ∨ 12 ≤ G.2.2.2.2.1 then 6 else 0)) ?_
  · exact ⟨fun q1 => ⟨fun q2 => fun z2 e2 => fun z3 e3 => fun z4 e4 => fun k1 ek1 => rc_k e2 e3 e4 ek1 (fun _ => rfl) (by omega), fun q2 => fun z2 e2 => ⟨fun q3 => fun z3 e3 => fun k1 ek1 => fun z4 e4 => fun z5 e5 => (have f5 := wr_f e5; fun k2 ek2 => fun z6 e6 => rc_0 (kp_st ek2 (by decide) (kp_st ek1 (by decide) (fun _ => rfl))) (by omega)), fun q3 => fun z3 e3 => fun z4 e4 => fun z5 e5 => fun k1 ek1 => rc_k e3 e4 e5 ek1 (fun _ => rfl) (by omega)⟩⟩, fun q1 => fun z2 e2 => fun z3 e3 => fun z4 e4 => fun k1 ek1 => rc_k e2 e3 e4 ek1 (fun _ => rfl) (by omega)⟩
theorem kc_judge (hs : fS 129 [1] h v h') (C : CJ G h) (W : GW G) : rc 3 h h' (0) := by
  have hB := W.1.1.1
  have hD := W.1.2
  have hL := W.2.2.2.1.1
  have hP := W.2.2.1.1
  have hI := W.2.1.1
  have hL2 := W.2.2.2.1.2.1
  have hR := W.2.2.2.2.1
  have hR2 := W.2.2.2.2.2.1
  have jm : h 11 1 = G.1 0 := C.1.many
  have jd : h 11 15 = G.1 1 := C.1.day
  have jo : h 11 14 = G.1 2 := C.1.opn
  have jl : h 266 1 = G.2.2.2.1.1 := C.2.2.2.1.1
  have jr : h 1 8 = G.2.2.2.2.1 := C.2.2.2.2.1.1
  have jp : h 80 2 = G.2.2.1.1 := C.2.2.1.1
  have ji : h 1 3 = G.2.1.1 := C.2.1.1
  have jk := fl_4
  refine vc_judge hs (fun x0 x1 x2 q => 1 = x0 ∧ (∀ k, q 3 k = h 3 k) ∧ (0 : Int) = 0) (fun _ h' => rc 3 h h' (0)) ?_ ?_
  · exact ⟨rfl, (fun _ => rfl), (by omega)⟩
  · rintro x0 x1 x2 q ⟨rfl, i1, i2⟩
    exact fun z3 e3 => ⟨fun q1 => fun k1 ek1 => rc_0 (kp_st ek1 (by decide) i1) i2, fun q1 => ⟨fun q2 => fun k1 ek1 => rc_0 (kp_st ek1 (by decide) i1) i2, fun q2 => ⟨fun q3 => fun z4 e4 => ⟨rfl, i1, i2⟩, fun q3 => fun z4 e4 => ⟨fun q4 => fun z5 e5 => ⟨rfl, i1, i2⟩, fun q4 => fun z5 e5 => fun z6 e6 => fun z7 e7 => ⟨fun q5 => fun z8 e8 => ⟨rfl, i1, i2⟩, fun q5 => fun z8 e8 => ⟨rfl, i1, i2⟩⟩⟩⟩⟩⟩
theorem kc_clear (hs : fS 128 [1] h v h') (C : CJ G h) (W : GW G) : rc 3 h h' (0) := by
  have hB := W.1.1.1
  have hD := W.1.2
  have hL := W.2.2.2.1.1
  have hP := W.2.2.1.1
  have hI := W.2.1.1
  have hL2 := W.2.2.2.1.2.1
  have hR := W.2.2.2.2.1
  have hR2 := W.2.2.2.2.2.1
  have jm : h 11 1 = G.1 0 := C.1.many
  have jd : h 11 15 = G.1 1 := C.1.day
  have jo : h 11 14 = G.1 2 := C.1.opn
  have jl : h 266 1 = G.2.2.2.1.1 := C.2.2.2.1.1
  have jr : h 1 8 = G.2.2.2.2.1 := C.2.2.2.2.1.1
  have jp : h 80 2 = G.2.2.1.1 := C.2.2.1.1
  have ji : h 1 3 = G.2.1.1 := C.2.1.1
  have jk := fl_4
  refine vc_clear hs (fun _ h' => rc 3 h h' (0)) ?_
  · exact fun z1 e1 => fun k1 ek1 => rc_0 (kp_st ek1 (by decide) (fun _ => rfl)) (by omega)
theorem km_feed (hs : fS 150 [271, x] h v h') (M : MJ G h) (W : GW G) : rc 285 h h' (if x < 0 then 4 else if 255 < x ∨ 96 ≤ G.2.2.2.1.1 then 6 else 0) := by
  have hB := W.1.1.1
  have hD := W.1.2
  have hL := W.2.2.2.1.1
  have hP := W.2.2.1.1
  have hI := W.2.1.1
  have hL2 := W.2.2.2.1.2.1
  have hR := W.2.2.2.2.1
  have hR2 := W.2.2.2.2.2.1
  refine vr_feed hs (fun _ h' => rc 285 h h' (if x < 0 then 4 else if 255 < x ∨ 96 ≤ G.2.2.2.1.1 then 6 else 0)) ?_
  · intro k1 ek1
    have M1 : MJ G k1 := by
      rw [ek1]
      exact M.up (by omega)
    have jm : k1 271 0 = G.1 0 := M1.1.many
    have jd : k1 271 15 = G.1 1 := M1.1.day
    have jo : k1 271 9 = G.1 2 := M1.1.opn
    have jl : k1 271 19 = G.2.2.2.1.1 := M1.2.2.2.1.1
    have jr : k1 271 38 = G.2.2.2.2.1 := M1.2.2.2.2.1
    have jp : k1 271 34 = G.2.2.1.1 := M1.2.2.1.1
    have ji : k1 271 28 = G.2.1.1 := M1.2.1.1
    exact ⟨fun q1 => ⟨fun q2 => fun z2 e2 => fun z3 e3 => fun z4 e4 => fun k2 ek2 => rc_k e2 e3 e4 ek2 (kp_st ek1 (by decide) (fun _ => rfl)) (by omega), fun q2 => fun z2 e2 => ⟨fun q3 => fun z3 e3 => fun k2 ek2 => fun z4 e4 => fun z5 e5 => (have f5 := wr_f e5; fun k3 ek3 => fun z6 e6 => rc_0 (kp_st ek3 (by decide) (kp_st ek2 (by decide) (kp_st ek1 (by decide) (fun _ => rfl)))) (by omega)), fun q3 => fun z3 e3 => fun z4 e4 => fun z5 e5 => fun k2 ek2 => rc_k e3 e4 e5 ek2 (kp_st ek1 (by decide) (fun _ => rfl)) (by omega)⟩⟩, fun q1 => fun z2 e2 => fun z3 e3 => fun z4 e4 => fun k2 ek2 => rc_k e2 e3 e4 ek2 (kp_st ek1 (by decide) (fun _ => rfl)) (by omega)⟩
theorem km_town (hs : fS 152 [271] h v h') (M : MJ G h) (W : GW G) : rc 285 h h' (0) := by
  have hB := W.1.1.1
  have hD := W.1.2
  have hL := W.2.2.2.1.1
  have hP := W.2.2.1.1
  have hI := W.2.1.1
  have hL2 := W.2.2.2.1.2.1
  have hR := W.2.2.2.2.1
  have hR2 := W.2.2.2.2.2.1
  refine vr_town hs (fun x0 q => 271 = x0 ∧ (∀ k, q 285 k = h 285 k) ∧ (0 : Int) = 0) (fun x0 x1 q => 271 = x0 ∧ (∀ k, q 285 k = h 285 k) ∧ (0 : Int) = 0) (fun _ h' => rc 285 h h' (0)) ?_ ?_ ?_
  · intro k1 ek1
    have M1 : MJ G k1 := by
      rw [ek1]
      exact M.up (by omega)
    have jm : k1 271 0 = G.1 0 := M1.1.many
    have jd : k1 271 15 = G.1 1 := M1.1.day
    have jo : k1 271 9 = G.1 2 := M1.1.opn
    have jl : k1 271 19 = G.2.2.2.1.1 := M1.2.2.2.1.1
    have jr : k1 271 38 = G.2.2.2.2.1 := M1.2.2.2.2.1
    have jp : k1 271 34 = G.2.2.1.1 := M1.2.2.1.1
    have ji : k1 271 28 = G.2.1.1 := M1.2.1.1
    exact fun k2 ek2 => fun k3 ek3 => fun k4 ek4 => ⟨rfl, (kp_st ek4 (by decide) (kp_st ek3 (by decide) (kp_st ek2 (by decide) (kp_st ek1 (by decide) (fun _ => rfl))))), (by omega)⟩
  · rintro x0 q ⟨rfl, i1, i2⟩
    exact fun z1 e1 => ⟨fun q1 => fun k1 ek1 => fun z2 e2 => ⟨fun q2 => fun v2 k2 hs2 => ⟨rfl, (kp_cl (sd_carryAll hs2 (by decide)) (kp_st ek1 (by decide) i1)), i2⟩, fun q2 => fun z3 e3 => fun z4 e4 => rc_0 (kp_st ek1 (by decide) i1) i2⟩, fun q1 => fun z2 e2 => ⟨fun q3 => fun v1 k1 hs1 => ⟨rfl, (kp_cl (eK (fun _ => fe_vr_readStatement) hs1 ⟨rfl, trivial⟩) i1), i2⟩, fun q3 => fun z3 e3 => fun z4 e4 => ⟨fun q4 => fun k1 ek1 => fun z5 e5 => ⟨fun q5 => fun v2 k2 hs2 => ⟨rfl, (kp_cl (sd_carryAll hs2 (by decide)) (kp_st ek1 (by decide) i1)), i2⟩, fun q5 => fun z6 e6 => fun z7 e7 => rc_0 (kp_st ek1 (by decide) i1) i2⟩, fun q4 => fun v1 k1 hs1 => ⟨rfl, (kp_cl (eK (fun _ => fe_vr_readStatement) hs1 ⟨rfl, trivial⟩) i1), i2⟩⟩⟩⟩
  · rintro x0 x1 q ⟨rfl, i1, i2⟩
    exact fun z2 e2 => ⟨fun q1 => fun k1 ek1 => fun z3 e3 => rc_0 (kp_st ek1 (by decide) i1) i2, fun q1 => fun v1 k1 hs1 => ⟨fun q2 => fun z4 e4 => ⟨rfl, (kp_cl (eK (fun _ => fe_vr_comesTold) hs1 ⟨rfl, trivial⟩) i1), i2⟩, fun q2 => fun v2 k2 hs2 => fun z5 e5 => fun z6 e6 => rc_0 (kp_cl (sd_carryAll hs2 (by decide)) (kp_cl (eK (fun _ => fe_vr_comesTold) hs1 ⟨rfl, trivial⟩) i1)) i2⟩⟩
theorem km_personOf (hs : fS 184 [271, x, y] h v h') (M : MJ G h) (W : GW G) : rc 285 h h' (if x < 0 ∨ G.1 0 ≤ x then 1 else if y < 0 ∨ 7 < y then 2 else 0) := by
  have hB := W.1.1.1
  have hD := W.1.2
  have hL := W.2.2.2.1.1
  have hP := W.2.2.1.1
  have hI := W.2.1.1
  have hL2 := W.2.2.2.1.2.1
  have hR := W.2.2.2.2.1
  have hR2 := W.2.2.2.2.2.1
  refine vr_personOf hs (fun _ h' => rc 285 h h' (if x < 0 ∨ G.1 0 ≤ x then 1 else if y < 0 ∨ 7 < y then 2 else 0)) ?_
  · intro k1 ek1
    have M1 : MJ G k1 := by
      rw [ek1]
      exact M.up (by omega)
    have jm : k1 271 0 = G.1 0 := M1.1.many
    have jd : k1 271 15 = G.1 1 := M1.1.day
    have jo : k1 271 9 = G.1 2 := M1.1.opn
    have jl : k1 271 19 = G.2.2.2.1.1 := M1.2.2.2.1.1
    have jr : k1 271 38 = G.2.2.2.2.1 := M1.2.2.2.2.1
    have jp : k1 271 34 = G.2.2.1.1 := M1.2.2.1.1
    have ji : k1 271 28 = G.2.1.1 := M1.2.1.1
    exact fun z3 e3 => fun z4 e4 => (have f4 := wr_f e4; fun z5 e5 => ⟨fun q1 => (have r1 := xl_lt e5 q1; fun z6 e6 => fun z7 e7 => (have f7 := wr_f e7; fun z8 e8 => ⟨fun q2 => (have r2 := xl_lt e8 q2; fun z9 e9 => fun z10 e10 => fun z11 e11 => fun k2 ek2 => rc_k e9 e10 e11 ek2 (kp_st ek1 (by decide) (fun _ => rfl)) (by omega)), fun q2 => (have r2 := xl_ge e8 q2; fun z9 e9 => ⟨fun q3 => (have r3 := xl_gt e9 q3; fun z10 e10 => fun z11 e11 => fun z12 e12 => fun k2 ek2 => rc_k e10 e11 e12 ek2 (kp_st ek1 (by decide) (fun _ => rfl)) (by omega)), fun q3 => (have r3 := xl_le e9 q3; fun z10 e10 => fun z11 e11 => fun z12 e12 => fun k2 ek2 => rc_k e10 e11 e12 ek2 (kp_st ek1 (by decide) (fun _ => rfl)) (by omega))⟩)⟩)), fun q1 => (have r1 := xl_ge e5 q1; fun z6 e6 => ⟨fun q4 => (have r4 := xl_gt e6 q4; fun z7 e7 => fun z8 e8 => (have f8 := wr_f e8; fun z9 e9 => ⟨fun q5 => (have r5 := xl_lt e9 q5; fun z10 e10 => fun z11 e11 => fun z12 e12 => fun k2 ek2 => rc_k e10 e11 e12 ek2 (kp_st ek1 (by decide) (fun _ => rfl)) (by omega)), fun q5 => (have r5 := xl_ge e9 q5; fun z10 e10 => ⟨fun q6 => (have r6 := xl_gt e10 q6; fun z11 e11 => fun z12 e12 => fun z13 e13 => fun k2 ek2 => rc_k e11 e12 e13 ek2 (kp_st ek1 (by decide) (fun _ => rfl)) (by omega)), fun q6 => (have r6 := xl_le e10 q6; fun z11 e11 => fun z12 e12 => fun z13 e13 => fun k2 ek2 => rc_k e11 e12 e13 ek2 (kp_st ek1 (by decide) (fun _ => rfl)) (by omega))⟩)⟩)), fun q4 => (have r4 := xl_le e6 q4; fun z7 e7 => ⟨fun q7 => (have r7 := xl_lt e7 q7; fun z8 e8 => fun z9 e9 => (have f9 := wr_f e9; fun z10 e10 => ⟨fun q8 => (have r8 := xl_lt e10 q8; fun z11 e11 => fun z12 e12 => fun z13 e13 => fun k2 ek2 => rc_k e11 e12 e13 ek2 (kp_st ek1 (by decide) (fun _ => rfl)) (by omega)), fun q8 => (have r8 := xl_ge e10 q8; fun z11 e11 => ⟨fun q9 => (have r9 := xl_gt e11 q9; fun z12 e12 => fun z13 e13 => fun z14 e14 => fun k2 ek2 => rc_k e12 e13 e14 ek2 (kp_st ek1 (by decide) (fun _ => rfl)) (by omega)), fun q9 => (have r9 := xl_le e11 q9; fun z12 e12 => fun z13 e13 => fun z14 e14 => fun k2 ek2 => rc_k e12 e13 e14 ek2 (kp_st ek1 (by decide) (fun _ => rfl)) (by omega))⟩)⟩)), fun q7 => (have r7 := xl_ge e7 q7; fun z8 e8 => ⟨fun q10 => (have r10 := xl_gt e8 q10; fun z9 e9 => fun z10 e10 => (have f10 := wr_f e10; fun z11 e11 => ⟨fun q11 => (have r11 := xl_lt e11 q11; fun z12 e12 => fun z13 e13 => fun z14 e14 => fun k2 ek2 => rc_k e12 e13 e14 ek2 (kp_st ek1 (by decide) (fun _ => rfl)) (by omega)), fun q11 => (have r11 := xl_ge e11 q11; fun z12 e12 => ⟨fun q12 => (have r12 := xl_gt e12 q12; fun z13 e13 => fun z14 e14 => fun z15 e15 => fun k2 ek2 => rc_k e13 e14 e15 ek2 (kp_st ek1 (by decide) (fun _ => rfl)) (by omega)), fun q12 => (have r12 := xl_le e12 q12; fun z13 e13 => fun z14 e14 => fun z15 e15 => fun k2 ek2 => rc_k e13 e14 e15 ek2 (kp_st ek1 (by decide) (fun _ => rfl)) (by omega))⟩)⟩)), fun q10 => (have r10 := xl_le e8 q10; ⟨fun q13 => fun z9 e9 => rc_0 (kp_st ek1 (by decide) (fun _ => rfl)) (by omega), fun q13 => ⟨fun q14 => fun z9 e9 => rc_0 (kp_st ek1 (by decide) (fun _ => rfl)) (by omega), fun q14 => ⟨fun q15 => fun z9 e9 => rc_0 (kp_st ek1 (by decide) (fun _ => rfl)) (by omega), fun q15 => ⟨fun q16 => fun z9 e9 => rc_0 (kp_st ek1 (by decide) (fun _ => rfl)) (by omega), fun q16 => ⟨fun q17 => fun z9 e9 => ⟨fun q18 => fun z10 e10 => fun z11 e11 => (have f11 := wr_f e11; rc_0 (kp_st ek1 (by decide) (fun _ => rfl)) (by omega)), fun q18 => rc_0 (kp_st ek1 (by decide) (fun _ => rfl)) (by omega)⟩, fun q17 => ⟨fun q19 => fun v2 k2 hs2 => rc_0 (kp_cl (eK (fun _ => fe_vr_asksOf) hs2 ⟨rfl, trivial⟩) (kp_st ek1 (by decide) (fun _ => rfl))) (by omega), fun q19 => ⟨fun q20 => fun v2 k2 hs2 => rc_0 (kp_cl (eK (fun _ => fe_vr_weepsOf) hs2 ⟨rfl, trivial⟩) (kp_st ek1 (by decide) (fun _ => rfl))) (by omega), fun q20 => fun v2 k2 hs2 => rc_0 (kp_cl (eK (fun _ => fe_vr_learnsOf) hs2 ⟨rfl, trivial⟩) (kp_st ek1 (by decide) (fun _ => rfl))) (by omega)⟩⟩⟩⟩⟩⟩⟩)⟩)⟩)⟩)⟩)
theorem km_belief (hs : fS 185 [271, x, y] h v h') (M : MJ G h) (W : GW G) : rc 285 h h' (if x < 0 ∨ G.1 0 ≤ x ∨ y < 0 ∨ 4 < y then 1 else 0) := by
  have hB := W.1.1.1
  have hD := W.1.2
  have hL := W.2.2.2.1.1
  have hP := W.2.2.1.1
  have hI := W.2.1.1
  have hL2 := W.2.2.2.1.2.1
  have hR := W.2.2.2.2.1
  have hR2 := W.2.2.2.2.2.1
  refine vr_belief hs (fun _ h' => rc 285 h h' (if x < 0 ∨ G.1 0 ≤ x ∨ y < 0 ∨ 4 < y then 1 else 0)) ?_
  · intro k1 ek1
    have M1 : MJ G k1 := by
      rw [ek1]
      exact M.up (by omega)
    have jm : k1 271 0 = G.1 0 := M1.1.many
    have jd : k1 271 15 = G.1 1 := M1.1.day
    have jo : k1 271 9 = G.1 2 := M1.1.opn
    have jl : k1 271 19 = G.2.2.2.1.1 := M1.2.2.2.1.1
    have jr : k1 271 38 = G.2.2.2.2.1 := M1.2.2.2.2.1
    have jp : k1 271 34 = G.2.2.1.1 := M1.2.2.1.1
    have ji : k1 271 28 = G.2.1.1 := M1.2.1.1
    exact fun z3 e3 => fun z4 e4 => (have f4 := wr_f e4; fun z5 e5 => ⟨fun q1 => (have r1 := xl_lt e5 q1; fun z6 e6 => fun z7 e7 => fun z8 e8 => fun k2 ek2 => rc_k e6 e7 e8 ek2 (kp_st ek1 (by decide) (fun _ => rfl)) (by omega)), fun q1 => (have r1 := xl_ge e5 q1; fun z6 e6 => ⟨fun q2 => (have r2 := xl_gt e6 q2; fun z7 e7 => fun z8 e8 => fun z9 e9 => fun k2 ek2 => rc_k e7 e8 e9 ek2 (kp_st ek1 (by decide) (fun _ => rfl)) (by omega)), fun q2 => (have r2 := xl_le e6 q2; fun z7 e7 => ⟨fun q3 => (have r3 := xl_lt e7 q3; fun z8 e8 => fun z9 e9 => fun z10 e10 => fun k2 ek2 => rc_k e8 e9 e10 ek2 (kp_st ek1 (by decide) (fun _ => rfl)) (by omega)), fun q3 => (have r3 := xl_ge e7 q3; fun z8 e8 => ⟨fun q4 => (have r4 := xl_gt e8 q4; fun z9 e9 => fun z10 e10 => fun z11 e11 => fun k2 ek2 => rc_k e9 e10 e11 ek2 (kp_st ek1 (by decide) (fun _ => rfl)) (by omega)), fun q4 => (have r4 := xl_le e8 q4; fun z9 e9 => (have f9 := wr_f e9; fun z10 e10 => (have f10 := wr_f e10; fun z11 e11 => rc_0 (kp_st ek1 (by decide) (fun _ => rfl)) (by omega))))⟩)⟩)⟩)⟩)
theorem km_eventOf (hs : fS 186 [271, x, y] h v h') (M : MJ G h) (W : GW G) : rc 285 h h' (if x < 0 ∨ 4 < x then 1 else if y < 0 ∨ 2 < y then 2 else 0) := by
  have hB := W.1.1.1
  have hD := W.1.2
  have hL := W.2.2.2.1.1
  have hP := W.2.2.1.1
  have hI := W.2.1.1
  have hL2 := W.2.2.2.1.2.1
  have hR := W.2.2.2.2.1
  have hR2 := W.2.2.2.2.2.1
  refine vr_eventOf hs (fun _ h' => rc 285 h h' (if x < 0 ∨ 4 < x then 1 else if y < 0 ∨ 2 < y then 2 else 0)) ?_
  · intro k1 ek1
    have M1 : MJ G k1 := by
      rw [ek1]
      exact M.up (by omega)
    have jm : k1 271 0 = G.1 0 := M1.1.many
    have jd : k1 271 15 = G.1 1 := M1.1.day
    have jo : k1 271 9 = G.1 2 := M1.1.opn
    have jl : k1 271 19 = G.2.2.2.1.1 := M1.2.2.2.1.1
    have jr : k1 271 38 = G.2.2.2.2.1 := M1.2.2.2.2.1
    have jp : k1 271 34 = G.2.2.1.1 := M1.2.2.1.1
    have ji : k1 271 28 = G.2.1.1 := M1.2.1.1
    exact fun z3 e3 => ⟨fun q1 => (have r1 := xl_lt e3 q1; fun z4 e4 => ⟨fun q2 => (have r2 := xl_lt e4 q2; fun z5 e5 => fun z6 e6 => fun z7 e7 => fun k2 ek2 => rc_k e5 e6 e7 ek2 (kp_st ek1 (by decide) (fun _ => rfl)) (by omega)), fun q2 => (have r2 := xl_ge e4 q2; fun z5 e5 => ⟨fun q3 => (have r3 := xl_gt e5 q3; fun z6 e6 => fun z7 e7 => fun z8 e8 => fun k2 ek2 => rc_k e6 e7 e8 ek2 (kp_st ek1 (by decide) (fun _ => rfl)) (by omega)), fun q3 => (have r3 := xl_le e5 q3; fun z6 e6 => fun z7 e7 => fun z8 e8 => fun k2 ek2 => rc_k e6 e7 e8 ek2 (kp_st ek1 (by decide) (fun _ => rfl)) (by omega))⟩)⟩), fun q1 => (have r1 := xl_ge e3 q1; fun z4 e4 => ⟨fun q4 => (have r4 := xl_gt e4 q4; fun z5 e5 => ⟨fun q5 => (have r5 := xl_lt e5 q5; fun z6 e6 => fun z7 e7 => fun z8 e8 => fun k2 ek2 => rc_k e6 e7 e8 ek2 (kp_st ek1 (by decide) (fun _ => rfl)) (by omega)), fun q5 => (have r5 := xl_ge e5 q5; fun z6 e6 => ⟨fun q6 => (have r6 := xl_gt e6 q6; fun z7 e7 => fun z8 e8 => fun z9 e9 => fun k2 ek2 => rc_k e7 e8 e9 ek2 (kp_st ek1 (by decide) (fun _ => rfl)) (by omega)), fun q6 => (have r6 := xl_le e6 q6; fun z7 e7 => fun z8 e8 => fun z9 e9 => fun k2 ek2 => rc_k e7 e8 e9 ek2 (kp_st ek1 (by decide) (fun _ => rfl)) (by omega))⟩)⟩), fun q4 => (have r4 := xl_le e4 q4; fun z5 e5 => ⟨fun q7 => (have r7 := xl_lt e5 q7; fun z6 e6 => ⟨fun q8 => (have r8 := xl_lt e6 q8; fun z7 e7 => fun z8 e8 => fun z9 e9 => fun k2 ek2 => rc_k e7 e8 e9 ek2 (kp_st ek1 (by decide) (fun _ => rfl)) (by omega)), fun q8 => (have r8 := xl_ge e6 q8; fun z7 e7 => ⟨fun q9 => (have r9 := xl_gt e7 q9; fun z8 e8 => fun z9 e9 => fun z10 e10 => fun k2 ek2 => rc_k e8 e9 e10 ek2 (kp_st ek1 (by decide) (fun _ => rfl)) (by omega)), fun q9 => (have r9 := xl_le e7 q9; fun z8 e8 => fun z9 e9 => fun z10 e10 => fun k2 ek2 => rc_k e8 e9 e10 ek2 (kp_st ek1 (by decide) (fun _ => rfl)) (by omega))⟩)⟩), fun q7 => (have r7 := xl_ge e5 q7; fun z6 e6 => ⟨fun q10 => (have r10 := xl_gt e6 q10; fun z7 e7 => ⟨fun q11 => (have r11 := xl_lt e7 q11; fun z8 e8 => fun z9 e9 => fun z10 e10 => fun k2 ek2 => rc_k e8 e9 e10 ek2 (kp_st ek1 (by decide) (fun _ => rfl)) (by omega)), fun q11 => (have r11 := xl_ge e7 q11; fun z8 e8 => ⟨fun q12 => (have r12 := xl_gt e8 q12; fun z9 e9 => fun z10 e10 => fun z11 e11 => fun k2 ek2 => rc_k e9 e10 e11 ek2 (kp_st ek1 (by decide) (fun _ => rfl)) (by omega)), fun q12 => (have r12 := xl_le e8 q12; fun z9 e9 => fun z10 e10 => fun z11 e11 => fun k2 ek2 => rc_k e9 e10 e11 ek2 (kp_st ek1 (by decide) (fun _ => rfl)) (by omega))⟩)⟩), fun q10 => (have r10 := xl_le e6 q10; ⟨fun q13 => ⟨fun q14 => fun z7 e7 => fun z8 e8 => fun z9 e9 => (have f9 := wr_f e9; fun z10 e10 => fun z11 e11 => ⟨fun q15 => rc_0 (kp_st ek1 (by decide) (fun _ => rfl)) (by omega), fun q15 => rc_0 (kp_st ek1 (by decide) (fun _ => rfl)) (by omega)⟩), fun q14 => fun z7 e7 => rc_0 (kp_st ek1 (by decide) (fun _ => rfl)) (by omega)⟩, fun q13 => fun z7 e7 => rc_0 (kp_st ek1 (by decide) (fun _ => rfl)) (by omega)⟩)⟩)⟩)⟩)⟩
theorem km_wagerOf (hs : fS 187 [271, x, y] h v h') (M : MJ G h) (W : GW G) : rc 285 h h' (if x < 0 ∨ G.1 2 ≤ x then 1 else if y < 0 ∨ 4 < y then 2 else 0) := by
  have hB := W.1.1.1
  have hD := W.1.2
  have hL := W.2.2.2.1.1
  have hP := W.2.2.1.1
  have hI := W.2.1.1
  have hL2 := W.2.2.2.1.2.1
  have hR := W.2.2.2.2.1
  have hR2 := W.2.2.2.2.2.1
  refine vr_wagerOf hs (fun _ h' => rc 285 h h' (if x < 0 ∨ G.1 2 ≤ x then 1 else if y < 0 ∨ 4 < y then 2 else 0)) ?_
  · intro k1 ek1
    have M1 : MJ G k1 := by
      rw [ek1]
      exact M.up (by omega)
    have jm : k1 271 0 = G.1 0 := M1.1.many
    have jd : k1 271 15 = G.1 1 := M1.1.day
    have jo : k1 271 9 = G.1 2 := M1.1.opn
    have jl : k1 271 19 = G.2.2.2.1.1 := M1.2.2.2.1.1
    have jr : k1 271 38 = G.2.2.2.2.1 := M1.2.2.2.2.1
    have jp : k1 271 34 = G.2.2.1.1 := M1.2.2.1.1
    have ji : k1 271 28 = G.2.1.1 := M1.2.1.1
    exact fun z3 e3 => fun z4 e4 => (have f4 := wr_f e4; fun z5 e5 => ⟨fun q1 => (have r1 := xl_lt e5 q1; fun z6 e6 => fun z7 e7 => (have f7 := wr_f e7; fun z8 e8 => ⟨fun q2 => (have r2 := xl_lt e8 q2; fun z9 e9 => fun z10 e10 => fun z11 e11 => fun k2 ek2 => rc_k e9 e10 e11 ek2 (kp_st ek1 (by decide) (fun _ => rfl)) (by omega)), fun q2 => (have r2 := xl_ge e8 q2; fun z9 e9 => ⟨fun q3 => (have r3 := xl_gt e9 q3; fun z10 e10 => fun z11 e11 => fun z12 e12 => fun k2 ek2 => rc_k e10 e11 e12 ek2 (kp_st ek1 (by decide) (fun _ => rfl)) (by omega)), fun q3 => (have r3 := xl_le e9 q3; fun z10 e10 => fun z11 e11 => fun z12 e12 => fun k2 ek2 => rc_k e10 e11 e12 ek2 (kp_st ek1 (by decide) (fun _ => rfl)) (by omega))⟩)⟩)), fun q1 => (have r1 := xl_ge e5 q1; fun z6 e6 => ⟨fun q4 => (have r4 := xl_gt e6 q4; fun z7 e7 => fun z8 e8 => (have f8 := wr_f e8; fun z9 e9 => ⟨fun q5 => (have r5 := xl_lt e9 q5; fun z10 e10 => fun z11 e11 => fun z12 e12 => fun k2 ek2 => rc_k e10 e11 e12 ek2 (kp_st ek1 (by decide) (fun _ => rfl)) (by omega)), fun q5 => (have r5 := xl_ge e9 q5; fun z10 e10 => ⟨fun q6 => (have r6 := xl_gt e10 q6; fun z11 e11 => fun z12 e12 => fun z13 e13 => fun k2 ek2 => rc_k e11 e12 e13 ek2 (kp_st ek1 (by decide) (fun _ => rfl)) (by omega)), fun q6 => (have r6 := xl_le e10 q6; fun z11 e11 => fun z12 e12 => fun z13 e13 => fun k2 ek2 => rc_k e11 e12 e13 ek2 (kp_st ek1 (by decide) (fun _ => rfl)) (by omega))⟩)⟩)), fun q4 => (have r4 := xl_le e6 q4; fun z7 e7 => ⟨fun q7 => (have r7 := xl_lt e7 q7; fun z8 e8 => fun z9 e9 => (have f9 := wr_f e9; fun z10 e10 => ⟨fun q8 => (have r8 := xl_lt e10 q8; fun z11 e11 => fun z12 e12 => fun z13 e13 => fun k2 ek2 => rc_k e11 e12 e13 ek2 (kp_st ek1 (by decide) (fun _ => rfl)) (by omega)), fun q8 => (have r8 := xl_ge e10 q8; fun z11 e11 => ⟨fun q9 => (have r9 := xl_gt e11 q9; fun z12 e12 => fun z13 e13 => fun z14 e14 => fun k2 ek2 => rc_k e12 e13 e14 ek2 (kp_st ek1 (by decide) (fun _ => rfl)) (by omega)), fun q9 => (have r9 := xl_le e11 q9; fun z12 e12 => fun z13 e13 => fun z14 e14 => fun k2 ek2 => rc_k e12 e13 e14 ek2 (kp_st ek1 (by decide) (fun _ => rfl)) (by omega))⟩)⟩)), fun q7 => (have r7 := xl_ge e7 q7; fun z8 e8 => ⟨fun q10 => (have r10 := xl_gt e8 q10; fun z9 e9 => fun z10 e10 => (have f10 := wr_f e10; fun z11 e11 => ⟨fun q11 => (have r11 := xl_lt e11 q11; fun z12 e12 => fun z13 e13 => fun z14 e14 => fun k2 ek2 => rc_k e12 e13 e14 ek2 (kp_st ek1 (by decide) (fun _ => rfl)) (by omega)), fun q11 => (have r11 := xl_ge e11 q11; fun z12 e12 => ⟨fun q12 => (have r12 := xl_gt e12 q12; fun z13 e13 => fun z14 e14 => fun z15 e15 => fun k2 ek2 => rc_k e13 e14 e15 ek2 (kp_st ek1 (by decide) (fun _ => rfl)) (by omega)), fun q12 => (have r12 := xl_le e12 q12; fun z13 e13 => fun z14 e14 => fun z15 e15 => fun k2 ek2 => rc_k e13 e14 e15 ek2 (kp_st ek1 (by decide) (fun _ => rfl)) (by omega))⟩)⟩)), fun q10 => (have r10 := xl_le e8 q10; ⟨fun q13 => ⟨fun q14 => ⟨fun q15 => ⟨fun q16 => fun z9 e9 => rc_0 (kp_st ek1 (by decide) (fun _ => rfl)) (by omega), fun q16 => fun z9 e9 => rc_0 (kp_st ek1 (by decide) (fun _ => rfl)) (by omega)⟩, fun q15 => fun z9 e9 => rc_0 (kp_st ek1 (by decide) (fun _ => rfl)) (by omega)⟩, fun q14 => fun z9 e9 => rc_0 (kp_st ek1 (by decide) (fun _ => rfl)) (by omega)⟩, fun q13 => fun z9 e9 => rc_0 (kp_st ek1 (by decide) (fun _ => rfl)) (by omega)⟩)⟩)⟩)⟩)⟩)
theorem km_person (hs : fS 188 [271, x, y] h v h') (M : MJ G h) (W : GW G) : rc 285 h h' (if x < 0 ∨ 5 < x then 2 else if y < 0 then 4 else if 9 < y ∨ 7 ≤ G.1 0 then 6 else 0) := by
  have hB := W.1.1.1
  have hD := W.1.2
  have hL := W.2.2.2.1.1
  have hP := W.2.2.1.1
  have hI := W.2.1.1
  have hL2 := W.2.2.2.1.2.1
  have hR := W.2.2.2.2.1
  have hR2 := W.2.2.2.2.2.1
  refine vr_person hs (fun _ h' => rc 285 h h' (if x < 0 ∨ 5 < x then 2 else if y < 0 then 4 else if 9 < y ∨ 7 ≤ G.1 0 then 6 else 0)) ?_
  · intro k1 ek1
    have M1 : MJ G k1 := by
      rw [ek1]
      exact M.up (by omega)
    have jm : k1 271 0 = G.1 0 := M1.1.many
    have jd : k1 271 15 = G.1 1 := M1.1.day
    have jo : k1 271 9 = G.1 2 := M1.1.opn
    have jl : k1 271 19 = G.2.2.2.1.1 := M1.2.2.2.1.1
    have jr : k1 271 38 = G.2.2.2.2.1 := M1.2.2.2.2.1
    have jp : k1 271 34 = G.2.2.1.1 := M1.2.2.1.1
    have ji : k1 271 28 = G.2.1.1 := M1.2.1.1
    exact fun z3 e3 => ⟨fun q1 => (have r1 := xl_lt e3 q1; fun z4 e4 => fun z5 e5 => fun z6 e6 => fun k2 ek2 => rc_k e4 e5 e6 ek2 (kp_st ek1 (by decide) (fun _ => rfl)) (by omega)), fun q1 => (have r1 := xl_ge e3 q1; fun z4 e4 => ⟨fun q2 => (have r2 := xl_gt e4 q2; fun z5 e5 => fun z6 e6 => fun z7 e7 => fun k2 ek2 => rc_k e5 e6 e7 ek2 (kp_st ek1 (by decide) (fun _ => rfl)) (by omega)), fun q2 => (have r2 := xl_le e4 q2; ⟨fun q3 => ⟨fun q4 => fun z5 e5 => ⟨fun q5 => fun v2 k2 hs2 => fun k3 ek3 => fun z7 e7 => fun z8 e8 => (have f8 := wr_f e8; rc_0 (kp_st ek3 (by decide) (kp_cl (eK (fun _ => fe_vr_personComes) hs2 ⟨rfl, trivial⟩) (kp_st ek1 (by decide) (fun _ => rfl)))) (by omega)), fun q5 => fun z6 e6 => fun z7 e7 => fun z8 e8 => fun k2 ek2 => rc_k e6 e7 e8 ek2 (kp_st ek1 (by decide) (fun _ => rfl)) (by omega)⟩, fun q4 => fun z5 e5 => fun z6 e6 => fun z7 e7 => fun k2 ek2 => rc_k e5 e6 e7 ek2 (kp_st ek1 (by decide) (fun _ => rfl)) (by omega)⟩, fun q3 => fun z5 e5 => fun z6 e6 => fun z7 e7 => fun k2 ek2 => rc_k e5 e6 e7 ek2 (kp_st ek1 (by decide) (fun _ => rfl)) (by omega)⟩)⟩)⟩
theorem km_wishes (hs : fS 190 [271, x, y] h v h') (M : MJ G h) (W : GW G) : rc 285 h h' (if x < 0 ∨ G.1 0 ≤ x ∨ y < 0 ∨ 6 < y then 1 else 0) := by
  have hB := W.1.1.1
  have hD := W.1.2
  have hL := W.2.2.2.1.1
  have hP := W.2.2.1.1
  have hI := W.2.1.1
  have hL2 := W.2.2.2.1.2.1
  have hR := W.2.2.2.2.1
  have hR2 := W.2.2.2.2.2.1
  refine vr_wishes hs (fun _ h' => rc 285 h h' (if x < 0 ∨ G.1 0 ≤ x ∨ y < 0 ∨ 6 < y then 1 else 0)) ?_
  · intro k1 ek1
    have M1 : MJ G k1 := by
      rw [ek1]
      exact M.up (by omega)
    have jm : k1 271 0 = G.1 0 := M1.1.many
    have jd : k1 271 15 = G.1 1 := M1.1.day
    have jo : k1 271 9 = G.1 2 := M1.1.opn
    have jl : k1 271 19 = G.2.2.2.1.1 := M1.2.2.2.1.1
    have jr : k1 271 38 = G.2.2.2.2.1 := M1.2.2.2.2.1
    have jp : k1 271 34 = G.2.2.1.1 := M1.2.2.1.1
    have ji : k1 271 28 = G.2.1.1 := M1.2.1.1
    exact fun z3 e3 => fun z4 e4 => (have f4 := wr_f e4; fun z5 e5 => ⟨fun q1 => (have r1 := xl_lt e5 q1; fun z6 e6 => fun z7 e7 => fun z8 e8 => fun k2 ek2 => rc_k e6 e7 e8 ek2 (kp_st ek1 (by decide) (fun _ => rfl)) (by omega)), fun q1 => (have r1 := xl_ge e5 q1; fun z6 e6 => ⟨fun q2 => (have r2 := xl_gt e6 q2; fun z7 e7 => fun z8 e8 => fun z9 e9 => fun k2 ek2 => rc_k e7 e8 e9 ek2 (kp_st ek1 (by decide) (fun _ => rfl)) (by omega)), fun q2 => (have r2 := xl_le e6 q2; fun z7 e7 => ⟨fun q3 => (have r3 := xl_lt e7 q3; fun z8 e8 => fun z9 e9 => fun z10 e10 => fun k2 ek2 => rc_k e8 e9 e10 ek2 (kp_st ek1 (by decide) (fun _ => rfl)) (by omega)), fun q3 => (have r3 := xl_ge e7 q3; fun z8 e8 => ⟨fun q4 => (have r4 := xl_gt e8 q4; fun z9 e9 => fun z10 e10 => fun z11 e11 => fun k2 ek2 => rc_k e9 e10 e11 ek2 (kp_st ek1 (by decide) (fun _ => rfl)) (by omega)), fun q4 => (have r4 := xl_le e8 q4; fun z9 e9 => fun k2 ek2 => fun k3 ek3 => rc_0 (kp_st ek3 (by decide) (kp_st ek2 (by decide) (kp_st ek1 (by decide) (fun _ => rfl)))) (by omega))⟩)⟩)⟩)⟩)
theorem km_believes (hs : fS 191 [271, x, y, z] h v h') (M : MJ G h) (W : GW G) : rc 285 h h' (if x < 0 ∨ G.1 0 ≤ x ∨ y < 0 ∨ 4 < y then 1 else if z < 0 then 4 else if 9 < z then 6 else 0) := by
  have hB := W.1.1.1
  have hD := W.1.2
  have hL := W.2.2.2.1.1
  have hP := W.2.2.1.1
  have hI := W.2.1.1
  have hL2 := W.2.2.2.1.2.1
  have hR := W.2.2.2.2.1
  have hR2 := W.2.2.2.2.2.1
  refine vr_believes hs (fun _ h' => rc 285 h h' (if x < 0 ∨ G.1 0 ≤ x ∨ y < 0 ∨ 4 < y then 1 else if z < 0 then 4 else if 9 < z then 6 else 0)) ?_
  · intro k1 ek1
    have M1 : MJ G k1 := by
      rw [ek1]
      exact M.up (by omega)
    have jm : k1 271 0 = G.1 0 := M1.1.many
    have jd : k1 271 15 = G.1 1 := M1.1.day
    have jo : k1 271 9 = G.1 2 := M1.1.opn
    have jl : k1 271 19 = G.2.2.2.1.1 := M1.2.2.2.1.1
    have jr : k1 271 38 = G.2.2.2.2.1 := M1.2.2.2.2.1
    have jp : k1 271 34 = G.2.2.1.1 := M1.2.2.1.1
    have ji : k1 271 28 = G.2.1.1 := M1.2.1.1
    exact fun z4 e4 => fun z5 e5 => (have f5 := wr_f e5; fun z6 e6 => ⟨fun q1 => (have r1 := xl_lt e6 q1; fun z7 e7 => fun z8 e8 => fun z9 e9 => fun k2 ek2 => rc_k e7 e8 e9 ek2 (kp_st ek1 (by decide) (fun _ => rfl)) (by omega)), fun q1 => (have r1 := xl_ge e6 q1; fun z7 e7 => ⟨fun q2 => (have r2 := xl_gt e7 q2; fun z8 e8 => fun z9 e9 => fun z10 e10 => fun k2 ek2 => rc_k e8 e9 e10 ek2 (kp_st ek1 (by decide) (fun _ => rfl)) (by omega)), fun q2 => (have r2 := xl_le e7 q2; fun z8 e8 => ⟨fun q3 => (have r3 := xl_lt e8 q3; fun z9 e9 => fun z10 e10 => fun z11 e11 => fun k2 ek2 => rc_k e9 e10 e11 ek2 (kp_st ek1 (by decide) (fun _ => rfl)) (by omega)), fun q3 => (have r3 := xl_ge e8 q3; fun z9 e9 => ⟨fun q4 => (have r4 := xl_gt e9 q4; fun z10 e10 => fun z11 e11 => fun z12 e12 => fun k2 ek2 => rc_k e10 e11 e12 ek2 (kp_st ek1 (by decide) (fun _ => rfl)) (by omega)), fun q4 => (have r4 := xl_le e9 q4; ⟨fun q5 => ⟨fun q6 => fun v2 k2 hs2 => fun z11 e11 => (have f11 := wr_f e11; fun z12 e12 => (have f12 := wr_f e12; fun z13 e13 => fun z14 e14 => (have f14 := wr_f e14; fun z15 e15 => (have f15 := wr_f e15; fun k3 ek3 => rc_0 (kp_st ek3 (by decide) (kp_cl (eK (fun _ => fe_vr_keepTurn) hs2 ⟨rfl, trivial⟩) (kp_st ek1 (by decide) (fun _ => rfl)))) (by omega))))), fun q6 => fun z10 e10 => fun z11 e11 => fun z12 e12 => fun k2 ek2 => rc_k e10 e11 e12 ek2 (kp_st ek1 (by decide) (fun _ => rfl)) (by omega)⟩, fun q5 => fun z10 e10 => fun z11 e11 => fun z12 e12 => fun k2 ek2 => rc_k e10 e11 e12 ek2 (kp_st ek1 (by decide) (fun _ => rfl)) (by omega)⟩)⟩)⟩)⟩)⟩)
theorem km_fixes (hs : fS 193 [271, x, y, z] h v h') (M : MJ G h) (W : GW G) : rc 285 h h' (if x < 0 ∨ 4 < x then 1 else if y < 1 ∨ z < 0 then 4 else if 9 < y ∨ 8 < z then 6 else 0) := by
  have hB := W.1.1.1
  have hD := W.1.2
  have hL := W.2.2.2.1.1
  have hP := W.2.2.1.1
  have hI := W.2.1.1
  have hL2 := W.2.2.2.1.2.1
  have hR := W.2.2.2.2.1
  have hR2 := W.2.2.2.2.2.1
  refine vr_fixes hs (fun _ h' => rc 285 h h' (if x < 0 ∨ 4 < x then 1 else if y < 1 ∨ z < 0 then 4 else if 9 < y ∨ 8 < z then 6 else 0)) ?_
  · intro k1 ek1
    have M1 : MJ G k1 := by
      rw [ek1]
      exact M.up (by omega)
    have jm : k1 271 0 = G.1 0 := M1.1.many
    have jd : k1 271 15 = G.1 1 := M1.1.day
    have jo : k1 271 9 = G.1 2 := M1.1.opn
    have jl : k1 271 19 = G.2.2.2.1.1 := M1.2.2.2.1.1
    have jr : k1 271 38 = G.2.2.2.2.1 := M1.2.2.2.2.1
    have jp : k1 271 34 = G.2.2.1.1 := M1.2.2.1.1
    have ji : k1 271 28 = G.2.1.1 := M1.2.1.1
    exact fun z4 e4 => ⟨fun q1 => (have r1 := xl_lt e4 q1; fun z5 e5 => fun z6 e6 => fun z7 e7 => fun k2 ek2 => rc_k e5 e6 e7 ek2 (kp_st ek1 (by decide) (fun _ => rfl)) (by omega)), fun q1 => (have r1 := xl_ge e4 q1; fun z5 e5 => ⟨fun q2 => (have r2 := xl_gt e5 q2; fun z6 e6 => fun z7 e7 => fun z8 e8 => fun k2 ek2 => rc_k e6 e7 e8 ek2 (kp_st ek1 (by decide) (fun _ => rfl)) (by omega)), fun q2 => (have r2 := xl_le e5 q2; ⟨fun q3 => fun z6 e6 => fun z7 e7 => fun z8 e8 => fun k2 ek2 => rc_k e6 e7 e8 ek2 (kp_st ek1 (by decide) (fun _ => rfl)) (by omega), fun q3 => ⟨fun q4 => ⟨fun q5 => fun z6 e6 => fun z7 e7 => fun z8 e8 => fun k2 ek2 => rc_k e6 e7 e8 ek2 (kp_st ek1 (by decide) (fun _ => rfl)) (by omega), fun q5 => ⟨fun q6 => fun v2 k2 hs2 => fun z7 e7 => fun z8 e8 => (have f8 := wr_f e8; fun z9 e9 => fun z10 e10 => (have f10 := wr_f e10; fun k3 ek3 => fun k4 ek4 => rc_0 (kp_st ek4 (by decide) (kp_st ek3 (by decide) (kp_cl (eK (fun _ => fe_vr_keepTurn) hs2 ⟨rfl, trivial⟩) (kp_st ek1 (by decide) (fun _ => rfl))))) (by omega))), fun q6 => fun z6 e6 => fun z7 e7 => fun z8 e8 => fun k2 ek2 => rc_k e6 e7 e8 ek2 (kp_st ek1 (by decide) (fun _ => rfl)) (by omega)⟩⟩, fun q4 => fun z6 e6 => fun z7 e7 => fun z8 e8 => fun k2 ek2 => rc_k e6 e7 e8 ek2 (kp_st ek1 (by decide) (fun _ => rfl)) (by omega)⟩⟩)⟩)⟩
theorem km_days (hs : fS 197 [271, x] h v h') (M : MJ G h) (W : GW G) : rc 285 h h' (if x < 1 then 4 else if 60 < x ∨ 999 < G.1 1 + x then 6 else 0) := by
  have hB := W.1.1.1
  have hD := W.1.2
  have hL := W.2.2.2.1.1
  have hP := W.2.2.1.1
  have hI := W.2.1.1
  have hL2 := W.2.2.2.1.2.1
  have hR := W.2.2.2.2.1
  have hR2 := W.2.2.2.2.2.1
  refine vr_days hs (fun _ h' => rc 285 h h' (if x < 1 then 4 else if 60 < x ∨ 999 < G.1 1 + x then 6 else 0)) ?_
  · intro k1 ek1
    have M1 : MJ G k1 := by
      rw [ek1]
      exact M.up (by omega)
    have jm : k1 271 0 = G.1 0 := M1.1.many
    have jd : k1 271 15 = G.1 1 := M1.1.day
    have jo : k1 271 9 = G.1 2 := M1.1.opn
    have jl : k1 271 19 = G.2.2.2.1.1 := M1.2.2.2.1.1
    have jr : k1 271 38 = G.2.2.2.2.1 := M1.2.2.2.2.1
    have jp : k1 271 34 = G.2.2.1.1 := M1.2.2.1.1
    have ji : k1 271 28 = G.2.1.1 := M1.2.1.1
    exact ⟨fun q1 => ⟨fun q2 => fun z2 e2 => fun z3 e3 => (have f3 := wr_f e3; ⟨fun q3 => fun v2 k2 hs2 => fun v3 k3 hs3 => fun v4 k4 hs4 => fun v5 k5 hs5 => rc_0 (kp_cl (eK (fun _ => fe_vr_onesOf) hs5 trivial) (kp_cl (eK (fun _ => fe_vr_wedBits) hs4 ⟨rfl, trivial⟩) (kp_cl (eK (fun _ => fe_vr_goDays) hs3 ⟨rfl, trivial⟩) (kp_cl (eK (fun _ => fe_vr_keepTurn) hs2 ⟨rfl, trivial⟩) (kp_st ek1 (by decide) (fun _ => rfl)))))) (by omega), fun q3 => fun z4 e4 => fun z5 e5 => fun z6 e6 => fun k2 ek2 => rc_k e4 e5 e6 ek2 (kp_st ek1 (by decide) (fun _ => rfl)) (by omega)⟩), fun q2 => fun z2 e2 => fun z3 e3 => fun z4 e4 => fun k2 ek2 => rc_k e2 e3 e4 ek2 (kp_st ek1 (by decide) (fun _ => rfl)) (by omega)⟩, fun q1 => fun z2 e2 => fun z3 e3 => fun z4 e4 => fun k2 ek2 => rc_k e2 e3 e4 ek2 (kp_st ek1 (by decide) (fun _ => rfl)) (by omega)⟩
theorem km_back (hs : fS 183 [271] h v h') (M : MJ G h) (W : GW G) : rc 285 h h' (if G.2.2.1.1 = 0 then 3 else 0) := by
  have hB := W.1.1.1
  have hD := W.1.2
  have hL := W.2.2.2.1.1
  have hP := W.2.2.1.1
  have hI := W.2.1.1
  have hL2 := W.2.2.2.1.2.1
  have hR := W.2.2.2.2.1
  have hR2 := W.2.2.2.2.2.1
  refine vr_back hs (fun x0 x1 q => 271 = x0 ∧ (∀ k, q 285 k = h 285 k) ∧ (if G.2.2.1.1 = 0 then 3 else 0 : Int) = 0) (fun _ h' => rc 285 h h' (if G.2.2.1.1 = 0 then 3 else 0)) ?_ ?_
  · intro k1 ek1
    have M1 : MJ G k1 := by
      rw [ek1]
      exact M.up (by omega)
    have jm : k1 271 0 = G.1 0 := M1.1.many
    have jd : k1 271 15 = G.1 1 := M1.1.day
    have jo : k1 271 9 = G.1 2 := M1.1.opn
    have jl : k1 271 19 = G.2.2.2.1.1 := M1.2.2.2.1.1
    have jr : k1 271 38 = G.2.2.2.2.1 := M1.2.2.2.2.1
    have jp : k1 271 34 = G.2.2.1.1 := M1.2.2.1.1
    have ji : k1 271 28 = G.2.1.1 := M1.2.1.1
    exact fun z1 e1 => ⟨fun q1 => fun z2 e2 => fun z3 e3 => (have f3 := wr_f e3; fun k2 ek2 => ⟨rfl, (kp_st ek2 (by decide) (kp_st ek1 (by decide) (fun _ => rfl))), (by omega)⟩), fun q1 => fun z2 e2 => fun z3 e3 => fun z4 e4 => fun k2 ek2 => rc_k e2 e3 e4 ek2 (kp_st ek1 (by decide) (fun _ => rfl)) (by omega)⟩
  · rintro x0 x1 q ⟨rfl, i1, i2⟩
    exact ⟨fun q1 => fun v1 k1 hs1 => fun z3 e3 => rc_0 (kp_cl (sd_carryAll hs1 (by decide)) i1) i2, fun q1 => fun z2 e2 => fun z3 e3 => fun z4 e4 => fun z5 e5 => fun k1 ek1 => fun z6 e6 => ⟨rfl, (kp_st ek1 (by decide) i1), i2⟩⟩
theorem km_image (hs : fS 181 [271] h v h') (M : MJ G h) (W : GW G) : rc 285 h h' (0) := by
  have hB := W.1.1.1
  have hD := W.1.2
  have hL := W.2.2.2.1.1
  have hP := W.2.2.1.1
  have hI := W.2.1.1
  have hL2 := W.2.2.2.1.2.1
  have hR := W.2.2.2.2.1
  have hR2 := W.2.2.2.2.2.1
  refine vr_image hs (fun _ h' => rc 285 h h' (0)) ?_
  · intro k1 ek1
    have M1 : MJ G k1 := by
      rw [ek1]
      exact M.up (by omega)
    have jm : k1 271 0 = G.1 0 := M1.1.many
    have jd : k1 271 15 = G.1 1 := M1.1.day
    have jo : k1 271 9 = G.1 2 := M1.1.opn
    have jl : k1 271 19 = G.2.2.2.1.1 := M1.2.2.2.1.1
    have jr : k1 271 38 = G.2.2.2.2.1 := M1.2.2.2.2.1
    have jp : k1 271 34 = G.2.2.1.1 := M1.2.2.1.1
    have ji : k1 271 28 = G.2.1.1 := M1.2.1.1
    exact fun k2 ek2 => fun v3 k3 hs3 => fun z2 e2 => rc_0 (kp_cl (sd_carryAll hs3 (by decide)) (kp_st ek2 (by decide) (kp_st ek1 (by decide) (fun _ => rfl)))) (by omega)
theorem km_restore (hs : fS 182 [271] h v h') (M : MJ G h) (W : GW G) : rc 285 h h' (if G.2.1.1 = 0 then 3 else 0) := by
  have hB := W.1.1.1
  have hD := W.1.2
  have hL := W.2.2.2.1.1
  have hP := W.2.2.1.1
  have hI := W.2.1.1
  have hL2 := W.2.2.2.1.2.1
  have hR := W.2.2.2.2.1
  have hR2 := W.2.2.2.2.2.1
  refine vr_restore hs (fun _ h' => rc 285 h h' (if G.2.1.1 = 0 then 3 else 0)) ?_
  · intro k1 ek1
    have M1 : MJ G k1 := by
      rw [ek1]
      exact M.up (by omega)
    have jm : k1 271 0 = G.1 0 := M1.1.many
    have jd : k1 271 15 = G.1 1 := M1.1.day
    have jo : k1 271 9 = G.1 2 := M1.1.opn
    have jl : k1 271 19 = G.2.2.2.1.1 := M1.2.2.2.1.1
    have jr : k1 271 38 = G.2.2.2.2.1 := M1.2.2.2.2.1
    have jp : k1 271 34 = G.2.2.1.1 := M1.2.2.1.1
    have ji : k1 271 28 = G.2.1.1 := M1.2.1.1
    exact fun z1 e1 => ⟨fun q1 => fun v2 k2 hs2 => fun k3 ek3 => fun z3 e3 => rc_0 (kp_st ek3 (by decide) (kp_cl (sd_carryAll hs2 (by decide)) (kp_st ek1 (by decide) (fun _ => rfl)))) (by omega), fun q1 => fun z2 e2 => fun z3 e3 => fun z4 e4 => fun k2 ek2 => rc_k e2 e3 e4 ek2 (kp_st ek1 (by decide) (fun _ => rfl)) (by omega)⟩
theorem km_personIn (hs : fS 200 [271, x, y, z] h v h') (M : MJ G h) (W : GW G) : rc 285 h h' (if x < 0 ∨ G.1 0 ≤ x then 1 else if y < 0 then 4 else if 60 < y then 6 else if z < 0 ∨ 1 < z then 2 else 0) := by
  have hB := W.1.1.1
  have hD := W.1.2
  have hL := W.2.2.2.1.1
  have hP := W.2.2.1.1
  have hI := W.2.1.1
  have hL2 := W.2.2.2.1.2.1
  have hR := W.2.2.2.2.1
  have hR2 := W.2.2.2.2.2.1
  refine vr_personIn hs (fun _ h' => rc 285 h h' (if x < 0 ∨ G.1 0 ≤ x then 1 else if y < 0 then 4 else if 60 < y then 6 else if z < 0 ∨ 1 < z then 2 else 0)) ?_
  · intro k1 ek1
    have M1 : MJ G k1 := by
      rw [ek1]
      exact M.up (by omega)
    have jm : k1 271 0 = G.1 0 := M1.1.many
    have jd : k1 271 15 = G.1 1 := M1.1.day
    have jo : k1 271 9 = G.1 2 := M1.1.opn
    have jl : k1 271 19 = G.2.2.2.1.1 := M1.2.2.2.1.1
    have jr : k1 271 38 = G.2.2.2.2.1 := M1.2.2.2.2.1
    have jp : k1 271 34 = G.2.2.1.1 := M1.2.2.1.1
    have ji : k1 271 28 = G.2.1.1 := M1.2.1.1
    exact fun z4 e4 => fun z5 e5 => (have f5 := wr_f e5; fun z6 e6 => ⟨fun q1 => (have r1 := xl_lt e6 q1; fun z7 e7 => fun z8 e8 => fun z9 e9 => fun k2 ek2 => rc_k e7 e8 e9 ek2 (kp_st ek1 (by decide) (fun _ => rfl)) (by omega)), fun q1 => (have r1 := xl_ge e6 q1; fun z7 e7 => ⟨fun q2 => (have r2 := xl_gt e7 q2; fun z8 e8 => fun z9 e9 => fun z10 e10 => fun k2 ek2 => rc_k e8 e9 e10 ek2 (kp_st ek1 (by decide) (fun _ => rfl)) (by omega)), fun q2 => (have r2 := xl_le e7 q2; ⟨fun q3 => ⟨fun q4 => fun z8 e8 => ⟨fun q5 => (have r5 := xl_lt e8 q5; fun z9 e9 => fun z10 e10 => fun z11 e11 => fun k2 ek2 => rc_k e9 e10 e11 ek2 (kp_st ek1 (by decide) (fun _ => rfl)) (by omega)), fun q5 => (have r5 := xl_ge e8 q5; fun z9 e9 => ⟨fun q6 => (have r6 := xl_gt e9 q6; fun z10 e10 => fun z11 e11 => fun z12 e12 => fun k2 ek2 => rc_k e10 e11 e12 ek2 (kp_st ek1 (by decide) (fun _ => rfl)) (by omega)), fun q6 => (have r6 := xl_le e9 q6; fun v2 k2 hs2 => fun v3 k3 hs3 => ⟨fun q7 => fun z12 e12 => ⟨fun q8 => fun z13 e13 => fun z14 e14 => (have f14 := wr_f e14; fun v4 k4 hs4 => rc_0 (kp_cl (sd_carryAll hs4 (by decide)) (kp_cl (eK (fun _ => fe_vr_goDays) hs3 ⟨rfl, trivial⟩) (kp_cl (sd_carryAll hs2 (by decide)) (kp_st ek1 (by decide) (fun _ => rfl))))) (by omega)), fun q8 => fun v4 k4 hs4 => rc_0 (kp_cl (sd_carryAll hs4 (by decide)) (kp_cl (eK (fun _ => fe_vr_goDays) hs3 ⟨rfl, trivial⟩) (kp_cl (sd_carryAll hs2 (by decide)) (kp_st ek1 (by decide) (fun _ => rfl))))) (by omega)⟩, fun q7 => fun z12 e12 => fun v4 k4 hs4 => rc_0 (kp_cl (sd_carryAll hs4 (by decide)) (kp_cl (eK (fun _ => fe_vr_goDays) hs3 ⟨rfl, trivial⟩) (kp_cl (sd_carryAll hs2 (by decide)) (kp_st ek1 (by decide) (fun _ => rfl))))) (by omega)⟩)⟩)⟩, fun q4 => fun z8 e8 => fun z9 e9 => fun z10 e10 => fun k2 ek2 => rc_k e8 e9 e10 ek2 (kp_st ek1 (by decide) (fun _ => rfl)) (by omega)⟩, fun q3 => fun z8 e8 => fun z9 e9 => fun z10 e10 => fun k2 ek2 => rc_k e8 e9 e10 ek2 (kp_st ek1 (by decide) (fun _ => rfl)) (by omega)⟩)⟩)⟩)
theorem km_beliefIn (hs : fS 201 [271, x, y, z] h v h') (M : MJ G h) (W : GW G) : rc 285 h h' (if x < 0 ∨ G.1 0 ≤ x ∨ y < 0 ∨ 4 < y then 1 else if z < 0 then 4 else if 60 < z then 6 else 0) := by
  have hB := W.1.1.1
  have hD := W.1.2
  have hL := W.2.2.2.1.1
  have hP := W.2.2.1.1
  have hI := W.2.1.1
  have hL2 := W.2.2.2.1.2.1
  have hR := W.2.2.2.2.1
  have hR2 := W.2.2.2.2.2.1
  refine vr_beliefIn hs (fun _ h' => rc 285 h h' (if x < 0 ∨ G.1 0 ≤ x ∨ y < 0 ∨ 4 < y then 1 else if z < 0 then 4 else if 60 < z then 6 else 0)) ?_
  · intro k1 ek1
    have M1 : MJ G k1 := by
      rw [ek1]
      exact M.up (by omega)
    have jm : k1 271 0 = G.1 0 := M1.1.many
    have jd : k1 271 15 = G.1 1 := M1.1.day
    have jo : k1 271 9 = G.1 2 := M1.1.opn
    have jl : k1 271 19 = G.2.2.2.1.1 := M1.2.2.2.1.1
    have jr : k1 271 38 = G.2.2.2.2.1 := M1.2.2.2.2.1
    have jp : k1 271 34 = G.2.2.1.1 := M1.2.2.1.1
    have ji : k1 271 28 = G.2.1.1 := M1.2.1.1
    exact fun z4 e4 => fun z5 e5 => (have f5 := wr_f e5; fun z6 e6 => ⟨fun q1 => (have r1 := xl_lt e6 q1; fun z7 e7 => fun z8 e8 => fun z9 e9 => fun k2 ek2 => rc_k e7 e8 e9 ek2 (kp_st ek1 (by decide) (fun _ => rfl)) (by omega)), fun q1 => (have r1 := xl_ge e6 q1; fun z7 e7 => ⟨fun q2 => (have r2 := xl_gt e7 q2; fun z8 e8 => fun z9 e9 => fun z10 e10 => fun k2 ek2 => rc_k e8 e9 e10 ek2 (kp_st ek1 (by decide) (fun _ => rfl)) (by omega)), fun q2 => (have r2 := xl_le e7 q2; fun z8 e8 => ⟨fun q3 => (have r3 := xl_lt e8 q3; fun z9 e9 => fun z10 e10 => fun z11 e11 => fun k2 ek2 => rc_k e9 e10 e11 ek2 (kp_st ek1 (by decide) (fun _ => rfl)) (by omega)), fun q3 => (have r3 := xl_ge e8 q3; fun z9 e9 => ⟨fun q4 => (have r4 := xl_gt e9 q4; fun z10 e10 => fun z11 e11 => fun z12 e12 => fun k2 ek2 => rc_k e10 e11 e12 ek2 (kp_st ek1 (by decide) (fun _ => rfl)) (by omega)), fun q4 => (have r4 := xl_le e9 q4; ⟨fun q5 => ⟨fun q6 => fun v2 k2 hs2 => rc_0 (kp_cl (eK (fun _ => fe_vr_beliefThen) hs2 ⟨rfl, trivial⟩) (kp_st ek1 (by decide) (fun _ => rfl))) (by omega), fun q6 => fun z10 e10 => fun z11 e11 => fun z12 e12 => fun k2 ek2 => rc_k e10 e11 e12 ek2 (kp_st ek1 (by decide) (fun _ => rfl)) (by omega)⟩, fun q5 => fun z10 e10 => fun z11 e11 => fun z12 e12 => fun k2 ek2 => rc_k e10 e11 e12 ek2 (kp_st ek1 (by decide) (fun _ => rfl)) (by omega)⟩)⟩)⟩)⟩)⟩)
theorem km_wedIn (hs : fS 203 [271, x] h v h') (M : MJ G h) (W : GW G) : rc 285 h h' (if x < 0 then 4 else if 60 < x then 6 else 0) := by
  have hB := W.1.1.1
  have hD := W.1.2
  have hL := W.2.2.2.1.1
  have hP := W.2.2.1.1
  have hI := W.2.1.1
  have hL2 := W.2.2.2.1.2.1
  have hR := W.2.2.2.2.1
  have hR2 := W.2.2.2.2.2.1
  refine vr_wedIn hs (fun _ h' => rc 285 h h' (if x < 0 then 4 else if 60 < x then 6 else 0)) ?_
  · intro k1 ek1
    have M1 : MJ G k1 := by
      rw [ek1]
      exact M.up (by omega)
    have jm : k1 271 0 = G.1 0 := M1.1.many
    have jd : k1 271 15 = G.1 1 := M1.1.day
    have jo : k1 271 9 = G.1 2 := M1.1.opn
    have jl : k1 271 19 = G.2.2.2.1.1 := M1.2.2.2.1.1
    have jr : k1 271 38 = G.2.2.2.2.1 := M1.2.2.2.2.1
    have jp : k1 271 34 = G.2.2.1.1 := M1.2.2.1.1
    have ji : k1 271 28 = G.2.1.1 := M1.2.1.1
    exact ⟨fun q1 => ⟨fun q2 => fun v2 k2 hs2 => fun v3 k3 hs3 => rc_0 (kp_cl (eK (fun _ => fe_vr_wedThen) hs3 ⟨rfl, trivial⟩) (kp_cl (sd_carryAll hs2 (by decide)) (kp_st ek1 (by decide) (fun _ => rfl)))) (by omega), fun q2 => fun z2 e2 => fun z3 e3 => fun z4 e4 => fun k2 ek2 => rc_k e2 e3 e4 ek2 (kp_st ek1 (by decide) (fun _ => rfl)) (by omega)⟩, fun q1 => fun z2 e2 => fun z3 e3 => fun z4 e4 => fun k2 ek2 => rc_k e2 e3 e4 ek2 (kp_st ek1 (by decide) (fun _ => rfl)) (by omega)⟩
theorem km_wedWhen (hs : fS 205 [271, x] h v h') (M : MJ G h) (W : GW G) : rc 285 h h' (if x < -1 ∨ G.1 0 ≤ x then 1 else 0) := by
  have hB := W.1.1.1
  have hD := W.1.2
  have hL := W.2.2.2.1.1
  have hP := W.2.2.1.1
  have hI := W.2.1.1
  have hL2 := W.2.2.2.1.2.1
  have hR := W.2.2.2.2.1
  have hR2 := W.2.2.2.2.2.1
  refine vr_wedWhen hs (fun x0 x2 x3 x4 q => 271 = x0 ∧ (∀ k, q 285 k = h 285 k) ∧ (if x < -1 ∨ G.1 0 ≤ x then 1 else 0 : Int) = 0) (fun _ h' => rc 285 h h' (if x < -1 ∨ G.1 0 ≤ x then 1 else 0)) ?_ ?_
  · intro k1 ek1
    have M1 : MJ G k1 := by
      rw [ek1]
      exact M.up (by omega)
    have jm : k1 271 0 = G.1 0 := M1.1.many
    have jd : k1 271 15 = G.1 1 := M1.1.day
    have jo : k1 271 9 = G.1 2 := M1.1.opn
    have jl : k1 271 19 = G.2.2.2.1.1 := M1.2.2.2.1.1
    have jr : k1 271 38 = G.2.2.2.2.1 := M1.2.2.2.2.1
    have jp : k1 271 34 = G.2.2.1.1 := M1.2.2.1.1
    have ji : k1 271 28 = G.2.1.1 := M1.2.1.1
    exact fun z2 e2 => fun z3 e3 => (have f3 := wr_f e3; fun z4 e4 => ⟨fun q1 => (have r1 := xl_lt e4 q1; fun z5 e5 => fun z6 e6 => fun z7 e7 => fun k2 ek2 => rc_k e5 e6 e7 ek2 (kp_st ek1 (by decide) (fun _ => rfl)) (by omega)), fun q1 => (have r1 := xl_ge e4 q1; fun z5 e5 => ⟨fun q2 => (have r2 := xl_gt e5 q2; fun z6 e6 => fun z7 e7 => fun z8 e8 => fun k2 ek2 => rc_k e6 e7 e8 ek2 (kp_st ek1 (by decide) (fun _ => rfl)) (by omega)), fun q2 => (have r2 := xl_le e5 q2; ⟨fun q3 => ⟨rfl, (kp_st ek1 (by decide) (fun _ => rfl)), (by omega)⟩, fun q3 => fun v2 k2 hs2 => ⟨fun q4 => rc_0 (kp_cl (eK (fun _ => fe_vr_wedSoon) hs2 ⟨rfl, trivial⟩) (kp_st ek1 (by decide) (fun _ => rfl))) (by omega), fun q4 => rc_0 (kp_cl (eK (fun _ => fe_vr_wedSoon) hs2 ⟨rfl, trivial⟩) (kp_st ek1 (by decide) (fun _ => rfl))) (by omega)⟩⟩)⟩)⟩)
  · rintro x0 x2 x3 x4 q ⟨rfl, i1, i2⟩
    exact fun z4 e4 => ⟨fun q1 => rc_0 i1 i2, fun q1 => fun z5 e5 => ⟨fun q2 => fun v1 k1 hs1 => ⟨fun q3 => ⟨fun q4 => fun z7 e7 => ⟨rfl, (kp_cl (eK (fun _ => fe_vr_wedSoon) hs1 ⟨rfl, trivial⟩) i1), i2⟩, fun q4 => fun z7 e7 => ⟨rfl, (kp_cl (eK (fun _ => fe_vr_wedSoon) hs1 ⟨rfl, trivial⟩) i1), i2⟩⟩, fun q3 => ⟨fun q5 => fun z7 e7 => ⟨rfl, (kp_cl (eK (fun _ => fe_vr_wedSoon) hs1 ⟨rfl, trivial⟩) i1), i2⟩, fun q5 => fun z7 e7 => ⟨rfl, (kp_cl (eK (fun _ => fe_vr_wedSoon) hs1 ⟨rfl, trivial⟩) i1), i2⟩⟩⟩, fun q2 => ⟨fun q6 => ⟨fun q7 => fun z6 e6 => ⟨rfl, i1, i2⟩, fun q7 => fun z6 e6 => ⟨rfl, i1, i2⟩⟩, fun q6 => ⟨fun q8 => fun z6 e6 => ⟨rfl, i1, i2⟩, fun q8 => fun z6 e6 => ⟨rfl, i1, i2⟩⟩⟩⟩⟩
theorem km_happens (hs : fS 207 [271, x, y] h v h') (M : MJ G h) (W : GW G) : rc 285 h h' (if x < 0 ∨ 4 < x then 1 else if y < 0 then 4 else if 60 < y then 6 else 0) := by
  have hB := W.1.1.1
  have hD := W.1.2
  have hL := W.2.2.2.1.1
  have hP := W.2.2.1.1
  have hI := W.2.1.1
  have hL2 := W.2.2.2.1.2.1
  have hR := W.2.2.2.2.1
  have hR2 := W.2.2.2.2.2.1
  refine vr_happens hs (fun x0 x1 x2 x4 x5 q => 271 = x0 ∧ (∀ k, q 285 k = h 285 k) ∧ (if x < 0 ∨ 4 < x then 1 else if y < 0 then 4 else if 60 < y then 6 else 0 : Int) = 0) (fun _ h' => rc 285 h h' (if x < 0 ∨ 4 < x then 1 else if y < 0 then 4 else if 60 < y then 6 else 0)) ?_ ?_
  · intro k1 ek1
    have M1 : MJ G k1 := by
      rw [ek1]
      exact M.up (by omega)
    have jm : k1 271 0 = G.1 0 := M1.1.many
    have jd : k1 271 15 = G.1 1 := M1.1.day
    have jo : k1 271 9 = G.1 2 := M1.1.opn
    have jl : k1 271 19 = G.2.2.2.1.1 := M1.2.2.2.1.1
    have jr : k1 271 38 = G.2.2.2.2.1 := M1.2.2.2.2.1
    have jp : k1 271 34 = G.2.2.1.1 := M1.2.2.1.1
    have ji : k1 271 28 = G.2.1.1 := M1.2.1.1
    exact fun z3 e3 => ⟨fun q1 => (have r1 := xl_lt e3 q1; fun z4 e4 => fun z5 e5 => fun z6 e6 => fun k2 ek2 => rc_k e4 e5 e6 ek2 (kp_st ek1 (by decide) (fun _ => rfl)) (by omega)), fun q1 => (have r1 := xl_ge e3 q1; fun z4 e4 => ⟨fun q2 => (have r2 := xl_gt e4 q2; fun z5 e5 => fun z6 e6 => fun z7 e7 => fun k2 ek2 => rc_k e5 e6 e7 ek2 (kp_st ek1 (by decide) (fun _ => rfl)) (by omega)), fun q2 => (have r2 := xl_le e4 q2; ⟨fun q3 => ⟨fun q4 => ⟨rfl, (kp_st ek1 (by decide) (fun _ => rfl)), (by omega)⟩, fun q4 => fun z5 e5 => fun z6 e6 => fun z7 e7 => fun k2 ek2 => rc_k e5 e6 e7 ek2 (kp_st ek1 (by decide) (fun _ => rfl)) (by omega)⟩, fun q3 => fun z5 e5 => fun z6 e6 => fun z7 e7 => fun k2 ek2 => rc_k e5 e6 e7 ek2 (kp_st ek1 (by decide) (fun _ => rfl)) (by omega)⟩)⟩)⟩
  · rintro x0 x1 x2 x4 x5 q ⟨rfl, i1, i2⟩
    exact ⟨fun q1 => rc_0 i1 i2, fun q1 => fun z5 e5 => fun z6 e6 => fun z7 e7 => fun z8 e8 => fun z9 e9 => fun z10 e10 => ⟨fun q2 => fun z11 e11 => fun z12 e12 => ⟨rfl, i1, i2⟩, fun q2 => fun z11 e11 => fun z12 e12 => ⟨rfl, i1, i2⟩⟩⟩
theorem km_bet (hs : fS 208 [271, x, y] h v h') (M : MJ G h) (W : GW G) : rc 285 h h' (if x < 0 ∨ G.1 0 ≤ x ∨ y < 0 ∨ G.1 0 ≤ y ∨ x = y then 1 else 0) := by
  have hB := W.1.1.1
  have hD := W.1.2
  have hL := W.2.2.2.1.1
  have hP := W.2.2.1.1
  have hI := W.2.1.1
  have hL2 := W.2.2.2.1.2.1
  have hR := W.2.2.2.2.1
  have hR2 := W.2.2.2.2.2.1
  refine vr_bet hs (fun _ h' => rc 285 h h' (if x < 0 ∨ G.1 0 ≤ x ∨ y < 0 ∨ G.1 0 ≤ y ∨ x = y then 1 else 0)) ?_
  · intro k1 ek1
    have M1 : MJ G k1 := by
      rw [ek1]
      exact M.up (by omega)
    have jm : k1 271 0 = G.1 0 := M1.1.many
    have jd : k1 271 15 = G.1 1 := M1.1.day
    have jo : k1 271 9 = G.1 2 := M1.1.opn
    have jl : k1 271 19 = G.2.2.2.1.1 := M1.2.2.2.1.1
    have jr : k1 271 38 = G.2.2.2.2.1 := M1.2.2.2.2.1
    have jp : k1 271 34 = G.2.2.1.1 := M1.2.2.1.1
    have ji : k1 271 28 = G.2.1.1 := M1.2.1.1
    exact fun z3 e3 => fun z4 e4 => (have f4 := wr_f e4; fun z5 e5 => ⟨fun q1 => (have r1 := xl_lt e5 q1; fun z6 e6 => fun z7 e7 => fun z8 e8 => fun k2 ek2 => rc_k e6 e7 e8 ek2 (kp_st ek1 (by decide) (fun _ => rfl)) (by omega)), fun q1 => (have r1 := xl_ge e5 q1; fun z6 e6 => ⟨fun q2 => (have r2 := xl_gt e6 q2; fun z7 e7 => fun z8 e8 => fun z9 e9 => fun k2 ek2 => rc_k e7 e8 e9 ek2 (kp_st ek1 (by decide) (fun _ => rfl)) (by omega)), fun q2 => (have r2 := xl_le e6 q2; fun z7 e7 => fun z8 e8 => (have f8 := wr_f e8; fun z9 e9 => ⟨fun q3 => (have r3 := xl_lt e9 q3; fun z10 e10 => fun z11 e11 => fun z12 e12 => fun k2 ek2 => rc_k e10 e11 e12 ek2 (kp_st ek1 (by decide) (fun _ => rfl)) (by omega)), fun q3 => (have r3 := xl_ge e9 q3; fun z10 e10 => ⟨fun q4 => (have r4 := xl_gt e10 q4; fun z11 e11 => fun z12 e12 => fun z13 e13 => fun k2 ek2 => rc_k e11 e12 e13 ek2 (kp_st ek1 (by decide) (fun _ => rfl)) (by omega)), fun q4 => (have r4 := xl_le e10 q4; ⟨fun q5 => fun z11 e11 => fun z12 e12 => fun z13 e13 => fun k2 ek2 => rc_k e11 e12 e13 ek2 (kp_st ek1 (by decide) (fun _ => rfl)) (by omega), fun q5 => fun v2 k2 hs2 => rc_0 (kp_cl (eK (fun _ => fe_vr_betOf) hs2 ⟨rfl, trivial⟩) (kp_st ek1 (by decide) (fun _ => rfl))) (by omega)⟩)⟩)⟩))⟩)⟩)
theorem km_takers (hs : fS 211 [271, x, y, z] h v h') (M : MJ G h) (W : GW G) : rc 285 h h' (if x < 0 ∨ G.1 0 ≤ x ∨ y < 0 ∨ 4 < y then 1 else if z < 0 ∨ 1 < z then 2 else 0) := by
  have hB := W.1.1.1
  have hD := W.1.2
  have hL := W.2.2.2.1.1
  have hP := W.2.2.1.1
  have hI := W.2.1.1
  have hL2 := W.2.2.2.1.2.1
  have hR := W.2.2.2.2.1
  have hR2 := W.2.2.2.2.2.1
  refine vr_takers hs (fun x0 x1 x2 x3 x5 x6 q => 271 = x0 ∧ (∀ k, q 285 k = h 285 k) ∧ (if x < 0 ∨ G.1 0 ≤ x ∨ y < 0 ∨ 4 < y then 1 else if z < 0 ∨ 1 < z then 2 else 0 : Int) = 0) (fun _ h' => rc 285 h h' (if x < 0 ∨ G.1 0 ≤ x ∨ y < 0 ∨ 4 < y then 1 else if z < 0 ∨ 1 < z then 2 else 0)) ?_ ?_
  · intro k1 ek1
    have M1 : MJ G k1 := by
      rw [ek1]
      exact M.up (by omega)
    have jm : k1 271 0 = G.1 0 := M1.1.many
    have jd : k1 271 15 = G.1 1 := M1.1.day
    have jo : k1 271 9 = G.1 2 := M1.1.opn
    have jl : k1 271 19 = G.2.2.2.1.1 := M1.2.2.2.1.1
    have jr : k1 271 38 = G.2.2.2.2.1 := M1.2.2.2.2.1
    have jp : k1 271 34 = G.2.2.1.1 := M1.2.2.1.1
    have ji : k1 271 28 = G.2.1.1 := M1.2.1.1
    exact fun z4 e4 => fun z5 e5 => (have f5 := wr_f e5; fun z6 e6 => ⟨fun q1 => (have r1 := xl_lt e6 q1; fun z7 e7 => fun z8 e8 => fun z9 e9 => fun k2 ek2 => rc_k e7 e8 e9 ek2 (kp_st ek1 (by decide) (fun _ => rfl)) (by omega)), fun q1 => (have r1 := xl_ge e6 q1; fun z7 e7 => ⟨fun q2 => (have r2 := xl_gt e7 q2; fun z8 e8 => fun z9 e9 => fun z10 e10 => fun k2 ek2 => rc_k e8 e9 e10 ek2 (kp_st ek1 (by decide) (fun _ => rfl)) (by omega)), fun q2 => (have r2 := xl_le e7 q2; fun z8 e8 => ⟨fun q3 => (have r3 := xl_lt e8 q3; fun z9 e9 => fun z10 e10 => fun z11 e11 => fun k2 ek2 => rc_k e9 e10 e11 ek2 (kp_st ek1 (by decide) (fun _ => rfl)) (by omega)), fun q3 => (have r3 := xl_ge e8 q3; fun z9 e9 => ⟨fun q4 => (have r4 := xl_gt e9 q4; fun z10 e10 => fun z11 e11 => fun z12 e12 => fun k2 ek2 => rc_k e10 e11 e12 ek2 (kp_st ek1 (by decide) (fun _ => rfl)) (by omega)), fun q4 => (have r4 := xl_le e9 q4; fun z10 e10 => ⟨fun q5 => (have r5 := xl_lt e10 q5; fun z11 e11 => fun z12 e12 => fun z13 e13 => fun k2 ek2 => rc_k e11 e12 e13 ek2 (kp_st ek1 (by decide) (fun _ => rfl)) (by omega)), fun q5 => (have r5 := xl_ge e10 q5; fun z11 e11 => ⟨fun q6 => (have r6 := xl_gt e11 q6; fun z12 e12 => fun z13 e13 => fun z14 e14 => fun k2 ek2 => rc_k e12 e13 e14 ek2 (kp_st ek1 (by decide) (fun _ => rfl)) (by omega)), fun q6 => (have r6 := xl_le e11 q6; ⟨rfl, (kp_st ek1 (by decide) (fun _ => rfl)), (by omega)⟩)⟩)⟩)⟩)⟩)⟩)⟩)
  · rintro x0 x1 x2 x3 x5 x6 q ⟨rfl, i1, i2⟩
    exact fun z6 e6 => ⟨fun q1 => rc_0 i1 i2, fun q1 => ⟨fun q2 => fun z7 e7 => fun z8 e8 => ⟨rfl, i1, i2⟩, fun q2 => fun v1 k1 hs1 => ⟨fun q3 => fun z8 e8 => fun z9 e9 => ⟨rfl, (kp_cl (eK (fun _ => fe_vr_isTaking) hs1 ⟨rfl, trivial⟩) i1), i2⟩, fun q3 => fun z8 e8 => fun z9 e9 => fun z10 e10 => ⟨rfl, (kp_cl (eK (fun _ => fe_vr_isTaking) hs1 ⟨rfl, trivial⟩) i1), i2⟩⟩⟩⟩
theorem km_wooers (hs : fS 212 [271, x] h v h') (M : MJ G h) (W : GW G) : rc 285 h h' (if x < 0 ∨ G.1 0 ≤ x then 1 else 0) := by
  have hB := W.1.1.1
  have hD := W.1.2
  have hL := W.2.2.2.1.1
  have hP := W.2.2.1.1
  have hI := W.2.1.1
  have hL2 := W.2.2.2.1.2.1
  have hR := W.2.2.2.2.1
  have hR2 := W.2.2.2.2.2.1
  refine vr_wooers hs (fun _ h' => rc 285 h h' (if x < 0 ∨ G.1 0 ≤ x then 1 else 0)) ?_
  · intro k1 ek1
    have M1 : MJ G k1 := by
      rw [ek1]
      exact M.up (by omega)
    have jm : k1 271 0 = G.1 0 := M1.1.many
    have jd : k1 271 15 = G.1 1 := M1.1.day
    have jo : k1 271 9 = G.1 2 := M1.1.opn
    have jl : k1 271 19 = G.2.2.2.1.1 := M1.2.2.2.1.1
    have jr : k1 271 38 = G.2.2.2.2.1 := M1.2.2.2.2.1
    have jp : k1 271 34 = G.2.2.1.1 := M1.2.2.1.1
    have ji : k1 271 28 = G.2.1.1 := M1.2.1.1
    exact fun z2 e2 => fun z3 e3 => (have f3 := wr_f e3; fun z4 e4 => ⟨fun q1 => (have r1 := xl_lt e4 q1; fun z5 e5 => fun z6 e6 => fun z7 e7 => fun k2 ek2 => rc_k e5 e6 e7 ek2 (kp_st ek1 (by decide) (fun _ => rfl)) (by omega)), fun q1 => (have r1 := xl_ge e4 q1; fun z5 e5 => ⟨fun q2 => (have r2 := xl_gt e5 q2; fun z6 e6 => fun z7 e7 => fun z8 e8 => fun k2 ek2 => rc_k e6 e7 e8 ek2 (kp_st ek1 (by decide) (fun _ => rfl)) (by omega)), fun q2 => (have r2 := xl_le e5 q2; fun v2 k2 hs2 => rc_0 (kp_cl (eK (fun _ => fe_vr_wooersOf) hs2 ⟨rfl, trivial⟩) (kp_st ek1 (by decide) (fun _ => rfl))) (by omega))⟩)⟩)
theorem km_match (hs : fS 214 [271, x] h v h') (M : MJ G h) (W : GW G) : rc 285 h h' (if x < -1 ∨ G.1 0 ≤ x then 1 else 0) := by
  have hB := W.1.1.1
  have hD := W.1.2
  have hL := W.2.2.2.1.1
  have hP := W.2.2.1.1
  have hI := W.2.1.1
  have hL2 := W.2.2.2.1.2.1
  have hR := W.2.2.2.2.1
  have hR2 := W.2.2.2.2.2.1
  refine vr_match hs (fun x0 x1 x2 x3 x4 q => 271 = x0 ∧ (∀ k, q 285 k = h 285 k) ∧ (if x < -1 ∨ G.1 0 ≤ x then 1 else 0 : Int) = 0) (fun _ h' => rc 285 h h' (if x < -1 ∨ G.1 0 ≤ x then 1 else 0)) ?_ ?_
  · intro k1 ek1
    have M1 : MJ G k1 := by
      rw [ek1]
      exact M.up (by omega)
    have jm : k1 271 0 = G.1 0 := M1.1.many
    have jd : k1 271 15 = G.1 1 := M1.1.day
    have jo : k1 271 9 = G.1 2 := M1.1.opn
    have jl : k1 271 19 = G.2.2.2.1.1 := M1.2.2.2.1.1
    have jr : k1 271 38 = G.2.2.2.2.1 := M1.2.2.2.2.1
    have jp : k1 271 34 = G.2.2.1.1 := M1.2.2.1.1
    have ji : k1 271 28 = G.2.1.1 := M1.2.1.1
    exact fun z2 e2 => fun z3 e3 => (have f3 := wr_f e3; fun z4 e4 => ⟨fun q1 => (have r1 := xl_lt e4 q1; fun z5 e5 => fun z6 e6 => fun z7 e7 => fun k2 ek2 => rc_k e5 e6 e7 ek2 (kp_st ek1 (by decide) (fun _ => rfl)) (by omega)), fun q1 => (have r1 := xl_ge e4 q1; fun z5 e5 => ⟨fun q2 => (have r2 := xl_gt e5 q2; fun z6 e6 => fun z7 e7 => fun z8 e8 => fun k2 ek2 => rc_k e6 e7 e8 ek2 (kp_st ek1 (by decide) (fun _ => rfl)) (by omega)), fun q2 => (have r2 := xl_le e5 q2; fun v2 k2 hs2 => ⟨rfl, (kp_cl (eK (fun _ => fe_vr_layMatch) hs2 ⟨rfl, trivial⟩) (kp_st ek1 (by decide) (fun _ => rfl))), (by omega)⟩)⟩)⟩)
  · rintro x0 x1 x2 x3 x4 q ⟨rfl, i1, i2⟩
    exact fun z5 e5 => ⟨fun q1 => ⟨fun q2 => rc_0 i1 i2, fun q2 => fun z6 e6 => rc_0 i1 i2⟩, fun q1 => fun v1 k1 hs1 => ⟨fun q3 => ⟨fun q4 => ⟨fun q5 => fun z7 e7 => fun z8 e8 => ⟨rfl, (kp_cl (eK (fun _ => fe_vr_partnerOf) hs1 ⟨rfl, trivial⟩) i1), i2⟩, fun q5 => fun z7 e7 => fun z8 e8 => fun z9 e9 => fun z10 e10 => fun z11 e11 => ⟨rfl, (kp_cl (eK (fun _ => fe_vr_partnerOf) hs1 ⟨rfl, trivial⟩) i1), i2⟩⟩, fun q4 => ⟨fun q6 => ⟨fun q7 => fun z7 e7 => fun z8 e8 => ⟨rfl, (kp_cl (eK (fun _ => fe_vr_partnerOf) hs1 ⟨rfl, trivial⟩) i1), i2⟩, fun q7 => fun z7 e7 => fun z8 e8 => fun z9 e9 => fun z10 e10 => fun z11 e11 => ⟨rfl, (kp_cl (eK (fun _ => fe_vr_partnerOf) hs1 ⟨rfl, trivial⟩) i1), i2⟩⟩, fun q6 => ⟨fun q8 => fun z7 e7 => fun z8 e8 => ⟨rfl, (kp_cl (eK (fun _ => fe_vr_partnerOf) hs1 ⟨rfl, trivial⟩) i1), i2⟩, fun q8 => fun z7 e7 => fun z8 e8 => fun z9 e9 => fun z10 e10 => fun z11 e11 => ⟨rfl, (kp_cl (eK (fun _ => fe_vr_partnerOf) hs1 ⟨rfl, trivial⟩) i1), i2⟩⟩⟩⟩, fun q3 => ⟨fun q9 => ⟨fun q10 => ⟨fun q11 => fun z7 e7 => fun z8 e8 => ⟨rfl, (kp_cl (eK (fun _ => fe_vr_partnerOf) hs1 ⟨rfl, trivial⟩) i1), i2⟩, fun q11 => fun z7 e7 => fun z8 e8 => fun z9 e9 => fun z10 e10 => fun z11 e11 => ⟨rfl, (kp_cl (eK (fun _ => fe_vr_partnerOf) hs1 ⟨rfl, trivial⟩) i1), i2⟩⟩, fun q10 => ⟨fun q12 => ⟨fun q13 => fun z7 e7 => fun z8 e8 => ⟨rfl, (kp_cl (eK (fun _ => fe_vr_partnerOf) hs1 ⟨rfl, trivial⟩) i1), i2⟩, fun q13 => fun z7 e7 => fun z8 e8 => fun z9 e9 => fun z10 e10 => fun z11 e11 => ⟨rfl, (kp_cl (eK (fun _ => fe_vr_partnerOf) hs1 ⟨rfl, trivial⟩) i1), i2⟩⟩, fun q12 => ⟨fun q14 => fun z7 e7 => fun z8 e8 => ⟨rfl, (kp_cl (eK (fun _ => fe_vr_partnerOf) hs1 ⟨rfl, trivial⟩) i1), i2⟩, fun q14 => fun z7 e7 => fun z8 e8 => fun z9 e9 => fun z10 e10 => fun z11 e11 => ⟨rfl, (kp_cl (eK (fun _ => fe_vr_partnerOf) hs1 ⟨rfl, trivial⟩) i1), i2⟩⟩⟩⟩, fun q9 => ⟨fun q15 => fun z7 e7 => fun z8 e8 => ⟨rfl, (kp_cl (eK (fun _ => fe_vr_partnerOf) hs1 ⟨rfl, trivial⟩) i1), i2⟩, fun q15 => fun z7 e7 => fun z8 e8 => fun z9 e9 => fun z10 e10 => fun z11 e11 => ⟨rfl, (kp_cl (eK (fun _ => fe_vr_partnerOf) hs1 ⟨rfl, trivial⟩) i1), i2⟩⟩⟩⟩⟩
theorem km_fix (hs : fS 219 [271, x] h v h') (M : MJ G h) (W : GW G) : rc 285 h h' (if x < 0 then 4 else if 30 < x then 6 else 0) := by
  have hB := W.1.1.1
  have hD := W.1.2
  have hL := W.2.2.2.1.1
  have hP := W.2.2.1.1
  have hI := W.2.1.1
  have hL2 := W.2.2.2.1.2.1
  have hR := W.2.2.2.2.1
  have hR2 := W.2.2.2.2.2.1
  refine vr_fix hs (fun x0 x1 x3 x4 x5 q => 271 = x0 ∧ (∀ k, q 285 k = h 285 k) ∧ (if x < 0 then 4 else if 30 < x then 6 else 0 : Int) = 0) (fun _ h' => rc 285 h h' (if x < 0 then 4 else if 30 < x then 6 else 0)) ?_ ?_
  · intro k1 ek1
    have M1 : MJ G k1 := by
      rw [ek1]
      exact M.up (by omega)
    have jm : k1 271 0 = G.1 0 := M1.1.many
    have jd : k1 271 15 = G.1 1 := M1.1.day
    have jo : k1 271 9 = G.1 2 := M1.1.opn
    have jl : k1 271 19 = G.2.2.2.1.1 := M1.2.2.2.1.1
    have jr : k1 271 38 = G.2.2.2.2.1 := M1.2.2.2.2.1
    have jp : k1 271 34 = G.2.2.1.1 := M1.2.2.1.1
    have ji : k1 271 28 = G.2.1.1 := M1.2.1.1
    exact ⟨fun q1 => ⟨fun q2 => fun v2 k2 hs2 => fun v3 k3 hs3 => ⟨rfl, (kp_cl (eK (fun _ => fe_vr_wedThen) hs3 ⟨rfl, trivial⟩) (kp_cl (sd_carryAll hs2 (by decide)) (kp_st ek1 (by decide) (fun _ => rfl)))), (by omega)⟩, fun q2 => fun z2 e2 => fun z3 e3 => fun z4 e4 => fun k2 ek2 => rc_k e2 e3 e4 ek2 (kp_st ek1 (by decide) (fun _ => rfl)) (by omega)⟩, fun q1 => fun z2 e2 => fun z3 e3 => fun z4 e4 => fun k2 ek2 => rc_k e2 e3 e4 ek2 (kp_st ek1 (by decide) (fun _ => rfl)) (by omega)⟩
  · rintro x0 x1 x3 x4 x5 q ⟨rfl, i1, i2⟩
    exact ⟨fun q1 => rc_0 i1 i2, fun q1 => fun z5 e5 => fun z6 e6 => fun k1 ek1 => fun v2 k2 hs2 => ⟨fun q2 => ⟨fun q3 => fun z8 e8 => ⟨rfl, (kp_cl (eK (fun _ => fe_vr_wedThen) hs2 ⟨rfl, trivial⟩) (kp_st ek1 (by decide) i1)), i2⟩, fun q3 => fun z8 e8 => ⟨rfl, (kp_cl (eK (fun _ => fe_vr_wedThen) hs2 ⟨rfl, trivial⟩) (kp_st ek1 (by decide) i1)), i2⟩⟩, fun q2 => fun z8 e8 => fun z9 e9 => fun z10 e10 => fun z11 e11 => ⟨fun q4 => fun z12 e12 => ⟨rfl, (kp_cl (eK (fun _ => fe_vr_wedThen) hs2 ⟨rfl, trivial⟩) (kp_st ek1 (by decide) i1)), i2⟩, fun q4 => fun z12 e12 => ⟨rfl, (kp_cl (eK (fun _ => fe_vr_wedThen) hs2 ⟨rfl, trivial⟩) (kp_st ek1 (by decide) i1)), i2⟩⟩⟩⟩
theorem km_preach (hs : fS 220 [271, x] h v h') (M : MJ G h) (W : GW G) : rc 285 h h' (if x < 0 ∨ 4 < x then 1 else 0) := by
  have hB := W.1.1.1
  have hD := W.1.2
  have hL := W.2.2.2.1.1
  have hP := W.2.2.1.1
  have hI := W.2.1.1
  have hL2 := W.2.2.2.1.2.1
  have hR := W.2.2.2.2.1
  have hR2 := W.2.2.2.2.2.1
  refine vr_preach hs (fun x0 x1 x2 x3 x4 q => 271 = x0 ∧ (∀ k, q 285 k = h 285 k) ∧ (if x < 0 ∨ 4 < x then 1 else 0 : Int) = 0) (fun _ h' => rc 285 h h' (if x < 0 ∨ 4 < x then 1 else 0)) ?_ ?_
  · intro k1 ek1
    have M1 : MJ G k1 := by
      rw [ek1]
      exact M.up (by omega)
    have jm : k1 271 0 = G.1 0 := M1.1.many
    have jd : k1 271 15 = G.1 1 := M1.1.day
    have jo : k1 271 9 = G.1 2 := M1.1.opn
    have jl : k1 271 19 = G.2.2.2.1.1 := M1.2.2.2.1.1
    have jr : k1 271 38 = G.2.2.2.2.1 := M1.2.2.2.2.1
    have jp : k1 271 34 = G.2.2.1.1 := M1.2.2.1.1
    have ji : k1 271 28 = G.2.1.1 := M1.2.1.1
    exact fun z2 e2 => ⟨fun q1 => (have r1 := xl_lt e2 q1; fun z3 e3 => fun z4 e4 => fun z5 e5 => fun k2 ek2 => rc_k e3 e4 e5 ek2 (kp_st ek1 (by decide) (fun _ => rfl)) (by omega)), fun q1 => (have r1 := xl_ge e2 q1; fun z3 e3 => ⟨fun q2 => (have r2 := xl_gt e3 q2; fun z4 e4 => fun z5 e5 => fun z6 e6 => fun k2 ek2 => rc_k e4 e5 e6 ek2 (kp_st ek1 (by decide) (fun _ => rfl)) (by omega)), fun q2 => (have r2 := xl_le e3 q2; ⟨rfl, (kp_st ek1 (by decide) (fun _ => rfl)), (by omega)⟩)⟩)⟩
  · rintro x0 x1 x2 x3 x4 q ⟨rfl, i1, i2⟩
    exact fun z5 e5 => ⟨fun q1 => rc_0 i1 i2, fun q1 => fun v1 k1 hs1 => fun v2 k2 hs2 => fun z8 e8 => fun z9 e9 => fun z10 e10 => fun z11 e11 => fun z12 e12 => fun z13 e13 => fun k3 ek3 => fun v4 k4 hs4 => fun v5 k5 hs5 => fun z16 e16 => fun z17 e17 => fun z18 e18 => fun z19 e19 => fun z20 e20 => fun z21 e21 => fun k6 ek6 => ⟨fun q2 => ⟨fun q3 => fun z22 e22 => ⟨rfl, (kp_st ek6 (by decide) (kp_cl (eK (fun _ => fe_vr_onesOf) hs5 trivial) (kp_cl (eK (fun _ => fe_vr_wooersOf) hs4 ⟨rfl, trivial⟩) (kp_st ek3 (by decide) (kp_cl (eK (fun _ => fe_vr_onesOf) hs2 trivial) (kp_cl (eK (fun _ => fe_vr_wooersOf) hs1 ⟨rfl, trivial⟩) i1)))))), i2⟩, fun q3 => ⟨fun q4 => fun z22 e22 => ⟨rfl, (kp_st ek6 (by decide) (kp_cl (eK (fun _ => fe_vr_onesOf) hs5 trivial) (kp_cl (eK (fun _ => fe_vr_wooersOf) hs4 ⟨rfl, trivial⟩) (kp_st ek3 (by decide) (kp_cl (eK (fun _ => fe_vr_onesOf) hs2 trivial) (kp_cl (eK (fun _ => fe_vr_wooersOf) hs1 ⟨rfl, trivial⟩) i1)))))), i2⟩, fun q4 => fun z22 e22 => ⟨rfl, (kp_st ek6 (by decide) (kp_cl (eK (fun _ => fe_vr_onesOf) hs5 trivial) (kp_cl (eK (fun _ => fe_vr_wooersOf) hs4 ⟨rfl, trivial⟩) (kp_st ek3 (by decide) (kp_cl (eK (fun _ => fe_vr_onesOf) hs2 trivial) (kp_cl (eK (fun _ => fe_vr_wooersOf) hs1 ⟨rfl, trivial⟩) i1)))))), i2⟩⟩⟩, fun q2 => ⟨fun q5 => ⟨fun q6 => fun z22 e22 => ⟨rfl, (kp_st ek6 (by decide) (kp_cl (eK (fun _ => fe_vr_onesOf) hs5 trivial) (kp_cl (eK (fun _ => fe_vr_wooersOf) hs4 ⟨rfl, trivial⟩) (kp_st ek3 (by decide) (kp_cl (eK (fun _ => fe_vr_onesOf) hs2 trivial) (kp_cl (eK (fun _ => fe_vr_wooersOf) hs1 ⟨rfl, trivial⟩) i1)))))), i2⟩, fun q6 => ⟨fun q7 => fun z22 e22 => ⟨rfl, (kp_st ek6 (by decide) (kp_cl (eK (fun _ => fe_vr_onesOf) hs5 trivial) (kp_cl (eK (fun _ => fe_vr_wooersOf) hs4 ⟨rfl, trivial⟩) (kp_st ek3 (by decide) (kp_cl (eK (fun _ => fe_vr_onesOf) hs2 trivial) (kp_cl (eK (fun _ => fe_vr_wooersOf) hs1 ⟨rfl, trivial⟩) i1)))))), i2⟩, fun q7 => fun z22 e22 => ⟨rfl, (kp_st ek6 (by decide) (kp_cl (eK (fun _ => fe_vr_onesOf) hs5 trivial) (kp_cl (eK (fun _ => fe_vr_wooersOf) hs4 ⟨rfl, trivial⟩) (kp_st ek3 (by decide) (kp_cl (eK (fun _ => fe_vr_onesOf) hs2 trivial) (kp_cl (eK (fun _ => fe_vr_wooersOf) hs1 ⟨rfl, trivial⟩) i1)))))), i2⟩⟩⟩, fun q5 => ⟨fun q8 => fun z22 e22 => ⟨rfl, (kp_st ek6 (by decide) (kp_cl (eK (fun _ => fe_vr_onesOf) hs5 trivial) (kp_cl (eK (fun _ => fe_vr_wooersOf) hs4 ⟨rfl, trivial⟩) (kp_st ek3 (by decide) (kp_cl (eK (fun _ => fe_vr_onesOf) hs2 trivial) (kp_cl (eK (fun _ => fe_vr_wooersOf) hs1 ⟨rfl, trivial⟩) i1)))))), i2⟩, fun q8 => ⟨fun q9 => fun z22 e22 => ⟨rfl, (kp_st ek6 (by decide) (kp_cl (eK (fun _ => fe_vr_onesOf) hs5 trivial) (kp_cl (eK (fun _ => fe_vr_wooersOf) hs4 ⟨rfl, trivial⟩) (kp_st ek3 (by decide) (kp_cl (eK (fun _ => fe_vr_onesOf) hs2 trivial) (kp_cl (eK (fun _ => fe_vr_wooersOf) hs1 ⟨rfl, trivial⟩) i1)))))), i2⟩, fun q9 => fun z22 e22 => ⟨rfl, (kp_st ek6 (by decide) (kp_cl (eK (fun _ => fe_vr_onesOf) hs5 trivial) (kp_cl (eK (fun _ => fe_vr_wooersOf) hs4 ⟨rfl, trivial⟩) (kp_st ek3 (by decide) (kp_cl (eK (fun _ => fe_vr_onesOf) hs2 trivial) (kp_cl (eK (fun _ => fe_vr_wooersOf) hs1 ⟨rfl, trivial⟩) i1)))))), i2⟩⟩⟩⟩⟩⟩
theorem km_fair (hs : fS 221 [271, x] h v h') (M : MJ G h) (W : GW G) : rc 285 h h' (if x < 0 ∨ 1 < x then 2 else 0) := by
  have hB := W.1.1.1
  have hD := W.1.2
  have hL := W.2.2.2.1.1
  have hP := W.2.2.1.1
  have hI := W.2.1.1
  have hL2 := W.2.2.2.1.2.1
  have hR := W.2.2.2.2.1
  have hR2 := W.2.2.2.2.2.1
  refine vr_fair hs (fun x0 x1 x2 x3 x4 q => 271 = x0 ∧ (∀ k, q 285 k = h 285 k) ∧ (if x < 0 ∨ 1 < x then 2 else 0 : Int) = 0) (fun _ h' => rc 285 h h' (if x < 0 ∨ 1 < x then 2 else 0)) ?_ ?_
  · intro k1 ek1
    have M1 : MJ G k1 := by
      rw [ek1]
      exact M.up (by omega)
    have jm : k1 271 0 = G.1 0 := M1.1.many
    have jd : k1 271 15 = G.1 1 := M1.1.day
    have jo : k1 271 9 = G.1 2 := M1.1.opn
    have jl : k1 271 19 = G.2.2.2.1.1 := M1.2.2.2.1.1
    have jr : k1 271 38 = G.2.2.2.2.1 := M1.2.2.2.2.1
    have jp : k1 271 34 = G.2.2.1.1 := M1.2.2.1.1
    have ji : k1 271 28 = G.2.1.1 := M1.2.1.1
    exact fun z2 e2 => ⟨fun q1 => (have r1 := xl_lt e2 q1; fun z3 e3 => fun z4 e4 => fun z5 e5 => fun k2 ek2 => rc_k e3 e4 e5 ek2 (kp_st ek1 (by decide) (fun _ => rfl)) (by omega)), fun q1 => (have r1 := xl_ge e2 q1; fun z3 e3 => ⟨fun q2 => (have r2 := xl_gt e3 q2; fun z4 e4 => fun z5 e5 => fun z6 e6 => fun k2 ek2 => rc_k e4 e5 e6 ek2 (kp_st ek1 (by decide) (fun _ => rfl)) (by omega)), fun q2 => (have r2 := xl_le e3 q2; ⟨rfl, (kp_st ek1 (by decide) (fun _ => rfl)), (by omega)⟩)⟩)⟩
  · rintro x0 x1 x2 x3 x4 q ⟨rfl, i1, i2⟩
    exact fun z5 e5 => ⟨fun q1 => ⟨fun q2 => rc_0 i1 i2, fun q2 => rc_0 i1 i2⟩, fun q1 => fun z6 e6 => fun z7 e7 => fun z8 e8 => fun v1 k1 hs1 => fun z10 e10 => fun z11 e11 => fun v2 k2 hs2 => ⟨fun q3 => fun z13 e13 => fun z14 e14 => fun z15 e15 => fun z16 e16 => fun z17 e17 => fun v3 k3 hs3 => ⟨fun q4 => fun z19 e19 => fun z20 e20 => ⟨rfl, (kp_cl (eK (fun _ => fe_vr_isLost) hs3 ⟨rfl, trivial⟩) (kp_cl (eK (fun _ => fe_vr_trustOf) hs2 ⟨rfl, trivial⟩) (kp_cl (eK (fun _ => fe_vr_trustOf) hs1 ⟨rfl, trivial⟩) i1))), i2⟩, fun q4 => fun z19 e19 => fun z20 e20 => fun z21 e21 => ⟨rfl, (kp_cl (eK (fun _ => fe_vr_isLost) hs3 ⟨rfl, trivial⟩) (kp_cl (eK (fun _ => fe_vr_trustOf) hs2 ⟨rfl, trivial⟩) (kp_cl (eK (fun _ => fe_vr_trustOf) hs1 ⟨rfl, trivial⟩) i1))), i2⟩⟩, fun q3 => fun z13 e13 => fun z14 e14 => fun z15 e15 => fun z16 e16 => fun z17 e17 => fun z18 e18 => fun v3 k3 hs3 => ⟨fun q5 => fun z20 e20 => fun z21 e21 => ⟨rfl, (kp_cl (eK (fun _ => fe_vr_isLost) hs3 ⟨rfl, trivial⟩) (kp_cl (eK (fun _ => fe_vr_trustOf) hs2 ⟨rfl, trivial⟩) (kp_cl (eK (fun _ => fe_vr_trustOf) hs1 ⟨rfl, trivial⟩) i1))), i2⟩, fun q5 => fun z20 e20 => fun z21 e21 => fun z22 e22 => ⟨rfl, (kp_cl (eK (fun _ => fe_vr_isLost) hs3 ⟨rfl, trivial⟩) (kp_cl (eK (fun _ => fe_vr_trustOf) hs2 ⟨rfl, trivial⟩) (kp_cl (eK (fun _ => fe_vr_trustOf) hs1 ⟨rfl, trivial⟩) i1))), i2⟩⟩⟩⟩
theorem km_hedge (hs : fS 222 [271, x, y] h v h') (M : MJ G h) (W : GW G) : rc 285 h h' (if x < 0 ∨ y < 0 then 4 else if 99 < x ∨ 30 < y then 6 else 0) := by
  have hB := W.1.1.1
  have hD := W.1.2
  have hL := W.2.2.2.1.1
  have hP := W.2.2.1.1
  have hI := W.2.1.1
  have hL2 := W.2.2.2.1.2.1
  have hR := W.2.2.2.2.1
  have hR2 := W.2.2.2.2.2.1
  refine vr_hedge hs (fun x0 x1 x2 x4 x5 x6 q => 271 = x0 ∧ (∀ k, q 285 k = h 285 k) ∧ (if x < 0 ∨ y < 0 then 4 else if 99 < x ∨ 30 < y then 6 else 0 : Int) = 0) (fun _ h' => rc 285 h h' (if x < 0 ∨ y < 0 then 4 else if 99 < x ∨ 30 < y then 6 else 0)) ?_ ?_
  · intro k1 ek1
    have M1 : MJ G k1 := by
      rw [ek1]
      exact M.up (by omega)
    have jm : k1 271 0 = G.1 0 := M1.1.many
    have jd : k1 271 15 = G.1 1 := M1.1.day
    have jo : k1 271 9 = G.1 2 := M1.1.opn
    have jl : k1 271 19 = G.2.2.2.1.1 := M1.2.2.2.1.1
    have jr : k1 271 38 = G.2.2.2.2.1 := M1.2.2.2.2.1
    have jp : k1 271 34 = G.2.2.1.1 := M1.2.2.1.1
    have ji : k1 271 28 = G.2.1.1 := M1.2.1.1
    exact ⟨fun q1 => fun z3 e3 => fun z4 e4 => fun z5 e5 => fun k2 ek2 => rc_k e3 e4 e5 ek2 (kp_st ek1 (by decide) (fun _ => rfl)) (by omega), fun q1 => ⟨fun q2 => ⟨fun q3 => fun z3 e3 => fun z4 e4 => fun z5 e5 => fun k2 ek2 => rc_k e3 e4 e5 ek2 (kp_st ek1 (by decide) (fun _ => rfl)) (by omega), fun q3 => ⟨fun q4 => fun v2 k2 hs2 => ⟨rfl, (kp_cl (sd_carryAll hs2 (by decide)) (kp_st ek1 (by decide) (fun _ => rfl))), (by omega)⟩, fun q4 => fun z3 e3 => fun z4 e4 => fun z5 e5 => fun k2 ek2 => rc_k e3 e4 e5 ek2 (kp_st ek1 (by decide) (fun _ => rfl)) (by omega)⟩⟩, fun q2 => fun z3 e3 => fun z4 e4 => fun z5 e5 => fun k2 ek2 => rc_k e3 e4 e5 ek2 (kp_st ek1 (by decide) (fun _ => rfl)) (by omega)⟩⟩
  · rintro x0 x1 x2 x4 x5 x6 q ⟨rfl, i1, i2⟩
    exact fun z6 e6 => fun z7 e7 => ⟨fun q1 => rc_0 i1 i2, fun q1 => fun v1 k1 hs1 => ⟨fun q2 => fun z9 e9 => ⟨rfl, (kp_cl (eK (fun _ => fe_vr_onesOf) hs1 trivial) i1), i2⟩, fun q2 => fun v2 k2 hs2 => ⟨fun q3 => fun z10 e10 => ⟨rfl, (kp_cl (eK (fun _ => fe_vr_tearsWithout) hs2 ⟨rfl, trivial⟩) (kp_cl (eK (fun _ => fe_vr_onesOf) hs1 trivial) i1)), i2⟩, fun q3 => fun v3 k3 hs3 => fun z11 e11 => ⟨rfl, (kp_cl (eK (fun _ => fe_vr_onesOf) hs3 trivial) (kp_cl (eK (fun _ => fe_vr_tearsWithout) hs2 ⟨rfl, trivial⟩) (kp_cl (eK (fun _ => fe_vr_onesOf) hs1 trivial) i1))), i2⟩⟩⟩⟩
theorem km_uponWhat (hs : fS 225 [271, x, y] h v h') (M : MJ G h) (W : GW G) : rc 285 h h' (if x < 0 ∨ G.1 0 ≤ x then 1 else if y < 0 ∨ 1 < y then 2 else 0) := by
  have hB := W.1.1.1
  have hD := W.1.2
  have hL := W.2.2.2.1.1
  have hP := W.2.2.1.1
  have hI := W.2.1.1
  have hL2 := W.2.2.2.1.2.1
  have hR := W.2.2.2.2.1
  have hR2 := W.2.2.2.2.2.1
  refine vr_uponWhat hs (fun x0 x1 x2 x4 x5 x6 q => 271 = x0 ∧ (∀ k, q 285 k = h 285 k) ∧ (if x < 0 ∨ G.1 0 ≤ x then 1 else if y < 0 ∨ 1 < y then 2 else 0 : Int) = 0) (fun _ h' => rc 285 h h' (if x < 0 ∨ G.1 0 ≤ x then 1 else if y < 0 ∨ 1 < y then 2 else 0)) ?_ ?_
  · intro k1 ek1
    have M1 : MJ G k1 := by
      rw [ek1]
      exact M.up (by omega)
    have jm : k1 271 0 = G.1 0 := M1.1.many
    have jd : k1 271 15 = G.1 1 := M1.1.day
    have jo : k1 271 9 = G.1 2 := M1.1.opn
    have jl : k1 271 19 = G.2.2.2.1.1 := M1.2.2.2.1.1
    have jr : k1 271 38 = G.2.2.2.2.1 := M1.2.2.2.2.1
    have jp : k1 271 34 = G.2.2.1.1 := M1.2.2.1.1
    have ji : k1 271 28 = G.2.1.1 := M1.2.1.1
    exact fun z3 e3 => fun z4 e4 => (have f4 := wr_f e4; fun z5 e5 => ⟨fun q1 => (have r1 := xl_lt e5 q1; fun z6 e6 => fun z7 e7 => fun z8 e8 => fun k2 ek2 => rc_k e6 e7 e8 ek2 (kp_st ek1 (by decide) (fun _ => rfl)) (by omega)), fun q1 => (have r1 := xl_ge e5 q1; fun z6 e6 => ⟨fun q2 => (have r2 := xl_gt e6 q2; fun z7 e7 => fun z8 e8 => fun z9 e9 => fun k2 ek2 => rc_k e7 e8 e9 ek2 (kp_st ek1 (by decide) (fun _ => rfl)) (by omega)), fun q2 => (have r2 := xl_le e6 q2; fun z7 e7 => ⟨fun q3 => (have r3 := xl_lt e7 q3; fun z8 e8 => fun z9 e9 => fun z10 e10 => fun k2 ek2 => rc_k e8 e9 e10 ek2 (kp_st ek1 (by decide) (fun _ => rfl)) (by omega)), fun q3 => (have r3 := xl_ge e7 q3; fun z8 e8 => ⟨fun q4 => (have r4 := xl_gt e8 q4; fun z9 e9 => fun z10 e10 => fun z11 e11 => fun k2 ek2 => rc_k e9 e10 e11 ek2 (kp_st ek1 (by decide) (fun _ => rfl)) (by omega)), fun q4 => (have r4 := xl_le e8 q4; fun v2 k2 hs2 => ⟨fun q5 => fun v3 k3 hs3 => ⟨rfl, (kp_cl (sd_carryAll hs3 (by decide)) (kp_cl (eK (fun _ => fe_vr_wagerWith) hs2 ⟨rfl, trivial⟩) (kp_st ek1 (by decide) (fun _ => rfl)))), (by omega)⟩, fun q5 => rc_0 (kp_cl (eK (fun _ => fe_vr_wagerWith) hs2 ⟨rfl, trivial⟩) (kp_st ek1 (by decide) (fun _ => rfl))) (by omega)⟩)⟩)⟩)⟩)⟩)
  · rintro x0 x1 x2 x4 x5 x6 q ⟨rfl, i1, i2⟩
    exact ⟨fun q1 => ⟨fun q2 => rc_0 i1 i2, fun q2 => ⟨fun q3 => fun z6 e6 => fun k1 ek1 => ⟨fun q4 => fun z7 e7 => fun k2 ek2 => fun v3 k3 hs3 => ⟨fun q5 => fun z9 e9 => fun z10 e10 => ⟨rfl, (kp_cl (eK (fun _ => fe_vr_isRow) hs3 ⟨rfl, trivial⟩) (kp_st ek2 (by decide) (kp_st ek1 (by decide) i1))), i2⟩, fun q5 => fun z9 e9 => fun z10 e10 => fun z11 e11 => ⟨rfl, (kp_cl (eK (fun _ => fe_vr_isRow) hs3 ⟨rfl, trivial⟩) (kp_st ek2 (by decide) (kp_st ek1 (by decide) i1))), i2⟩⟩, fun q4 => fun k2 ek2 => fun v3 k3 hs3 => ⟨fun q6 => fun z8 e8 => fun z9 e9 => ⟨rfl, (kp_cl (eK (fun _ => fe_vr_isRow) hs3 ⟨rfl, trivial⟩) (kp_st ek2 (by decide) (kp_st ek1 (by decide) i1))), i2⟩, fun q6 => fun z8 e8 => fun z9 e9 => fun z10 e10 => ⟨rfl, (kp_cl (eK (fun _ => fe_vr_isRow) hs3 ⟨rfl, trivial⟩) (kp_st ek2 (by decide) (kp_st ek1 (by decide) i1))), i2⟩⟩⟩, fun q3 => fun k1 ek1 => ⟨fun q7 => fun z6 e6 => fun k2 ek2 => fun v3 k3 hs3 => ⟨fun q8 => fun z8 e8 => fun z9 e9 => ⟨rfl, (kp_cl (eK (fun _ => fe_vr_isRow) hs3 ⟨rfl, trivial⟩) (kp_st ek2 (by decide) (kp_st ek1 (by decide) i1))), i2⟩, fun q8 => fun z8 e8 => fun z9 e9 => fun z10 e10 => ⟨rfl, (kp_cl (eK (fun _ => fe_vr_isRow) hs3 ⟨rfl, trivial⟩) (kp_st ek2 (by decide) (kp_st ek1 (by decide) i1))), i2⟩⟩, fun q7 => fun k2 ek2 => fun v3 k3 hs3 => ⟨fun q9 => fun z7 e7 => fun z8 e8 => ⟨rfl, (kp_cl (eK (fun _ => fe_vr_isRow) hs3 ⟨rfl, trivial⟩) (kp_st ek2 (by decide) (kp_st ek1 (by decide) i1))), i2⟩, fun q9 => fun z7 e7 => fun z8 e8 => fun z9 e9 => ⟨rfl, (kp_cl (eK (fun _ => fe_vr_isRow) hs3 ⟨rfl, trivial⟩) (kp_st ek2 (by decide) (kp_st ek1 (by decide) i1))), i2⟩⟩⟩⟩⟩, fun q1 => ⟨fun q10 => rc_0 i1 i2, fun q10 => ⟨fun q11 => fun z6 e6 => fun k1 ek1 => ⟨fun q12 => fun z7 e7 => fun k2 ek2 => fun v3 k3 hs3 => ⟨fun q13 => fun z9 e9 => fun z10 e10 => ⟨rfl, (kp_cl (eK (fun _ => fe_vr_isRow) hs3 ⟨rfl, trivial⟩) (kp_st ek2 (by decide) (kp_st ek1 (by decide) i1))), i2⟩, fun q13 => fun z9 e9 => fun z10 e10 => fun z11 e11 => ⟨rfl, (kp_cl (eK (fun _ => fe_vr_isRow) hs3 ⟨rfl, trivial⟩) (kp_st ek2 (by decide) (kp_st ek1 (by decide) i1))), i2⟩⟩, fun q12 => fun k2 ek2 => fun v3 k3 hs3 => ⟨fun q14 => fun z8 e8 => fun z9 e9 => ⟨rfl, (kp_cl (eK (fun _ => fe_vr_isRow) hs3 ⟨rfl, trivial⟩) (kp_st ek2 (by decide) (kp_st ek1 (by decide) i1))), i2⟩, fun q14 => fun z8 e8 => fun z9 e9 => fun z10 e10 => ⟨rfl, (kp_cl (eK (fun _ => fe_vr_isRow) hs3 ⟨rfl, trivial⟩) (kp_st ek2 (by decide) (kp_st ek1 (by decide) i1))), i2⟩⟩⟩, fun q11 => fun k1 ek1 => ⟨fun q15 => fun z6 e6 => fun k2 ek2 => fun v3 k3 hs3 => ⟨fun q16 => fun z8 e8 => fun z9 e9 => ⟨rfl, (kp_cl (eK (fun _ => fe_vr_isRow) hs3 ⟨rfl, trivial⟩) (kp_st ek2 (by decide) (kp_st ek1 (by decide) i1))), i2⟩, fun q16 => fun z8 e8 => fun z9 e9 => fun z10 e10 => ⟨rfl, (kp_cl (eK (fun _ => fe_vr_isRow) hs3 ⟨rfl, trivial⟩) (kp_st ek2 (by decide) (kp_st ek1 (by decide) i1))), i2⟩⟩, fun q15 => fun k2 ek2 => fun v3 k3 hs3 => ⟨fun q17 => fun z7 e7 => fun z8 e8 => ⟨rfl, (kp_cl (eK (fun _ => fe_vr_isRow) hs3 ⟨rfl, trivial⟩) (kp_st ek2 (by decide) (kp_st ek1 (by decide) i1))), i2⟩, fun q17 => fun z7 e7 => fun z8 e8 => fun z9 e9 => ⟨rfl, (kp_cl (eK (fun _ => fe_vr_isRow) hs3 ⟨rfl, trivial⟩) (kp_st ek2 (by decide) (kp_st ek1 (by decide) i1))), i2⟩⟩⟩⟩⟩⟩
theorem km_whatKind (hs : fS 228 [271, x, y] h v h') (M : MJ G h) (W : GW G) : rc 285 h h' (if x < 0 ∨ G.1 0 ≤ x then 1 else if y < 0 ∨ 1 < y then 2 else 0) := by
  have hB := W.1.1.1
  have hD := W.1.2
  have hL := W.2.2.2.1.1
  have hP := W.2.2.1.1
  have hI := W.2.1.1
  have hL2 := W.2.2.2.1.2.1
  have hR := W.2.2.2.2.1
  have hR2 := W.2.2.2.2.2.1
  refine vr_whatKind hs (fun x0 x1 x2 x4 x5 q => 271 = x0 ∧ (∀ k, q 285 k = h 285 k) ∧ (if x < 0 ∨ G.1 0 ≤ x then 1 else if y < 0 ∨ 1 < y then 2 else 0 : Int) = 0) (fun _ h' => rc 285 h h' (if x < 0 ∨ G.1 0 ≤ x then 1 else if y < 0 ∨ 1 < y then 2 else 0)) ?_ ?_
  · intro k1 ek1
    have M1 : MJ G k1 := by
      rw [ek1]
      exact M.up (by omega)
    have jm : k1 271 0 = G.1 0 := M1.1.many
    have jd : k1 271 15 = G.1 1 := M1.1.day
    have jo : k1 271 9 = G.1 2 := M1.1.opn
    have jl : k1 271 19 = G.2.2.2.1.1 := M1.2.2.2.1.1
    have jr : k1 271 38 = G.2.2.2.2.1 := M1.2.2.2.2.1
    have jp : k1 271 34 = G.2.2.1.1 := M1.2.2.1.1
    have ji : k1 271 28 = G.2.1.1 := M1.2.1.1
    exact fun z3 e3 => fun z4 e4 => (have f4 := wr_f e4; fun z5 e5 => ⟨fun q1 => (have r1 := xl_lt e5 q1; fun z6 e6 => fun z7 e7 => fun z8 e8 => fun k2 ek2 => rc_k e6 e7 e8 ek2 (kp_st ek1 (by decide) (fun _ => rfl)) (by omega)), fun q1 => (have r1 := xl_ge e5 q1; fun z6 e6 => ⟨fun q2 => (have r2 := xl_gt e6 q2; fun z7 e7 => fun z8 e8 => fun z9 e9 => fun k2 ek2 => rc_k e7 e8 e9 ek2 (kp_st ek1 (by decide) (fun _ => rfl)) (by omega)), fun q2 => (have r2 := xl_le e6 q2; fun z7 e7 => ⟨fun q3 => (have r3 := xl_lt e7 q3; fun z8 e8 => fun z9 e9 => fun z10 e10 => fun k2 ek2 => rc_k e8 e9 e10 ek2 (kp_st ek1 (by decide) (fun _ => rfl)) (by omega)), fun q3 => (have r3 := xl_ge e7 q3; fun z8 e8 => ⟨fun q4 => (have r4 := xl_gt e8 q4; fun z9 e9 => fun z10 e10 => fun z11 e11 => fun k2 ek2 => rc_k e9 e10 e11 ek2 (kp_st ek1 (by decide) (fun _ => rfl)) (by omega)), fun q4 => (have r4 := xl_le e8 q4; fun v2 k2 hs2 => ⟨rfl, (kp_cl (sd_carryAll hs2 (by decide)) (kp_st ek1 (by decide) (fun _ => rfl))), (by omega)⟩)⟩)⟩)⟩)⟩)
  · rintro x0 x1 x2 x4 x5 q ⟨rfl, i1, i2⟩
    exact ⟨fun q1 => ⟨fun q2 => rc_0 i1 i2, fun q2 => ⟨fun q3 => fun z5 e5 => fun k1 ek1 => ⟨fun q4 => fun z6 e6 => fun k2 ek2 => fun v3 k3 hs3 => ⟨fun q5 => fun z8 e8 => fun z9 e9 => ⟨rfl, (kp_cl (eK (fun _ => fe_vr_isRow) hs3 ⟨rfl, trivial⟩) (kp_st ek2 (by decide) (kp_st ek1 (by decide) i1))), i2⟩, fun q5 => fun z8 e8 => fun z9 e9 => fun z10 e10 => ⟨rfl, (kp_cl (eK (fun _ => fe_vr_isRow) hs3 ⟨rfl, trivial⟩) (kp_st ek2 (by decide) (kp_st ek1 (by decide) i1))), i2⟩⟩, fun q4 => fun k2 ek2 => fun v3 k3 hs3 => ⟨fun q6 => fun z7 e7 => fun z8 e8 => ⟨rfl, (kp_cl (eK (fun _ => fe_vr_isRow) hs3 ⟨rfl, trivial⟩) (kp_st ek2 (by decide) (kp_st ek1 (by decide) i1))), i2⟩, fun q6 => fun z7 e7 => fun z8 e8 => fun z9 e9 => ⟨rfl, (kp_cl (eK (fun _ => fe_vr_isRow) hs3 ⟨rfl, trivial⟩) (kp_st ek2 (by decide) (kp_st ek1 (by decide) i1))), i2⟩⟩⟩, fun q3 => fun k1 ek1 => ⟨fun q7 => fun z5 e5 => fun k2 ek2 => fun v3 k3 hs3 => ⟨fun q8 => fun z7 e7 => fun z8 e8 => ⟨rfl, (kp_cl (eK (fun _ => fe_vr_isRow) hs3 ⟨rfl, trivial⟩) (kp_st ek2 (by decide) (kp_st ek1 (by decide) i1))), i2⟩, fun q8 => fun z7 e7 => fun z8 e8 => fun z9 e9 => ⟨rfl, (kp_cl (eK (fun _ => fe_vr_isRow) hs3 ⟨rfl, trivial⟩) (kp_st ek2 (by decide) (kp_st ek1 (by decide) i1))), i2⟩⟩, fun q7 => fun k2 ek2 => fun v3 k3 hs3 => ⟨fun q9 => fun z6 e6 => fun z7 e7 => ⟨rfl, (kp_cl (eK (fun _ => fe_vr_isRow) hs3 ⟨rfl, trivial⟩) (kp_st ek2 (by decide) (kp_st ek1 (by decide) i1))), i2⟩, fun q9 => fun z6 e6 => fun z7 e7 => fun z8 e8 => ⟨rfl, (kp_cl (eK (fun _ => fe_vr_isRow) hs3 ⟨rfl, trivial⟩) (kp_st ek2 (by decide) (kp_st ek1 (by decide) i1))), i2⟩⟩⟩⟩⟩, fun q1 => ⟨fun q10 => rc_0 i1 i2, fun q10 => ⟨fun q11 => fun z5 e5 => fun k1 ek1 => ⟨fun q12 => fun z6 e6 => fun k2 ek2 => fun v3 k3 hs3 => ⟨fun q13 => fun z8 e8 => fun z9 e9 => ⟨rfl, (kp_cl (eK (fun _ => fe_vr_isRow) hs3 ⟨rfl, trivial⟩) (kp_st ek2 (by decide) (kp_st ek1 (by decide) i1))), i2⟩, fun q13 => fun z8 e8 => fun z9 e9 => fun z10 e10 => ⟨rfl, (kp_cl (eK (fun _ => fe_vr_isRow) hs3 ⟨rfl, trivial⟩) (kp_st ek2 (by decide) (kp_st ek1 (by decide) i1))), i2⟩⟩, fun q12 => fun k2 ek2 => fun v3 k3 hs3 => ⟨fun q14 => fun z7 e7 => fun z8 e8 => ⟨rfl, (kp_cl (eK (fun _ => fe_vr_isRow) hs3 ⟨rfl, trivial⟩) (kp_st ek2 (by decide) (kp_st ek1 (by decide) i1))), i2⟩, fun q14 => fun z7 e7 => fun z8 e8 => fun z9 e9 => ⟨rfl, (kp_cl (eK (fun _ => fe_vr_isRow) hs3 ⟨rfl, trivial⟩) (kp_st ek2 (by decide) (kp_st ek1 (by decide) i1))), i2⟩⟩⟩, fun q11 => fun k1 ek1 => ⟨fun q15 => fun z5 e5 => fun k2 ek2 => fun v3 k3 hs3 => ⟨fun q16 => fun z7 e7 => fun z8 e8 => ⟨rfl, (kp_cl (eK (fun _ => fe_vr_isRow) hs3 ⟨rfl, trivial⟩) (kp_st ek2 (by decide) (kp_st ek1 (by decide) i1))), i2⟩, fun q16 => fun z7 e7 => fun z8 e8 => fun z9 e9 => ⟨rfl, (kp_cl (eK (fun _ => fe_vr_isRow) hs3 ⟨rfl, trivial⟩) (kp_st ek2 (by decide) (kp_st ek1 (by decide) i1))), i2⟩⟩, fun q15 => fun k2 ek2 => fun v3 k3 hs3 => ⟨fun q17 => fun z6 e6 => fun z7 e7 => ⟨rfl, (kp_cl (eK (fun _ => fe_vr_isRow) hs3 ⟨rfl, trivial⟩) (kp_st ek2 (by decide) (kp_st ek1 (by decide) i1))), i2⟩, fun q17 => fun z6 e6 => fun z7 e7 => fun z8 e8 => ⟨rfl, (kp_cl (eK (fun _ => fe_vr_isRow) hs3 ⟨rfl, trivial⟩) (kp_st ek2 (by decide) (kp_st ek1 (by decide) i1))), i2⟩⟩⟩⟩⟩⟩
theorem km_sure (hs : fS 230 [271, x, y, z, w] h v h') (M : MJ G h) (W : GW G) : rc 285 h h' (if x < 0 ∨ G.1 0 ≤ x then 1 else if y < 0 ∨ z < 2 then 4 else if 7 < y ∨ 20 < z then 6 else if w < 0 ∨ 1 < w then 2 else 0) := by
  have hB := W.1.1.1
  have hD := W.1.2
  have hL := W.2.2.2.1.1
  have hP := W.2.2.1.1
  have hI := W.2.1.1
  have hL2 := W.2.2.2.1.2.1
  have hR := W.2.2.2.2.1
  have hR2 := W.2.2.2.2.2.1
  refine vr_sure hs (fun x0 x1 x2 x3 x4 x6 x8 x10 q => 271 = x0 ∧ (∀ k, q 285 k = h 285 k) ∧ (if x < 0 ∨ G.1 0 ≤ x then 1 else if y < 0 ∨ z < 2 then 4 else if 7 < y ∨ 20 < z then 6 else if w < 0 ∨ 1 < w then 2 else 0 : Int) = 0) (fun x0 x1 x2 x3 x4 x6 x8 x10 q => 271 = x0 ∧ (∀ k, q 285 k = h 285 k) ∧ (if x < 0 ∨ G.1 0 ≤ x then 1 else if y < 0 ∨ z < 2 then 4 else if 7 < y ∨ 20 < z then 6 else if w < 0 ∨ 1 < w then 2 else 0 : Int) = 0) (fun x0 x1 x2 x3 x4 x6 x8 x10 x11 x13 q => 271 = x0 ∧ (∀ k, q 285 k = h 285 k) ∧ (if x < 0 ∨ G.1 0 ≤ x then 1 else if y < 0 ∨ z < 2 then 4 else if 7 < y ∨ 20 < z then 6 else if w < 0 ∨ 1 < w then 2 else 0 : Int) = 0) (fun _ h' => rc 285 h h' (if x < 0 ∨ G.1 0 ≤ x then 1 else if y < 0 ∨ z < 2 then 4 else if 7 < y ∨ 20 < z then 6 else if w < 0 ∨ 1 < w then 2 else 0)) ?_ ?_ ?_ ?_
  · intro k1 ek1
    have M1 : MJ G k1 := by
      rw [ek1]
      exact M.up (by omega)
    have jm : k1 271 0 = G.1 0 := M1.1.many
    have jd : k1 271 15 = G.1 1 := M1.1.day
    have jo : k1 271 9 = G.1 2 := M1.1.opn
    have jl : k1 271 19 = G.2.2.2.1.1 := M1.2.2.2.1.1
    have jr : k1 271 38 = G.2.2.2.2.1 := M1.2.2.2.2.1
    have jp : k1 271 34 = G.2.2.1.1 := M1.2.2.1.1
    have ji : k1 271 28 = G.2.1.1 := M1.2.1.1
    exact fun z5 e5 => fun z6 e6 => (have f6 := wr_f e6; fun z7 e7 => ⟨fun q1 => (have r1 := xl_lt e7 q1; fun z8 e8 => fun z9 e9 => fun z10 e10 => fun k2 ek2 => fun z11 e11 => rc_k e8 e9 e10 ek2 (kp_st ek1 (by decide) (fun _ => rfl)) (by omega)), fun q1 => (have r1 := xl_ge e7 q1; fun z8 e8 => ⟨fun q2 => (have r2 := xl_gt e8 q2; fun z9 e9 => fun z10 e10 => fun z11 e11 => fun k2 ek2 => fun z12 e12 => rc_k e9 e10 e11 ek2 (kp_st ek1 (by decide) (fun _ => rfl)) (by omega)), fun q2 => (have r2 := xl_le e8 q2; ⟨fun q3 => fun z9 e9 => fun z10 e10 => fun z11 e11 => fun k2 ek2 => fun z12 e12 => rc_k e9 e10 e11 ek2 (kp_st ek1 (by decide) (fun _ => rfl)) (by omega), fun q3 => ⟨fun q4 => ⟨fun q5 => fun z9 e9 => fun z10 e10 => fun z11 e11 => fun k2 ek2 => fun z12 e12 => rc_k e9 e10 e11 ek2 (kp_st ek1 (by decide) (fun _ => rfl)) (by omega), fun q5 => ⟨fun q6 => fun z9 e9 => ⟨fun q7 => (have r7 := xl_lt e9 q7; fun z10 e10 => fun z11 e11 => fun z12 e12 => fun k2 ek2 => fun z13 e13 => rc_k e10 e11 e12 ek2 (kp_st ek1 (by decide) (fun _ => rfl)) (by omega)), fun q7 => (have r7 := xl_ge e9 q7; fun z10 e10 => ⟨fun q8 => (have r8 := xl_gt e10 q8; fun z11 e11 => fun z12 e12 => fun z13 e13 => fun k2 ek2 => fun z14 e14 => rc_k e11 e12 e13 ek2 (kp_st ek1 (by decide) (fun _ => rfl)) (by omega)), fun q8 => (have r8 := xl_le e10 q8; ⟨rfl, (kp_st ek1 (by decide) (fun _ => rfl)), (by omega)⟩)⟩)⟩, fun q6 => fun z9 e9 => fun z10 e10 => fun z11 e11 => fun k2 ek2 => fun z12 e12 => rc_k e9 e10 e11 ek2 (kp_st ek1 (by decide) (fun _ => rfl)) (by omega)⟩⟩, fun q4 => fun z9 e9 => fun z10 e10 => fun z11 e11 => fun k2 ek2 => fun z12 e12 => rc_k e9 e10 e11 ek2 (kp_st ek1 (by decide) (fun _ => rfl)) (by omega)⟩⟩)⟩)⟩)
  · rintro x0 x1 x2 x3 x4 x6 x8 x10 q ⟨rfl, i1, i2⟩
    exact ⟨fun q1 => fun v1 k1 hs1 => ⟨rfl, (kp_cl (sd_carryAll hs1 (by decide)) i1), i2⟩, fun q1 => fun z8 e8 => fun z9 e9 => ⟨rfl, i1, i2⟩⟩
  · rintro x0 x1 x2 x3 x4 x6 x8 x10 q ⟨rfl, i1, i2⟩
    exact fun z8 e8 => ⟨fun q1 => fun v1 k1 hs1 => rc_0 (kp_cl (eK (fun _ => fe_vr_partOf) hs1 trivial) i1) i2, fun q1 => ⟨rfl, i1, i2⟩⟩
  · rintro x0 x1 x2 x3 x4 x6 x8 x10 x11 x13 q ⟨rfl, i1, i2⟩
    exact ⟨fun q1 => fun z10 e10 => ⟨fun q2 => fun z11 e11 => fun v1 k1 hs1 => fun z13 e13 => ⟨rfl, (kp_cl (sd_carryAll hs1 (by decide)) i1), i2⟩, fun q2 => fun z11 e11 => fun v1 k1 hs1 => fun z13 e13 => ⟨rfl, (kp_cl (sd_carryAll hs1 (by decide)) i1), i2⟩⟩, fun q1 => fun z10 e10 => fun z11 e11 => ⟨fun q3 => fun z12 e12 => fun z13 e13 => fun z14 e14 => fun z15 e15 => ⟨fun q4 => fun v1 k1 hs1 => fun z17 e17 => ⟨rfl, (kp_cl (eK (fun _ => fe_vr_dayBy) hs1 ⟨rfl, trivial⟩) i1), i2⟩, fun q4 => fun v1 k1 hs1 => fun z17 e17 => ⟨rfl, (kp_cl (eK (fun _ => fe_vr_dayBy) hs1 ⟨rfl, trivial⟩) i1), i2⟩⟩, fun q3 => fun z12 e12 => fun z13 e13 => fun z14 e14 => ⟨fun q5 => fun v1 k1 hs1 => fun z16 e16 => ⟨rfl, (kp_cl (eK (fun _ => fe_vr_dayBy) hs1 ⟨rfl, trivial⟩) i1), i2⟩, fun q5 => fun v1 k1 hs1 => fun z16 e16 => ⟨rfl, (kp_cl (eK (fun _ => fe_vr_dayBy) hs1 ⟨rfl, trivial⟩) i1), i2⟩⟩⟩⟩
theorem km_shares (hs : fS 233 [271, x, y] h v h') (M : MJ G h) (W : GW G) : rc 285 h h' (if x < 1 then 4 else if 9 < x then 6 else if y < 0 ∨ 1 < y then 2 else 0) := by
  have hB := W.1.1.1
  have hD := W.1.2
  have hL := W.2.2.2.1.1
  have hP := W.2.2.1.1
  have hI := W.2.1.1
  have hL2 := W.2.2.2.1.2.1
  have hR := W.2.2.2.2.1
  have hR2 := W.2.2.2.2.2.1
  refine vr_shares hs (fun _ h' => rc 285 h h' (if x < 1 then 4 else if 9 < x then 6 else if y < 0 ∨ 1 < y then 2 else 0)) ?_
  · intro k1 ek1
    have M1 : MJ G k1 := by
      rw [ek1]
      exact M.up (by omega)
    have jm : k1 271 0 = G.1 0 := M1.1.many
    have jd : k1 271 15 = G.1 1 := M1.1.day
    have jo : k1 271 9 = G.1 2 := M1.1.opn
    have jl : k1 271 19 = G.2.2.2.1.1 := M1.2.2.2.1.1
    have jr : k1 271 38 = G.2.2.2.2.1 := M1.2.2.2.2.1
    have jp : k1 271 34 = G.2.2.1.1 := M1.2.2.1.1
    have ji : k1 271 28 = G.2.1.1 := M1.2.1.1
    exact ⟨fun q1 => ⟨fun q2 => fun z3 e3 => ⟨fun q3 => (have r3 := xl_lt e3 q3; fun z4 e4 => fun z5 e5 => fun z6 e6 => fun k2 ek2 => rc_k e4 e5 e6 ek2 (kp_st ek1 (by decide) (fun _ => rfl)) (by omega)), fun q3 => (have r3 := xl_ge e3 q3; fun z4 e4 => ⟨fun q4 => (have r4 := xl_gt e4 q4; fun z5 e5 => fun z6 e6 => fun z7 e7 => fun k2 ek2 => rc_k e5 e6 e7 ek2 (kp_st ek1 (by decide) (fun _ => rfl)) (by omega)), fun q4 => (have r4 := xl_le e4 q4; ⟨fun q5 => fun v2 k2 hs2 => fun z6 e6 => rc_0 (kp_cl (eK (fun _ => fe_vr_allTears) hs2 ⟨rfl, trivial⟩) (kp_st ek1 (by decide) (fun _ => rfl))) (by omega), fun q5 => fun v2 k2 hs2 => fun z6 e6 => rc_0 (kp_cl (eK (fun _ => fe_vr_allTears) hs2 ⟨rfl, trivial⟩) (kp_st ek1 (by decide) (fun _ => rfl))) (by omega)⟩)⟩)⟩, fun q2 => fun z3 e3 => fun z4 e4 => fun z5 e5 => fun k2 ek2 => rc_k e3 e4 e5 ek2 (kp_st ek1 (by decide) (fun _ => rfl)) (by omega)⟩, fun q1 => fun z3 e3 => fun z4 e4 => fun z5 e5 => fun k2 ek2 => rc_k e3 e4 e5 ek2 (kp_st ek1 (by decide) (fun _ => rfl)) (by omega)⟩
theorem km_saddest (hs : fS 234 [271, x] h v h') (M : MJ G h) (W : GW G) : rc 285 h h' (if x < 0 ∨ 2 < x then 2 else 0) := by
  have hB := W.1.1.1
  have hD := W.1.2
  have hL := W.2.2.2.1.1
  have hP := W.2.2.1.1
  have hI := W.2.1.1
  have hL2 := W.2.2.2.1.2.1
  have hR := W.2.2.2.2.1
  have hR2 := W.2.2.2.2.2.1
  refine vr_saddest hs (fun _ h' => rc 285 h h' (if x < 0 ∨ 2 < x then 2 else 0)) ?_
  · intro k1 ek1
    have M1 : MJ G k1 := by
      rw [ek1]
      exact M.up (by omega)
    have jm : k1 271 0 = G.1 0 := M1.1.many
    have jd : k1 271 15 = G.1 1 := M1.1.day
    have jo : k1 271 9 = G.1 2 := M1.1.opn
    have jl : k1 271 19 = G.2.2.2.1.1 := M1.2.2.2.1.1
    have jr : k1 271 38 = G.2.2.2.2.1 := M1.2.2.2.2.1
    have jp : k1 271 34 = G.2.2.1.1 := M1.2.2.1.1
    have ji : k1 271 28 = G.2.1.1 := M1.2.1.1
    exact ⟨fun q1 => fun v2 k2 hs2 => rc_0 (kp_cl (eK (fun _ => fe_vr_saddestOne) hs2 ⟨rfl, trivial⟩) (kp_st ek1 (by decide) (fun _ => rfl))) (by omega), fun q1 => ⟨fun q2 => fun v2 k2 hs2 => rc_0 (kp_cl (eK (fun _ => fe_vr_twosOf) hs2 ⟨rfl, trivial⟩) (kp_st ek1 (by decide) (fun _ => rfl))) (by omega), fun q2 => ⟨fun q3 => fun v2 k2 hs2 => rc_0 (kp_cl (eK (fun _ => fe_vr_freeBits) hs2 ⟨rfl, trivial⟩) (kp_st ek1 (by decide) (fun _ => rfl))) (by omega), fun q3 => fun z2 e2 => fun z3 e3 => fun z4 e4 => fun k2 ek2 => rc_k e2 e3 e4 ek2 (kp_st ek1 (by decide) (fun _ => rfl)) (by omega)⟩⟩⟩
theorem km_wished (hs : fS 239 [271, x] h v h') (M : MJ G h) (W : GW G) : rc 285 h h' (if x < 0 ∨ G.1 0 ≤ x then 1 else 0) := by
  have hB := W.1.1.1
  have hD := W.1.2
  have hL := W.2.2.2.1.1
  have hP := W.2.2.1.1
  have hI := W.2.1.1
  have hL2 := W.2.2.2.1.2.1
  have hR := W.2.2.2.2.1
  have hR2 := W.2.2.2.2.2.1
  refine vr_wished hs (fun x0 x1 x2 x3 q => 271 = x0 ∧ (∀ k, q 285 k = h 285 k) ∧ (if x < 0 ∨ G.1 0 ≤ x then 1 else 0 : Int) = 0) (fun _ h' => rc 285 h h' (if x < 0 ∨ G.1 0 ≤ x then 1 else 0)) ?_ ?_
  · intro k1 ek1
    have M1 : MJ G k1 := by
      rw [ek1]
      exact M.up (by omega)
    have jm : k1 271 0 = G.1 0 := M1.1.many
    have jd : k1 271 15 = G.1 1 := M1.1.day
    have jo : k1 271 9 = G.1 2 := M1.1.opn
    have jl : k1 271 19 = G.2.2.2.1.1 := M1.2.2.2.1.1
    have jr : k1 271 38 = G.2.2.2.2.1 := M1.2.2.2.2.1
    have jp : k1 271 34 = G.2.2.1.1 := M1.2.2.1.1
    have ji : k1 271 28 = G.2.1.1 := M1.2.1.1
    exact fun z2 e2 => fun z3 e3 => (have f3 := wr_f e3; fun z4 e4 => ⟨fun q1 => (have r1 := xl_lt e4 q1; fun z5 e5 => fun z6 e6 => fun z7 e7 => fun k2 ek2 => rc_k e5 e6 e7 ek2 (kp_st ek1 (by decide) (fun _ => rfl)) (by omega)), fun q1 => (have r1 := xl_ge e4 q1; fun z5 e5 => ⟨fun q2 => (have r2 := xl_gt e5 q2; fun z6 e6 => fun z7 e7 => fun z8 e8 => fun k2 ek2 => rc_k e6 e7 e8 ek2 (kp_st ek1 (by decide) (fun _ => rfl)) (by omega)), fun q2 => (have r2 := xl_le e5 q2; ⟨rfl, (kp_st ek1 (by decide) (fun _ => rfl)), (by omega)⟩)⟩)⟩)
  · rintro x0 x1 x2 x3 q ⟨rfl, i1, i2⟩
    exact fun z4 e4 => ⟨fun q1 => rc_0 i1 i2, fun q1 => ⟨fun q2 => fun z5 e5 => fun z6 e6 => ⟨rfl, i1, i2⟩, fun q2 => fun z5 e5 => ⟨fun q3 => fun z6 e6 => fun z7 e7 => ⟨rfl, i1, i2⟩, fun q3 => fun z6 e6 => fun z7 e7 => ⟨rfl, i1, i2⟩⟩⟩⟩
theorem km_mean (hs : fS 240 [271, x, y] h v h') (M : MJ G h) (W : GW G) : rc 285 h h' (if x < 0 ∨ 4 < x then 1 else if y < 0 ∨ 1 < y then 2 else 0) := by
  have hB := W.1.1.1
  have hD := W.1.2
  have hL := W.2.2.2.1.1
  have hP := W.2.2.1.1
  have hI := W.2.1.1
  have hL2 := W.2.2.2.1.2.1
  have hR := W.2.2.2.2.1
  have hR2 := W.2.2.2.2.2.1
  refine vr_mean hs (fun x0 x1 x2 x4 x6 q => 271 = x0 ∧ (∀ k, q 285 k = h 285 k) ∧ (if x < 0 ∨ 4 < x then 1 else if y < 0 ∨ 1 < y then 2 else 0 : Int) = 0) (fun _ h' => rc 285 h h' (if x < 0 ∨ 4 < x then 1 else if y < 0 ∨ 1 < y then 2 else 0)) ?_ ?_
  · intro k1 ek1
    have M1 : MJ G k1 := by
      rw [ek1]
      exact M.up (by omega)
    have jm : k1 271 0 = G.1 0 := M1.1.many
    have jd : k1 271 15 = G.1 1 := M1.1.day
    have jo : k1 271 9 = G.1 2 := M1.1.opn
    have jl : k1 271 19 = G.2.2.2.1.1 := M1.2.2.2.1.1
    have jr : k1 271 38 = G.2.2.2.2.1 := M1.2.2.2.2.1
    have jp : k1 271 34 = G.2.2.1.1 := M1.2.2.1.1
    have ji : k1 271 28 = G.2.1.1 := M1.2.1.1
    exact fun z3 e3 => ⟨fun q1 => (have r1 := xl_lt e3 q1; fun z4 e4 => fun z5 e5 => fun z6 e6 => fun k2 ek2 => fun z7 e7 => rc_k e4 e5 e6 ek2 (kp_st ek1 (by decide) (fun _ => rfl)) (by omega)), fun q1 => (have r1 := xl_ge e3 q1; fun z4 e4 => ⟨fun q2 => (have r2 := xl_gt e4 q2; fun z5 e5 => fun z6 e6 => fun z7 e7 => fun k2 ek2 => fun z8 e8 => rc_k e5 e6 e7 ek2 (kp_st ek1 (by decide) (fun _ => rfl)) (by omega)), fun q2 => (have r2 := xl_le e4 q2; fun z5 e5 => ⟨fun q3 => (have r3 := xl_lt e5 q3; fun z6 e6 => fun z7 e7 => fun z8 e8 => fun k2 ek2 => fun z9 e9 => rc_k e6 e7 e8 ek2 (kp_st ek1 (by decide) (fun _ => rfl)) (by omega)), fun q3 => (have r3 := xl_ge e5 q3; fun z6 e6 => ⟨fun q4 => (have r4 := xl_gt e6 q4; fun z7 e7 => fun z8 e8 => fun z9 e9 => fun k2 ek2 => fun z10 e10 => rc_k e7 e8 e9 ek2 (kp_st ek1 (by decide) (fun _ => rfl)) (by omega)), fun q4 => (have r4 := xl_le e6 q4; ⟨rfl, (kp_st ek1 (by decide) (fun _ => rfl)), (by omega)⟩)⟩)⟩)⟩)⟩
  · rintro x0 x1 x2 x4 x6 q ⟨rfl, i1, i2⟩
    exact fun z5 e5 => ⟨fun q1 => fun z6 e6 => fun v1 k1 hs1 => rc_0 (kp_cl (eK (fun _ => fe_vr_partOf) hs1 trivial) i1) i2, fun q1 => fun z6 e6 => fun z7 e7 => fun z8 e8 => fun z9 e9 => fun z10 e10 => ⟨rfl, i1, i2⟩⟩
theorem km_scorn (hs : fS 241 [271, x] h v h') (M : MJ G h) (W : GW G) : rc 285 h h' (if x < 0 ∨ 4 < x then 1 else 0) := by
  have hB := W.1.1.1
  have hD := W.1.2
  have hL := W.2.2.2.1.1
  have hP := W.2.2.1.1
  have hI := W.2.1.1
  have hL2 := W.2.2.2.1.2.1
  have hR := W.2.2.2.2.1
  have hR2 := W.2.2.2.2.2.1
  refine vr_scorn hs (fun x0 x1 x2 x3 q => 271 = x0 ∧ (∀ k, q 285 k = h 285 k) ∧ (if x < 0 ∨ 4 < x then 1 else 0 : Int) = 0) (fun _ h' => rc 285 h h' (if x < 0 ∨ 4 < x then 1 else 0)) ?_ ?_
  · intro k1 ek1
    have M1 : MJ G k1 := by
      rw [ek1]
      exact M.up (by omega)
    have jm : k1 271 0 = G.1 0 := M1.1.many
    have jd : k1 271 15 = G.1 1 := M1.1.day
    have jo : k1 271 9 = G.1 2 := M1.1.opn
    have jl : k1 271 19 = G.2.2.2.1.1 := M1.2.2.2.1.1
    have jr : k1 271 38 = G.2.2.2.2.1 := M1.2.2.2.2.1
    have jp : k1 271 34 = G.2.2.1.1 := M1.2.2.1.1
    have ji : k1 271 28 = G.2.1.1 := M1.2.1.1
    exact fun z2 e2 => ⟨fun q1 => (have r1 := xl_lt e2 q1; fun z3 e3 => fun z4 e4 => fun z5 e5 => fun k2 ek2 => rc_k e3 e4 e5 ek2 (kp_st ek1 (by decide) (fun _ => rfl)) (by omega)), fun q1 => (have r1 := xl_ge e2 q1; fun z3 e3 => ⟨fun q2 => (have r2 := xl_gt e3 q2; fun z4 e4 => fun z5 e5 => fun z6 e6 => fun k2 ek2 => rc_k e4 e5 e6 ek2 (kp_st ek1 (by decide) (fun _ => rfl)) (by omega)), fun q2 => (have r2 := xl_le e3 q2; ⟨rfl, (kp_st ek1 (by decide) (fun _ => rfl)), (by omega)⟩)⟩)⟩
  · rintro x0 x1 x2 x3 q ⟨rfl, i1, i2⟩
    exact fun z4 e4 => ⟨fun q1 => rc_0 i1 i2, fun q1 => fun z5 e5 => fun z6 e6 => fun z7 e7 => fun z8 e8 => ⟨fun q2 => fun z9 e9 => fun z10 e10 => ⟨rfl, i1, i2⟩, fun q2 => fun z9 e9 => fun z10 e10 => ⟨rfl, i1, i2⟩⟩⟩
theorem km_left (hs : fS 242 [271, x] h v h') (M : MJ G h) (W : GW G) : rc 285 h h' (if x < 0 ∨ 4 < x then 2 else 0) := by
  have hB := W.1.1.1
  have hD := W.1.2
  have hL := W.2.2.2.1.1
  have hP := W.2.2.1.1
  have hI := W.2.1.1
  have hL2 := W.2.2.2.1.2.1
  have hR := W.2.2.2.2.1
  have hR2 := W.2.2.2.2.2.1
  refine vr_left hs (fun _ h' => rc 285 h h' (if x < 0 ∨ 4 < x then 2 else 0)) ?_
  · intro k1 ek1
    have M1 : MJ G k1 := by
      rw [ek1]
      exact M.up (by omega)
    have jm : k1 271 0 = G.1 0 := M1.1.many
    have jd : k1 271 15 = G.1 1 := M1.1.day
    have jo : k1 271 9 = G.1 2 := M1.1.opn
    have jl : k1 271 19 = G.2.2.2.1.1 := M1.2.2.2.1.1
    have jr : k1 271 38 = G.2.2.2.2.1 := M1.2.2.2.2.1
    have jp : k1 271 34 = G.2.2.1.1 := M1.2.2.1.1
    have ji : k1 271 28 = G.2.1.1 := M1.2.1.1
    exact ⟨fun q1 => fun v2 k2 hs2 => rc_0 (kp_cl (eK (fun _ => fe_vr_lastDays) hs2 ⟨rfl, trivial⟩) (kp_st ek1 (by decide) (fun _ => rfl))) (by omega), fun q1 => ⟨fun q2 => fun v2 k2 hs2 => rc_0 (kp_cl (eK (fun _ => fe_vr_chasteRun) hs2 ⟨rfl, trivial⟩) (kp_st ek1 (by decide) (fun _ => rfl))) (by omega), fun q2 => ⟨fun q3 => fun v2 k2 hs2 => rc_0 (kp_cl (eK (fun _ => fe_vr_oddBits) hs2 ⟨rfl, trivial⟩) (kp_st ek1 (by decide) (fun _ => rfl))) (by omega), fun q3 => ⟨fun q4 => fun v2 k2 hs2 => rc_0 (kp_cl (eK (fun _ => fe_vr_twosOf) hs2 ⟨rfl, trivial⟩) (kp_st ek1 (by decide) (fun _ => rfl))) (by omega), fun q4 => ⟨fun q5 => fun v2 k2 hs2 => rc_0 (kp_cl (eK (fun _ => fe_vr_twosOf) hs2 ⟨rfl, trivial⟩) (kp_st ek1 (by decide) (fun _ => rfl))) (by omega), fun q5 => fun z2 e2 => fun z3 e3 => fun z4 e4 => fun k2 ek2 => rc_k e2 e3 e4 ek2 (kp_st ek1 (by decide) (fun _ => rfl)) (by omega)⟩⟩⟩⟩⟩
theorem km_hope (hs : fS 246 [271, x, y, z] h v h') (M : MJ G h) (W : GW G) : rc 285 h h' (if x < 0 ∨ G.1 0 ≤ x ∨ y < 0 ∨ 4 < y then 1 else if z < 0 then 4 else if 60 < z then 6 else 0) := by
  have hB := W.1.1.1
  have hD := W.1.2
  have hL := W.2.2.2.1.1
  have hP := W.2.2.1.1
  have hI := W.2.1.1
  have hL2 := W.2.2.2.1.2.1
  have hR := W.2.2.2.2.1
  have hR2 := W.2.2.2.2.2.1
  refine vr_hope hs (fun _ h' => rc 285 h h' (if x < 0 ∨ G.1 0 ≤ x ∨ y < 0 ∨ 4 < y then 1 else if z < 0 then 4 else if 60 < z then 6 else 0)) ?_
  · intro k1 ek1
    have M1 : MJ G k1 := by
      rw [ek1]
      exact M.up (by omega)
    have jm : k1 271 0 = G.1 0 := M1.1.many
    have jd : k1 271 15 = G.1 1 := M1.1.day
    have jo : k1 271 9 = G.1 2 := M1.1.opn
    have jl : k1 271 19 = G.2.2.2.1.1 := M1.2.2.2.1.1
    have jr : k1 271 38 = G.2.2.2.2.1 := M1.2.2.2.2.1
    have jp : k1 271 34 = G.2.2.1.1 := M1.2.2.1.1
    have ji : k1 271 28 = G.2.1.1 := M1.2.1.1
    exact fun z4 e4 => fun z5 e5 => (have f5 := wr_f e5; fun z6 e6 => ⟨fun q1 => (have r1 := xl_lt e6 q1; fun z7 e7 => fun z8 e8 => fun z9 e9 => fun k2 ek2 => fun z10 e10 => (have f10 := wr_f e10; rc_k e7 e8 e9 ek2 (kp_st ek1 (by decide) (fun _ => rfl)) (by omega))), fun q1 => (have r1 := xl_ge e6 q1; fun z7 e7 => ⟨fun q2 => (have r2 := xl_gt e7 q2; fun z8 e8 => fun z9 e9 => fun z10 e10 => fun k2 ek2 => fun z11 e11 => (have f11 := wr_f e11; rc_k e8 e9 e10 ek2 (kp_st ek1 (by decide) (fun _ => rfl)) (by omega))), fun q2 => (have r2 := xl_le e7 q2; fun z8 e8 => ⟨fun q3 => (have r3 := xl_lt e8 q3; fun z9 e9 => fun z10 e10 => fun z11 e11 => fun k2 ek2 => fun z12 e12 => (have f12 := wr_f e12; rc_k e9 e10 e11 ek2 (kp_st ek1 (by decide) (fun _ => rfl)) (by omega))), fun q3 => (have r3 := xl_ge e8 q3; fun z9 e9 => ⟨fun q4 => (have r4 := xl_gt e9 q4; fun z10 e10 => fun z11 e11 => fun z12 e12 => fun k2 ek2 => fun z13 e13 => (have f13 := wr_f e13; rc_k e10 e11 e12 ek2 (kp_st ek1 (by decide) (fun _ => rfl)) (by omega))), fun q4 => (have r4 := xl_le e9 q4; ⟨fun q5 => ⟨fun q6 => fun v2 k2 hs2 => fun z11 e11 => (have f11 := wr_f e11; fun z12 e12 => (have f12 := wr_f e12; fun z13 e13 => fun z14 e14 => (have f14 := wr_f e14; rc_0 (kp_cl (eK (fun _ => fe_vr_beliefThen) hs2 ⟨rfl, trivial⟩) (kp_st ek1 (by decide) (fun _ => rfl))) (by omega)))), fun q6 => fun z10 e10 => fun z11 e11 => fun z12 e12 => fun k2 ek2 => fun z13 e13 => (have f13 := wr_f e13; rc_k e10 e11 e12 ek2 (kp_st ek1 (by decide) (fun _ => rfl)) (by omega))⟩, fun q5 => fun z10 e10 => fun z11 e11 => fun z12 e12 => fun k2 ek2 => fun z13 e13 => (have f13 := wr_f e13; rc_k e10 e11 e12 ek2 (kp_st ek1 (by decide) (fun _ => rfl)) (by omega))⟩)⟩)⟩)⟩)⟩)
theorem km_row (hs : fS 247 [271, x] h v h') (M : MJ G h) (W : GW G) : rc 285 h h' (if x < 0 then 4 else if 99 < x ∨ 12 ≤ G.2.2.2.2.1 then 6 else 0) := by
  have hB := W.1.1.1
  have hD := W.1.2
  have hL := W.2.2.2.1.1
  have hP := W.2.2.1.1
  have hI := W.2.1.1
  have hL2 := W.2.2.2.1.2.1
  have hR := W.2.2.2.2.1
  have hR2 := W.2.2.2.2.2.1
  refine vr_row hs (fun _ h' => rc 285 h h' (if x < 0 then 4 else if 99 < x ∨ 12 ≤ G.2.2.2.2.1 then 6 else 0)) ?_
  · intro k1 ek1
    have M1 : MJ G k1 := by
      rw [ek1]
      exact M.up (by omega)
    have jm : k1 271 0 = G.1 0 := M1.1.many
    have jd : k1 271 15 = G.1 1 := M1.1.day
    have jo : k1 271 9 = G.1 2 := M1.1.opn
    have jl : k1 271 19 = G.2.2.2.1.1 := M1.2.2.2.1.1
    have jr : k1 271 38 = G.2.2.2.2.1 := M1.2.2.2.2.1
    have jp : k1 271 34 = G.2.2.1.1 := M1.2.2.1.1
    have ji : k1 271 28 = G.2.1.1 := M1.2.1.1
    exact ⟨fun q1 => ⟨fun q2 => fun z2 e2 => fun z3 e3 => fun z4 e4 => fun k2 ek2 => rc_k e2 e3 e4 ek2 (kp_st ek1 (by decide) (fun _ => rfl)) (by omega), fun q2 => fun z2 e2 => ⟨fun q3 => fun z3 e3 => fun k2 ek2 => fun z4 e4 => fun z5 e5 => (have f5 := wr_f e5; fun k3 ek3 => fun z6 e6 => rc_0 (kp_st ek3 (by decide) (kp_st ek2 (by decide) (kp_st ek1 (by decide) (fun _ => rfl)))) (by omega)), fun q3 => fun z3 e3 => fun z4 e4 => fun z5 e5 => fun k2 ek2 => rc_k e3 e4 e5 ek2 (kp_st ek1 (by decide) (fun _ => rfl)) (by omega)⟩⟩, fun q1 => fun z2 e2 => fun z3 e3 => fun z4 e4 => fun k2 ek2 => rc_k e2 e3 e4 ek2 (kp_st ek1 (by decide) (fun _ => rfl)) (by omega)⟩
theorem km_judge (hs : fS 248 [271] h v h') (M : MJ G h) (W : GW G) : rc 285 h h' (0) := by
  have hB := W.1.1.1
  have hD := W.1.2
  have hL := W.2.2.2.1.1
  have hP := W.2.2.1.1
  have hI := W.2.1.1
  have hL2 := W.2.2.2.1.2.1
  have hR := W.2.2.2.2.1
  have hR2 := W.2.2.2.2.2.1
  refine vr_judge hs (fun x0 x1 x2 q => 271 = x0 ∧ (∀ k, q 285 k = h 285 k) ∧ (0 : Int) = 0) (fun _ h' => rc 285 h h' (0)) ?_ ?_
  · intro k1 ek1
    have M1 : MJ G k1 := by
      rw [ek1]
      exact M.up (by omega)
    have jm : k1 271 0 = G.1 0 := M1.1.many
    have jd : k1 271 15 = G.1 1 := M1.1.day
    have jo : k1 271 9 = G.1 2 := M1.1.opn
    have jl : k1 271 19 = G.2.2.2.1.1 := M1.2.2.2.1.1
    have jr : k1 271 38 = G.2.2.2.2.1 := M1.2.2.2.2.1
    have jp : k1 271 34 = G.2.2.1.1 := M1.2.2.1.1
    have ji : k1 271 28 = G.2.1.1 := M1.2.1.1
    exact fun z1 e1 => fun k2 ek2 => ⟨rfl, (kp_st ek2 (by decide) (kp_st ek1 (by decide) (fun _ => rfl))), (by omega)⟩
  · rintro x0 x1 x2 q ⟨rfl, i1, i2⟩
    exact ⟨fun q1 => rc_0 i1 i2, fun q1 => fun z3 e3 => ⟨fun q2 => rc_0 i1 i2, fun q2 => fun z4 e4 => fun z5 e5 => fun z6 e6 => ⟨fun q3 => fun z7 e7 => ⟨rfl, i1, i2⟩, fun q3 => rc_0 i1 i2⟩⟩⟩
theorem km_clear (hs : fS 249 [271] h v h') (M : MJ G h) (W : GW G) : rc 285 h h' (0) := by
  have hB := W.1.1.1
  have hD := W.1.2
  have hL := W.2.2.2.1.1
  have hP := W.2.2.1.1
  have hI := W.2.1.1
  have hL2 := W.2.2.2.1.2.1
  have hR := W.2.2.2.2.1
  have hR2 := W.2.2.2.2.2.1
  refine vr_clear hs (fun _ h' => rc 285 h h' (0)) ?_
  · intro k1 ek1
    have M1 : MJ G k1 := by
      rw [ek1]
      exact M.up (by omega)
    have jm : k1 271 0 = G.1 0 := M1.1.many
    have jd : k1 271 15 = G.1 1 := M1.1.day
    have jo : k1 271 9 = G.1 2 := M1.1.opn
    have jl : k1 271 19 = G.2.2.2.1.1 := M1.2.2.2.1.1
    have jr : k1 271 38 = G.2.2.2.2.1 := M1.2.2.2.2.1
    have jp : k1 271 34 = G.2.2.1.1 := M1.2.2.1.1
    have ji : k1 271 28 = G.2.1.1 := M1.2.1.1
    exact fun z1 e1 => fun k2 ek2 => rc_0 (kp_st ek2 (by decide) (kp_st ek1 (by decide) (fun _ => rfl))) (by omega)
theorem km_lots (hs : fS 250 [271, x, y, z] h v h') (M : MJ G h) (W : GW G) : rc 285 h h' (if x < 1 then 4 else if 20 < x then 6 else if z < 0 ∨ 1 < z then 2 else 0) := by
  have hB := W.1.1.1
  have hD := W.1.2
  have hL := W.2.2.2.1.1
  have hP := W.2.2.1.1
  have hI := W.2.1.1
  have hL2 := W.2.2.2.1.2.1
  have hR := W.2.2.2.2.1
  have hR2 := W.2.2.2.2.2.1
  refine vr_lots hs (fun x0 x1 x3 x5 x6 q => 271 = x0 ∧ (∀ k, q 285 k = h 285 k) ∧ (if x < 1 then 4 else if 20 < x then 6 else if z < 0 ∨ 1 < z then 2 else 0 : Int) = 0) (fun x0 x1 x3 x5 x6 x7 q => 271 = x0 ∧ (∀ k, q 285 k = h 285 k) ∧ (if x < 1 then 4 else if 20 < x then 6 else if z < 0 ∨ 1 < z then 2 else 0 : Int) = 0) (fun _ h' => rc 285 h h' (if x < 1 then 4 else if 20 < x then 6 else if z < 0 ∨ 1 < z then 2 else 0)) ?_ ?_ ?_
  · intro k1 ek1
    have M1 : MJ G k1 := by
      rw [ek1]
      exact M.up (by omega)
    have jm : k1 271 0 = G.1 0 := M1.1.many
    have jd : k1 271 15 = G.1 1 := M1.1.day
    have jo : k1 271 9 = G.1 2 := M1.1.opn
    have jl : k1 271 19 = G.2.2.2.1.1 := M1.2.2.2.1.1
    have jr : k1 271 38 = G.2.2.2.2.1 := M1.2.2.2.2.1
    have jp : k1 271 34 = G.2.2.1.1 := M1.2.2.1.1
    have ji : k1 271 28 = G.2.1.1 := M1.2.1.1
    exact ⟨fun q1 => ⟨fun q2 => fun z4 e4 => ⟨fun q3 => (have r3 := xl_lt e4 q3; fun z5 e5 => fun z6 e6 => fun z7 e7 => fun k2 ek2 => rc_k e5 e6 e7 ek2 (kp_st ek1 (by decide) (fun _ => rfl)) (by omega)), fun q3 => (have r3 := xl_ge e4 q3; fun z5 e5 => ⟨fun q4 => (have r4 := xl_gt e5 q4; fun z6 e6 => fun z7 e7 => fun z8 e8 => fun k2 ek2 => rc_k e6 e7 e8 ek2 (kp_st ek1 (by decide) (fun _ => rfl)) (by omega)), fun q4 => (have r4 := xl_le e5 q4; fun k2 ek2 => fun v3 k3 hs3 => ⟨rfl, (kp_cl (sd_carryAll hs3 (by decide)) (kp_st ek2 (by decide) (kp_st ek1 (by decide) (fun _ => rfl)))), (by omega)⟩)⟩)⟩, fun q2 => fun z4 e4 => fun z5 e5 => fun z6 e6 => fun k2 ek2 => rc_k e4 e5 e6 ek2 (kp_st ek1 (by decide) (fun _ => rfl)) (by omega)⟩, fun q1 => fun z4 e4 => fun z5 e5 => fun z6 e6 => fun k2 ek2 => rc_k e4 e5 e6 ek2 (kp_st ek1 (by decide) (fun _ => rfl)) (by omega)⟩
  · rintro x0 x1 x3 x5 x6 q ⟨rfl, i1, i2⟩
    exact ⟨fun q1 => rc_0 i1 i2, fun q1 => ⟨rfl, i1, i2⟩⟩
  · rintro x0 x1 x3 x5 x6 x7 q ⟨rfl, i1, i2⟩
    exact ⟨fun q1 => fun v1 k1 hs1 => ⟨fun q2 => fun v2 k2 hs2 => fun z8 e8 => fun v3 k3 hs3 => fun z10 e10 => ⟨rfl, (kp_cl (sd_carryAll hs3 (by decide)) (kp_cl (eK (fun _ => fe_vr_allTears) hs2 ⟨rfl, trivial⟩) (kp_cl (eK (fun _ => fe_vr_goDays) hs1 ⟨rfl, trivial⟩) i1))), i2⟩, fun q2 => fun v2 k2 hs2 => fun v3 k3 hs3 => fun z9 e9 => fun v4 k4 hs4 => fun z11 e11 => ⟨rfl, (kp_cl (sd_carryAll hs4 (by decide)) (kp_cl (eK (fun _ => fe_vr_onesOf) hs3 trivial) (kp_cl (eK (fun _ => fe_vr_wedBits) hs2 ⟨rfl, trivial⟩) (kp_cl (eK (fun _ => fe_vr_goDays) hs1 ⟨rfl, trivial⟩) i1)))), i2⟩⟩, fun q1 => fun v1 k1 hs1 => fun k2 ek2 => fun z7 e7 => ⟨rfl, (kp_st ek2 (by decide) (kp_cl (eK (fun _ => fe_vr_drawBelow) hs1 ⟨rfl, trivial⟩) i1)), i2⟩⟩
theorem km_count (hs : fS 252 [271, x] h v h') (M : MJ G h) (W : GW G) : rc 285 h h' (0) := by
  have hB := W.1.1.1
  have hD := W.1.2
  have hL := W.2.2.2.1.1
  have hP := W.2.2.1.1
  have hI := W.2.1.1
  have hL2 := W.2.2.2.1.2.1
  have hR := W.2.2.2.2.1
  have hR2 := W.2.2.2.2.2.1
  refine vr_count hs (fun _ h' => rc 285 h h' (0)) ?_
  · intro k1 ek1
    have M1 : MJ G k1 := by
      rw [ek1]
      exact M.up (by omega)
    have jm : k1 271 0 = G.1 0 := M1.1.many
    have jd : k1 271 15 = G.1 1 := M1.1.day
    have jo : k1 271 9 = G.1 2 := M1.1.opn
    have jl : k1 271 19 = G.2.2.2.1.1 := M1.2.2.2.1.1
    have jr : k1 271 38 = G.2.2.2.2.1 := M1.2.2.2.2.1
    have jp : k1 271 34 = G.2.2.1.1 := M1.2.2.1.1
    have ji : k1 271 28 = G.2.1.1 := M1.2.1.1
    exact ⟨fun q1 => fun z2 e2 => rc_0 (kp_st ek1 (by decide) (fun _ => rfl)) (by omega), fun q1 => ⟨fun q2 => fun z2 e2 => rc_0 (kp_st ek1 (by decide) (fun _ => rfl)) (by omega), fun q2 => ⟨fun q3 => fun z2 e2 => rc_0 (kp_st ek1 (by decide) (fun _ => rfl)) (by omega), fun q3 => ⟨fun q4 => fun v2 k2 hs2 => rc_0 (kp_cl (eK (fun _ => fe_vr_wedBits) hs2 ⟨rfl, trivial⟩) (kp_st ek1 (by decide) (fun _ => rfl))) (by omega), fun q4 => ⟨fun q5 => fun v2 k2 hs2 => rc_0 (kp_cl (eK (fun _ => fe_vr_allTears) hs2 ⟨rfl, trivial⟩) (kp_st ek1 (by decide) (fun _ => rfl))) (by omega), fun q5 => ⟨fun q6 => fun z2 e2 => rc_0 (kp_st ek1 (by decide) (fun _ => rfl)) (by omega), fun q6 => ⟨fun q7 => fun z2 e2 => rc_0 (kp_st ek1 (by decide) (fun _ => rfl)) (by omega), fun q7 => ⟨fun q8 => fun z2 e2 => rc_0 (kp_st ek1 (by decide) (fun _ => rfl)) (by omega), fun q8 => fun z2 e2 => ⟨fun q9 => (have r9 := xl_lt e2 q9; rc_0 (kp_st ek1 (by decide) (fun _ => rfl)) (by omega)), fun q9 => (have r9 := xl_ge e2 q9; fun z3 e3 => ⟨fun q10 => (have r10 := xl_gt e3 q10; rc_0 (kp_st ek1 (by decide) (fun _ => rfl)) (by omega)), fun q10 => (have r10 := xl_le e3 q10; fun z4 e4 => (have f4 := wr_f e4; fun z5 e5 => rc_0 (kp_st ek1 (by decide) (fun _ => rfl)) (by omega)))⟩)⟩⟩⟩⟩⟩⟩⟩⟩⟩
end KC
