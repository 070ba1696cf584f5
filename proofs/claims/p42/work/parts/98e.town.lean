/-! a town told in letters: both sides -/
noncomputable def stG (L : Int × gV) (g : gV) : Nat → gV
  | 0 => g
  | k + 1 => tgF L (plF L k) (stG L g k)
noncomputable def okX (L : Int × gV) (g : gV) (K : Nat) : Prop := ∀ j : Nat, j < K → tcF L (plF L j) (stG L g j)
noncomputable def zlG (G : gS) : gS := sL G (0, G.2.2.2.1.2)
noncomputable def tnG (G : gS) (K : Nat) : gS := sP (sT (zlG G) (stG G.2.2.2.1 G.1 K)) (0, G.2.2.1.2)
noncomputable def twR (G : gS) (v : Int) (G' : gS) : Prop := (∃ q, psB G.2.2.2.1 q ∧ v = -1000 - q ∧ G' = zlG G) ∨ (∃ K k : Nat, psK G.2.2.2.1 K ∧ k < K ∧ okX G.2.2.2.1 G.1 k ∧ ¬ tcF G.2.2.2.1 (plF G.2.2.2.1 k) (stG G.2.2.2.1 G.1 k) ∧ v = -2000 - plF G.2.2.2.1 k ∧ G' = zlG G) ∨ (∃ K : Nat, psK G.2.2.2.1 K ∧ okX G.2.2.2.1 G.1 K ∧ v = (K : Int) ∧ G' = tnG G K)
section TW
variable {h h' h0 h1 k1 : fH} {v v' z c k y a b x n p q q' i : Int} {g : gV} {G G' G'' : gS} {L : Int × gV} {K K' : Nat}
theorem st_ok (W : WF g ∧ g 1 ≤ 999) : ∀ K : Nat, okX L g K → WF (stG L g K) ∧ stG L g K 1 ≤ 999
  | 0, _ => W
  | K + 1, h => by
    obtain ⟨i1, i2⟩ := st_ok W K (fun j hj => h j (by omega))
    exact tl_ok i1 i2 (h K (by omega))
theorem twR_un (a : twR G v G') (b : twR G v' G'') : v = v' ∧ G' = G'' := by
  rcases a with ⟨q, a1, a2, a3⟩ | ⟨K, k, a1, a2, a3, a4, a5, a6⟩ | ⟨K, a1, a2, a3, a4⟩
  · rcases b with ⟨q', b1, b2, b3⟩ | ⟨K', k', b1, b2, b3, b4, b5, b6⟩ | ⟨K', b1, b2, b3, b4⟩
    · have := psb_un a1 b1
      exact ⟨by omega, by rw [a3, b3]⟩
    · exact (ps_no b1 a1).elim
    · exact (ps_no b1 a1).elim
  · rcases b with ⟨q', b1, b2, b3⟩ | ⟨K', k', b1, b2, b3, b4, b5, b6⟩ | ⟨K', b1, b2, b3, b4⟩
    · exact (ps_no a1 b1).elim
    · have e : k = k' := by
        rcases Nat.lt_trichotomy k k' with r | r | r
        · exact absurd (b3 k r) a4
        · exact r
        · exact absurd (a3 k' r) b4
      rw [e] at a5
      exact ⟨by omega, by rw [a6, b6]⟩
    · have e := ps_un a1 b1
      exact absurd (b2 k (by omega)) a4
  · rcases b with ⟨q', b1, b2, b3⟩ | ⟨K', k', b1, b2, b3, b4, b5, b6⟩ | ⟨K', b1, b2, b3, b4⟩
    · exact (ps_no a1 b1).elim
    · have e := ps_un a1 b1
      exact absurd (a2 k' (by omega)) b4
    · have e := ps_un a1 b1
      rw [e] at a3 a4
      exact ⟨by omega, by rw [a4, b4]⟩
theorem GW_zl (W : GW G) : GW (zlG G) := by
  obtain ⟨w1, w2, w3, w4, w7⟩ := W
  refine ⟨w1, w2, w3, ⟨?_, ?_, fun i j1 j2 => ?_⟩, w7⟩
  · show (0 : Int) ≤ 0
    omega
  · show (0 : Int) ≤ 96
    omega
  · have j2 : i < 0 := j2
    omega
theorem GW_tw (W : GW G) (hr : twR G v G') : GW G' := by
  rcases hr with ⟨q, a1, a2, a3⟩ | ⟨K, k, a1, a2, a3, a4, a5, a6⟩ | ⟨K, a1, a2, a3, a4⟩
  · rw [a3]
    exact GW_zl W
  · rw [a6]
    exact GW_zl W
  · rw [a4]
    have := GW_tp (GW_zl W) (st_ok W.1 K a2) (P := (0, G.2.2.1.2)) (GP_zero G)
    exact this
theorem CJ.zl (J : CJ G h) (W : GW G) : CJ (zlG G) (fu h 266 1 0) := J.sLe W ⟨fu_e rfl rfl, fun i j1 j2 => by
  have j2 : i < 0 := j2
  omega⟩ (fun c k n1 n2 => fu_c n1)
theorem MJ.zl (J : MJ G h) : MJ (zlG G) (fu h 271 19 0) := ⟨RM_sk J.1 (by omega), J.2.1.cg (fu_k (by omega)) (fun k => fu_c (by omega)), J.2.2.1.cg (fu_k (by omega)) (fun k => fu_c (by omega)), ⟨fu_e rfl rfl, fun i j1 j2 => by
  have j2 : i < 0 := j2
  omega⟩, J.2.2.2.2.cg (fu_k (by omega)) (fun k => fu_c (by omega))⟩
theorem cj_town (hs : fS 16 [1] h v h') (J : CJ G h) (W : GW G) : ∃ G', twR G v G' ∧ CJ G' h' ∧ xC h h' := by
  have hL : LB G.2.2.2.1 := W.2.2.2.1
  have hL' := hL.2.1
  have hB := W.1.1.1
  have t34 : tw 34 := by
    unfold tw
    omega
  have t11 : tw 11 := Or.inl rfl
  have moved : ∀ {q : fH} {g' : gV}, RC q 34 g' → frC 34 h q → CJ G q := fun r f => J.cg W (fun c k n => f c k (by omega)) r.rw'
  refine vc_town hs (fun x0 x2 x3 q => x0 = 1 ∧ ∃ K k : Nat, psK G.2.2.2.1 K ∧ k ≤ K ∧ x2 = (k : Int) ∧ x3 = plF G.2.2.2.1 k ∧ okX G.2.2.2.1 G.1 k ∧ RC q 34 (stG G.2.2.2.1 G.1 k) ∧ frC 34 h q) (fun v h' => ∃ G', twR G v G' ∧ CJ G' h' ∧ xC h h') ?_ ?_
  · intro v1 k1 hs1
    obtain ⟨a1, a2⟩ := sl_first hs1 J.2.2.2.1 hL
    rw [a1]
    refine ⟨fun q1 v2 k2 hs2 => ?_, fun q1 k2 ek2 z2 e2 => ?_⟩
    · obtain ⟨c1, c2⟩ := sc_copyFrom hs2 J.1 W.1.1.bg J.w34 t34 t11 (by omega)
      rcases a2 with ⟨a2, K, a3⟩ | ⟨a2, a3, a4⟩
      · exact ⟨rfl, K, 0, a3, Nat.zero_le _, rfl, rfl, fun j hj => by omega, c1, c2⟩
      · omega
    · rcases a2 with ⟨a2, K, a3⟩ | ⟨a2, a3, a4⟩
      · omega
      · have f2 := wr_d e2 (by omega) (by omega)
        refine ⟨zlG G, Or.inl ⟨v1, a4, f2, rfl⟩, ?_, ?_⟩
        · rw [ek2]
          exact J.zl W
        · rw [ek2]
          exact (xC.rf h).up (by decide)
  · rintro x0 x2 x3 q ⟨rfl, K, k, i1, i2, i3, i4, i5, i6, i7⟩ z3 e3
    have J1 := moved i6 i7
    have hk := ok_b hL k (fun j hj => i1.2.1 j (by omega))
    have x1 : xC h q := xC.fr i7 (by decide)
    have ws := st_ok W.1 k i5
    rw [J1.2.2.2.1.1] at e3
    have kK : G.2.2.2.1.1 ≤ x3 → k = K := fun q1 => by
      by_cases e : k = K
      · exact e
      · exfalso
        have g1 := i1.2.1 k (by omega)
        have g2 := gd_end g1.1
        have g3 := g1.1.1
        omega
    have good : ∀ {k1 k2 k3 : fH} {w : Int}, k = K → k1 = fu q 266 1 0 → fS 23 [11, 34] k1 w k2 → k3 = fu k2 80 2 0 → ∃ G', twR G x2 G' ∧ CJ G' k3 ∧ xC h k3 := fun {k1 k2 k3 w} e ek1 hs ek3 => by
      have J2 : CJ (zlG G) k1 := by
        rw [ek1]
        exact J1.zl W
      have R2 : RC k1 34 (stG G.2.2.2.1 G.1 k) := by
        rw [ek1]
        exact RC_sk i6 ws.1.bg (by omega)
      obtain ⟨c1, c2⟩ := sc_copyFrom hs R2 ws.1.bg (J2.2.2.2.2.2 11 t11) t11 t34 (by omega)
      have hO : ∀ c k, (c < 11 ∨ 33 < c) → (c = 80 → k ≠ 2) → k3 c k = k1 c k := fun c k n1 n2 => by
        rw [ek3]
        unfold fu
        rw [if_neg (by omega)]
        exact c2 c k (by omega)
      refine ⟨tnG G K, Or.inr (Or.inr ⟨K, i1, e ▸ i5, by rw [i3, e], rfl⟩), ?_, fun c k n1 => ?_⟩
      · rw [← e]
        refine J2.sTP (GW_zl W) ?_ (CP_zero ?_ ?_) ?_ (fun c k q => hO c k (by omega) (by omega))
        · rw [ek3]
          exact RC_sk c1 ws.1.bg (by omega)
        · rw [ek3, fu_e rfl rfl]
        · rw [hO _ _ (by omega) (by omega)]
          exact J2.2.2.1.2.1
        · rw [ek3]
          exact (J2.2.2.2.2.2.but t11 c2 c1.rw').fu (fun b hb => tw_no hb (by omega))
      · rw [hO c k (by omega) (by omega), ek1, fu_c (by omega)]
        exact x1 c k n1
    have bad : ∀ {k1 : fH}, k < K → ¬ tcF G.2.2.2.1 (plF G.2.2.2.1 k) (stG G.2.2.2.1 G.1 k) → k1 = fu q 266 1 0 → ∀ z, z = wr (-2000 - x3) → ∃ G', twR G z G' ∧ CJ G' k1 ∧ xC h k1 := fun e hn ek1 z ez => by
      have f := wr_d ez (by omega) (by omega)
      refine ⟨zlG G, Or.inr (Or.inl ⟨K, k, i1, e, i5, hn, by omega, rfl⟩), ?_, ?_⟩
      · rw [ek1]
        exact J1.zl W
      · rw [ek1]
        exact x1.up (by decide)
    refine ⟨fun q1 z4 e4 => ?_, fun q1 v1 k1 hs1 => ?_⟩
    · rw [J1.2.2.2.1.1] at e4
      refine ⟨fun q2 => by omega, fun _ k1 ek1 v2 k2 hs2 k3 ek3 => good (kK (by omega)) ek1 hs2 ek3⟩
    · have kl : k < K := by
        by_cases e : k = K
        · rw [e] at i4
          have := i1.2.2
          omega
        · omega
      have hg := (i1.2.1 k kl).1
      obtain ⟨f1, f2⟩ := sc_tell hs1 J1.2.2.2.1 hL i6 ws.1 ws.2 (by omega)
      rw [i4] at f2
      rcases f2 with ⟨f2, f3, f4⟩ | ⟨f2, f3, f4⟩
      · refine ⟨fun q2 => absurd q2 f2, fun _ z5 e5 v2 k2 hs2 v3 k3 hs3 z8 e8 z9 e9 => ?_⟩
        have J2 := moved f4 (i7.tr f1)
        obtain ⟨g1, g2⟩ := sl_at hs2 J2.2.2.2.1
        rw [g1] at hs3
        obtain ⟨g3, g4⟩ := sl_dig hs3
        rw [g2, i4] at g4
        have hd := dg_b (atF G.2.2.2.1 (plF G.2.2.2.1 k))
        have f5 := wr_d e5 (by omega) (by omega)
        have f8 := wr_d e8 (by omega) (by omega)
        have f9 := wr_d e9 (by omega) (by omega)
        rw [g3]
        refine ⟨rfl, K, k + 1, i1, kl, by omega, ?_, fun j hj => ?_, f4, i7.tr f1⟩
        · show z9 = plF G.2.2.2.1 k + 2 + dgF (atF G.2.2.2.1 (plF G.2.2.2.1 k))
          omega
        · by_cases e : j = k
          · rw [e]
            exact f3
          · exact i5 j (by omega)
      · rw [f4]
        refine ⟨fun _ z5 e5 => ?_, fun q2 => absurd f2 q2⟩
        rw [J1.2.2.2.1.1] at e5
        refine ⟨fun _ k2 ek2 z6 e6 => bad kl f3 ek2 z6 e6, fun q2 => by omega⟩
/-- what was read of the first k statements -/
noncomputable def rdA (L : Int × gV) (k : Nat) (q : fH) : Prop := ∀ j : Nat, j < k → q 287 j = plF L j ∧ q 288 j = atF L (plF L j) ∧ ∀ i, 0 ≤ i → i < dgF (atF L (plF L j)) → q 289 (5 * j + i) = dvF L (plF L j) (i + 1)
theorem rdA.cg {q q' : fH} {k : Nat} (a : rdA L k q) (e : ∀ c j, c = 287 ∨ c = 288 ∨ c = 289 → q' c j = q c j) : rdA L k q' := fun j hj => by
  obtain ⟨a1, a2, a3⟩ := a j hj
  exact ⟨(e _ _ (by omega)).trans a1, (e _ _ (by omega)).trans a2, fun i i1 i2 => (e _ _ (by omega)).trans (a3 i i1 i2)⟩
theorem dg_cc {c : Int} (h : 0 ≤ dgF c) : (c = 97 ∧ dgF c = 5) ∨ (c = 98 ∧ dgF c = 3) ∨ (c = 100 ∧ dgF c = 2) ∨ (c = 101 ∧ dgF c = 3) ∨ (c = 112 ∧ dgF c = 2) ∨ (c = 119 ∧ dgF c = 2) := by
  by_cases q1 : c = 97
  · exact Or.inl ⟨q1, by rw [q1]; rfl⟩
  by_cases q2 : c = 98
  · exact Or.inr (Or.inl ⟨q2, by rw [q2]; rfl⟩)
  by_cases q3 : c = 100
  · exact Or.inr (Or.inr (Or.inl ⟨q3, by rw [q3]; rfl⟩))
  by_cases q4 : c = 101
  · exact Or.inr (Or.inr (Or.inr (Or.inl ⟨q4, by rw [q4]; rfl⟩)))
  by_cases q5 : c = 112
  · exact Or.inr (Or.inr (Or.inr (Or.inr (Or.inl ⟨q5, by rw [q5]; rfl⟩))))
  by_cases q6 : c = 119
  · exact Or.inr (Or.inr (Or.inr (Or.inr (Or.inr ⟨q6, by rw [q6]; rfl⟩))))
  exfalso
  unfold dgF at h
  rw [if_neg q1, if_neg q2, if_neg q3, if_neg q4, if_neg q5, if_neg q6] at h
  omega
theorem mj_town (hs : fS 152 [271] h v h') (J : MJ G h) (W : GW G) : ∃ G', twR G v G' ∧ MJ G' h' ∧ xM h h' := by
  have hL : LB G.2.2.2.1 := W.2.2.2.1
  have hL' := hL.2.1
  have hB := W.1.1.1
  have toJ : ∀ {q : fH}, frT h q → MJ G q := fun f => J.cg (fun c k n => f c k (by omega) (by omega) (by omega) (by omega)) (RM_cg J.1 (fun c k j1 j2 j3 => f c k (by omega) (by omega) (by omega) (by omega)))
  have toX : ∀ {q : fH}, frT h q → xM h q := fun f c k n => f c k (by omega) (by omega) (by omega) (by omega)
  refine vr_town hs (fun x0 q => x0 = 271 ∧ frT h q ∧ ∃ k : Nat, q 271 22 = (k : Int) ∧ ((q 271 21 = 0 ∧ okP G.2.2.2.1 k ∧ q 271 20 = plF G.2.2.2.1 k ∧ rdA G.2.2.2.1 k q) ∨ (q 271 21 = 1 ∧ ∃ q0, psB G.2.2.2.1 q0 ∧ 0 ≤ q0 ∧ q0 ≤ 110 ∧ q 271 20 = q0))) (fun x0 x1 q => x0 = 271 ∧ ∃ K k : Nat, psK G.2.2.2.1 K ∧ k ≤ K ∧ x1 = (k : Int) ∧ okX G.2.2.2.1 G.1 k ∧ RM q (stG G.2.2.2.1 G.1 k) ∧ q 271 22 = (K : Int) ∧ q 271 19 = 0 ∧ (∀ i, 0 ≤ i → i < 113 → q 290 i = G.1 i) ∧ rdA G.2.2.2.1 K q ∧ ∀ c k, (c < 271 ∨ c = 286 ∨ c = 291 ∨ c = 292 ∨ c = 296 ∨ (c = 271 ∧ (k = 28 ∨ k = 34 ∨ k = 38))) → q c k = h c k) (fun v h' => ∃ G', twR G v G' ∧ MJ G' h' ∧ xM h h') ?_ ?_ ?_
  · intro k1 ek1 k2 ek2 k3 ek3 k4 ek4
    refine ⟨rfl, ?_, 0, ?_, Or.inl ⟨?_, fun j hj => by omega, ?_, fun j hj => by omega⟩⟩
    · rw [ek4, ek3, ek2, ek1]
      exact ((((frT.rf h).up (by omega)).up (by omega)).up (by omega)).up (by omega)
    · rw [ek4, fu_e rfl rfl]
      rfl
    · rw [ek4, fu_k (by omega), ek3, fu_e rfl rfl]
    · rw [ek4, fu_k (by omega), ek3, fu_k (by omega), ek2, fu_e rfl rfl]
      rfl
  · rintro x0 q ⟨rfl, i1, k, i2, i3⟩ z1 e1
    have J1 := toJ i1
    have x1 := toX i1
    have out : ∀ {k1 : fH}, k1 = fu q 271 19 0 → (q 271 21 = 0 → psK G.2.2.2.1 k) → ∀ z2 : Int, z2 = k1 271 21 → ((z2 = 0 → ∀ (v2 : Int) (h2 : fH), fS 159 [271, 290, 1] k1 v2 h2 → (271 : Int) = 271 ∧ ∃ K k : Nat, psK G.2.2.2.1 K ∧ k ≤ K ∧ (0 : Int) = (k : Int) ∧ okX G.2.2.2.1 G.1 k ∧ RM h2 (stG G.2.2.2.1 G.1 k) ∧ h2 271 22 = (K : Int) ∧ h2 271 19 = 0 ∧ (∀ i, 0 ≤ i → i < 113 → h2 290 i = G.1 i) ∧ rdA G.2.2.2.1 K h2 ∧ ∀ c k, (c < 271 ∨ c = 286 ∨ c = 291 ∨ c = 292 ∨ c = 296 ∨ (c = 271 ∧ (k = 28 ∨ k = 34 ∨ k = 38))) → h2 c k = h c k) ∧ (z2 ≠ 0 → ∀ z3 : Int, z3 = k1 271 20 → ∀ z4 : Int, z4 = wr ((-1000) - z3) → ∃ G', twR G z4 G' ∧ MJ G' k1 ∧ xM h k1)) := by
      intro k1 ek1 hK z2 e2
      have J2 : MJ (zlG G) k1 := by
        rw [ek1]
        exact J1.zl
      rw [ek1, fu_k (by omega)] at e2
      refine ⟨fun q2 v2 k2 hs2 => ?_, fun q2 z3 e3 z4 e4 => ?_⟩
      · rcases i3 with ⟨b1, b2, b3, b4⟩ | ⟨b1, b2⟩
        · obtain ⟨a1, a2, a3⟩ := sr_down hs2 J2.1 (by omega)
          have o : ∀ c k, c ≠ 290 → (c < 271 ∨ 284 < c ∨ (c = 271 ∧ (k = 22 ∨ k = 28 ∨ k = 34 ∨ k = 38))) → k2 c k = q c k := fun c k n1 n2 => by
            rw [a3 c k n1 (by omega), ek1]
            unfold fu
            rw [if_neg (by omega)]
          refine ⟨rfl, k, 0, hK b1, Nat.zero_le _, rfl, fun j hj => by omega, a1, ?_, ?_, a2, b4.cg (fun c j n => o c j (by omega) (by omega)), fun c k n => ?_⟩
          · rw [o _ _ (by omega) (by omega)]
            exact i2
          · rw [a3 _ _ (by omega) (by omega), ek1, fu_e rfl rfl]
          · rw [o c k (by omega) (by omega)]
            exact i1 c k (by omega) (by omega) (by omega) (by omega)
        · omega
      · rcases i3 with ⟨b1, b2, b3, b4⟩ | ⟨b1, q0, b2, b3, b4, b5⟩
        · omega
        · rw [ek1, fu_k (by omega), b5] at e3
          have f4 := wr_d e4 (by omega) (by omega)
          refine ⟨zlG G, Or.inl ⟨q0, b2, by omega, rfl⟩, J2, ?_⟩
          rw [ek1]
          exact x1.up (by decide)
    have rd : ∀ {v1 : Int} {k1 : fH}, fS 153 [271] q v1 k1 → q 271 21 = 0 → (k ≠ 0 → plF G.2.2.2.1 k < G.2.2.2.1.1) → (271 : Int) = 271 ∧ frT h k1 ∧ ∃ k : Nat, k1 271 22 = (k : Int) ∧ ((k1 271 21 = 0 ∧ okP G.2.2.2.1 k ∧ k1 271 20 = plF G.2.2.2.1 k ∧ rdA G.2.2.2.1 k k1) ∨ (k1 271 21 = 1 ∧ ∃ q0, psB G.2.2.2.1 q0 ∧ 0 ≤ q0 ∧ q0 ≤ 110 ∧ k1 271 20 = q0)) := by
      intro v1 k1 hs1 b0 hl
      rcases i3 with ⟨b1, b2, b3, b4⟩ | ⟨b1, b2⟩
      · have hk := ok_b hL k b2
        obtain ⟨a1, a2, a3, a4, a5, a6, a7⟩ := sr_readStatement hs1 J1.2.2.2.1 hL b3 hk.1 hk.2.1 b1 i2 (by omega) (by omega)
        refine ⟨rfl, i1.tr a1, k + 1, by omega, ?_⟩
        rcases a7 with ⟨a7, a8, a9, a10⟩ | ⟨q0, a7, a8, a9⟩
        · refine Or.inl ⟨a8, ok_s b2 a7 hl, by show _ = plF G.2.2.2.1 k + 2 + dgF (atF G.2.2.2.1 (plF G.2.2.2.1 k)); omega, fun j hj => ?_⟩
          by_cases e : j = k
          · subst e
            refine ⟨a3, a4, fun i l1 l2 => ?_⟩
            rw [a10 i l1 l2]
            unfold dvF
            rw [show plF G.2.2.2.1 j + 1 + i = plF G.2.2.2.1 j + (i + 1) by omega]
          · obtain ⟨c1, c2, c3⟩ := b4 j (by omega)
            have hd := dg_b (atF G.2.2.2.1 (plF G.2.2.2.1 j))
            refine ⟨by rw [(a5 j (by omega)).1]; exact c1, by rw [(a5 j (by omega)).2]; exact c2, fun i l1 l2 => ?_⟩
            rw [a6 _ (by omega)]
            exact c3 i l1 l2
        · have bb := bd_b hL ⟨hk.1, hk.2.1⟩ a7
          exact Or.inr ⟨a8, q0, ⟨k, b2, hl, a7⟩, bb.1, bb.2, a9⟩
      · omega
    refine ⟨fun q1 k1 ek1 => out ek1 (fun b => absurd b (by omega)), fun q1 z2 e2 => ⟨fun q3 v1 k1 hs1 => rd hs1 (by omega) (fun n => absurd n (by omega)), fun q3 z3 e3 z4 e4 => ⟨fun q4 k1 ek1 => out ek1 (fun b => ?_), fun q4 v1 k1 hs1 => rd hs1 (by omega) (fun n => ?_)⟩⟩⟩
    · rw [J1.2.2.2.1.1] at e4
      rcases i3 with ⟨b1, b2, b3, b4⟩ | ⟨b1, b2⟩
      · exact ⟨by omega, b2, by omega⟩
      · omega
    · rw [J1.2.2.2.1.1] at e4
      rcases i3 with ⟨b1, b2, b3, b4⟩ | ⟨b1, b2⟩
      · omega
      · omega
  · rintro x0 x1 q ⟨rfl, K, k, i1, i2, i3, i4, i5, i6, i7, i8, i9, i10⟩ z2 e2
    have ws := st_ok W.1 k i4
    have hK := ok_b hL K i1.2.1
    have mk : ∀ {q1 : fH} {g' : gV} {P : Int × (Int → gV)}, RM q1 g' → q1 271 19 = 0 → MP P q1 → (∀ c k, (c < 271 ∨ c = 286 ∨ c = 291 ∨ c = 296 ∨ (c = 271 ∧ (k = 28 ∨ k = 38))) → q1 c k = h c k) → MJ (sP (sT (zlG G) g') P) q1 := fun r1 r2 r3 r4 => ⟨r1, J.2.1.cg (r4 _ _ (by omega)) (fun k => r4 _ _ (by omega)), r3, ⟨r2, fun i j1 j2 => by
      have j2 : i < 0 := j2
      omega⟩, J.2.2.2.2.cg (r4 _ _ (by omega)) (fun k => r4 _ _ (by omega))⟩
    rw [i6] at e2
    refine ⟨fun q1 k1 ek1 z3 e3 => ?_, fun q1 v1 k1 hs1 => ?_⟩
    · have e : k = K := by omega
      have o : ∀ c k, (c = 271 → k ≠ 34) → k1 c k = q c k := fun c k n => by
        rw [ek1]
        unfold fu
        rw [if_neg (by omega)]
      rw [o _ _ (by omega), i6] at e3
      refine ⟨tnG G K, Or.inr (Or.inr ⟨K, i1, e ▸ i4, e3, rfl⟩), ?_, fun c k n => ?_⟩
      · rw [← e]
        refine mk ?_ ?_ (MP_zero ?_) (fun c k n => ?_)
        · rw [ek1]
          exact RM_sk i5 (by omega)
        · rw [o _ _ (by omega)]
          exact i7
        · rw [ek1, fu_e rfl rfl]
        · rw [o c k (by omega)]
          exact i10 c k (by omega)
      · rw [o c k (by omega)]
        exact i10 c k (by omega)
    · have kl : k < K := by omega
      have hg := (i1.2.1 k kl).1
      have hd := dg_b (atF G.2.2.2.1 (plF G.2.2.2.1 k))
      obtain ⟨c1, c2, c3⟩ := i9 k kl
      obtain ⟨g1, g2, g3⟩ := hg
      have dig : ∀ j, 1 ≤ j → j ≤ dgF (atF G.2.2.2.1 (plF G.2.2.2.1 k)) → q 289 (5 * (k : Int) + (j - 1)) = dvF G.2.2.2.1 (plF G.2.2.2.1 k) j ∧ 0 ≤ dvF G.2.2.2.1 (plF G.2.2.2.1 k) j ∧ dvF G.2.2.2.1 (plF G.2.2.2.1 k) j ≤ 9 := fun j j1 j2 => by
        have d1 := c3 (j - 1) (by omega) (by omega)
        rw [show j - 1 + 1 = j by omega] at d1
        have d2 := g2 (plF G.2.2.2.1 k + j) (by omega) (by omega)
        unfold diF at d2
        refine ⟨d1, ?_, ?_⟩
        · unfold dvF
          omega
        · unfold dvF
          omega
      obtain ⟨cc, ecc⟩ : ∃ cc, atF G.2.2.2.1 (plF G.2.2.2.1 k) = cc := ⟨_, rfl⟩
      rw [ecc] at hd dig c2 g1
      have dgc := dg_cc g1
      obtain ⟨d1, d1a, d1b⟩ := dig 1 (by omega) (by omega)
      obtain ⟨d2, d2a, d2b⟩ := dig 2 (by omega) (by omega)
      rw [show 5 * (k : Int) + (1 - 1) = 5 * (k : Int) by omega] at d1
      rw [show 5 * (k : Int) + (2 - 1) = 5 * (k : Int) + 1 by omega] at d2
      have hx : cc = 101 ∨ cc = 98 ∨ cc = 97 → q 289 (5 * (k : Int) + 2) = dvF G.2.2.2.1 (plF G.2.2.2.1 k) 3 ∧ 0 ≤ dvF G.2.2.2.1 (plF G.2.2.2.1 k) 3 ∧ dvF G.2.2.2.1 (plF G.2.2.2.1 k) 3 ≤ 9 := fun n => dig 3 (by omega) (by omega)
      have hde : cc = 97 → (q 289 (5 * (k : Int) + 3) = dvF G.2.2.2.1 (plF G.2.2.2.1 k) 4 ∧ 0 ≤ dvF G.2.2.2.1 (plF G.2.2.2.1 k) 4 ∧ dvF G.2.2.2.1 (plF G.2.2.2.1 k) 4 ≤ 9) ∧ (q 289 (5 * (k : Int) + 4) = dvF G.2.2.2.1 (plF G.2.2.2.1 k) 5 ∧ 0 ≤ dvF G.2.2.2.1 (plF G.2.2.2.1 k) 5 ∧ dvF G.2.2.2.1 (plF G.2.2.2.1 k) 5 ≤ 9) := fun n => ⟨dig 4 (by omega) (by omega), dig 5 (by omega) (by omega)⟩
      rw [i3] at hs1
      have hk4 := ok_b hL k (fun j hj => i1.2.1 j (by omega))
      obtain ⟨f1, f2⟩ := sr_comes hs1 i5 ws.1 ws.2 (by omega) (by omega) c2 d1 d2 rfl rfl rfl ⟨d1a, d1b⟩ ⟨d2a, d2b⟩ (fun n => by have := hx n; omega) (fun n => by have := hde n; omega) (by omega)
      obtain ⟨t1, t2⟩ := tl_cg (c := cc) (a := dvF G.2.2.2.1 (plF G.2.2.2.1 k) 1) (b := dvF G.2.2.2.1 (plF G.2.2.2.1 k) 2) (g := stG G.2.2.2.1 G.1 k) (fun n => (hx n).1) (fun n => ⟨(hde n).1.1, (hde n).2.1⟩)
      have hT : tcF G.2.2.2.1 (plF G.2.2.2.1 k) (stG G.2.2.2.1 G.1 k) ↔ tlC cc (dvF G.2.2.2.1 (plF G.2.2.2.1 k) 1) (dvF G.2.2.2.1 (plF G.2.2.2.1 k) 2) (q 289 (5 * (k : Int) + 2)) (q 289 (5 * (k : Int) + 3)) (q 289 (5 * (k : Int) + 4)) (stG G.2.2.2.1 G.1 k) := by
        unfold tcF
        rw [ecc]
        exact t1.symm
      have hG : tgF G.2.2.2.1 (plF G.2.2.2.1 k) (stG G.2.2.2.1 G.1 k) = tlG cc (dvF G.2.2.2.1 (plF G.2.2.2.1 k) 1) (dvF G.2.2.2.1 (plF G.2.2.2.1 k) 2) (q 289 (5 * (k : Int) + 2)) (q 289 (5 * (k : Int) + 3)) (q 289 (5 * (k : Int) + 4)) (stG G.2.2.2.1 G.1 k) := by
        unfold tgF
        rw [ecc]
        exact t2.symm
      rcases f2 with ⟨f2, f3, f4⟩ | ⟨f2, f3, f4⟩
      · refine ⟨fun _ z4 e4 => ?_, fun q2 => absurd q2 f2⟩
        have g4 := wr_d e4 (by omega) (by omega)
        refine ⟨rfl, K, k + 1, i1, kl, by omega, fun j hj => ?_, ?_, ?_, ?_, fun i l1 l2 => ?_, i9.cg (fun c j n => f1 c j (by omega)), fun c k n => ?_⟩
        · by_cases e : j = k
          · rw [e]
            exact hT.mpr f3
          · exact i4 j (by omega)
        · show RM k1 (tgF G.2.2.2.1 (plF G.2.2.2.1 k) (stG G.2.2.2.1 G.1 k))
          rw [hG]
          exact f4
        · rw [f1 _ _ (by omega)]
          exact i6
        · rw [f1 _ _ (by omega)]
          exact i7
        · rw [f1 _ _ (by omega)]
          exact i8 i l1 l2
        · rw [f1 c k (by omega)]
          exact i10 c k n
      · rw [f4]
        refine ⟨fun q2 => absurd f2 q2, fun _ v2 k2 hs2 z5 e5 z6 e6 => ?_⟩
        obtain ⟨a1, a2, a3⟩ := sr_up hs2 i8 (by omega)
        rw [a3 287 x1 (by omega) (by omega), i3, c1] at e5
        have f6 := wr_d e6 (by omega) (by omega)
        refine ⟨zlG G, Or.inr (Or.inl ⟨K, k, i1, kl, i4, fun n => f3 (hT.mp n), by omega, rfl⟩), ?_, fun c k n => ?_⟩
        · refine mk (P := G.2.2.1) a1 ?_ (J.2.2.1.cg ?_ (fun k => ?_)) (fun c k n => ?_)
          · rw [a3 _ _ (by omega) (by omega)]
            exact i7
          · rw [a3 _ _ (by omega) (by omega)]
            exact i10 _ _ (by omega)
          · rw [a3 _ _ (by omega) (by omega)]
            exact i10 _ _ (by omega)
          · rw [a3 c k (by omega) (by omega)]
            exact i10 c k (by omega)
        · rw [a3 c k (by omega) (by omega)]
          exact i10 c k (by omega)
end TW
