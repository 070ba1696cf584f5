/-! the past, persons, wishes, beliefs, events, the image up again: on both sides -/
section PA
variable {h h' h0 h1 k1 k2 k3 : fH} {v z c k x y a1 a2 a3 a4 a5 n p b : Int} {g g' : gV} {G G' : gS} {P : Int × (Int → gV)}
theorem wr_f {z a : Int} (e : z = wr a) : -2147483648 ≤ a ∧ a ≤ 2147483647 → z = a := fun q => by
  rw [e]
  exact wr_id q.1 q.2
theorem wr_d {z a : Int} (e : z = wr a) (h1 : -2147483648 ≤ a) (h2 : a ≤ 2147483647) : z = a := by
  rw [e]
  exact wr_id h1 h2
theorem xl_lt {z a b : Int} (e : z = xlcmp a b) (q : z < 0) : a < b := xlcmp_l.mp (e ▸ q)
theorem xl_ge {z a b : Int} (e : z = xlcmp a b) (q : 0 ≤ z) : b ≤ a := xlcmp_ge.mp (e ▸ q)
theorem xl_gt {z a b : Int} (e : z = xlcmp a b) (q : 0 < z) : b < a := xlcmp_g.mp (e ▸ q)
theorem xl_le {z a b : Int} (e : z = xlcmp a b) (q : z ≤ 0) : a ≤ b := xlcmp_le.mp (e ▸ q)
theorem WF_of (W : WF g) (e3 : ∀ i, (i ≤ 2 ∨ 83 ≤ i ∨ (3 ≤ i ∧ i < 38 ∧ (i - 3) % 5 ≠ 2)) → g' i = g i) (hw : ∀ p, 0 ≤ p → p < g 0 → 0 ≤ g' (5 + 5 * p) ∧ g' (5 + 5 * p) ≤ 6) (hb : ∀ p e, 0 ≤ p → p < g 0 → 0 ≤ e → e < 5 → 0 ≤ g' (38 + 5 * p + e) ∧ g' (38 + 5 * p + e) ≤ 9) (he : ∀ e, 0 ≤ e → e < 5 → 1 ≤ g' (73 + 2 * e) ∧ g' (73 + 2 * e) ≤ 9 ∧ 0 ≤ g' (74 + 2 * e) ∧ g' (74 + 2 * e) ≤ 8) : WF g' := by
  have hB := W.1
  have c0 := e3 0 (by omega)
  have c1 := e3 1 (by omega)
  have c2 := e3 2 (by omega)
  refine ⟨?_, fun q j1 j2 => ?_, fun q e j1 j2 j3 j4 => ?_, he, fun w j1 j2 => ?_, fun w w' j1 j2 j3 => ?_⟩
  · rw [c0, c1, c2]
    exact hB
  · rw [c0] at j2 ⊢
    have w1 := W.per j1 j2
    have w2 := hw q j1 j2
    rw [e3 (3 + 5 * q) (by omega), e3 (4 + 5 * q) (by omega), e3 (6 + 5 * q) (by omega), e3 (7 + 5 * q) (by omega)]
    omega
  · rw [c0] at j2
    exact hb q e j1 j2 j3 j4
  · rw [c2] at j2
    have wx := W.wag j1 j2
    rw [c0, e3 (83 + 5 * w) (by omega), e3 (84 + 5 * w) (by omega), e3 (85 + 5 * w) (by omega), e3 (86 + 5 * w) (by omega), e3 (87 + 5 * w) (by omega), e3 (7 + 5 * g (83 + 5 * w)) (by omega), e3 (7 + 5 * g (84 + 5 * w)) (by omega)]
    exact wx
  · rw [c2] at j3
    rw [e3 (83 + 5 * w) (by omega), e3 (84 + 5 * w) (by omega), e3 (83 + 5 * w') (by omega), e3 (84 + 5 * w') (by omega)]
    exact W.2.2.2.2.2 w w' j1 j2 j3
theorem WF_wish (W : WF g) (h1 : 0 ≤ p) (h2 : p < g 0) (h3 : 0 ≤ z) (h4 : z ≤ 6) : WF (gu g (5 + 5 * p) z) := by
  have hB := W.1
  refine WF_of W (fun i hi => gu_n (by omega)) (fun q j1 j2 => ?_) (fun q e j1 j2 j3 j4 => ?_) (fun e j1 j2 => ?_)
  · by_cases hq : q = p
    · subst hq
      rw [gu_e rfl]
      exact ⟨h3, h4⟩
    · rw [gu_n (by omega)]
      have := W.per j1 j2
      omega
  · rw [gu_n (by omega)]
    exact W.bel j1 j2 j3 j4
  · rw [gu_n (by omega), gu_n (by omega)]
    exact W.evt j1 j2
theorem WF_bel {e : Int} (W : WF g) (h1 : 0 ≤ p) (h2 : p < g 0) (h5 : 0 ≤ e) (h6 : e < 5) (h3 : 0 ≤ z) (h4 : z ≤ 9) : WF (gu g (38 + 5 * p + e) z) := by
  have hB := W.1
  refine WF_of W (fun i hi => gu_n (by omega)) (fun q j1 j2 => ?_) (fun q e' j1 j2 j3 j4 => ?_) (fun e' j1 j2 => ?_)
  · rw [gu_n (by omega)]
    have := W.per j1 j2
    omega
  · have := W.bel j1 j2 j3 j4
    unfold gu
    split
    · exact ⟨h3, h4⟩
    · exact this
  · rw [gu_n (by omega), gu_n (by omega)]
    exact W.evt j1 j2
theorem WF_set {e : Int} (W : WF g) (h5 : 0 ≤ e) (h6 : e < 5) (h1 : 1 ≤ y) (h2 : y ≤ 9) (h3 : 0 ≤ z) (h4 : z ≤ 8) : WF (gu (gu g (73 + 2 * e) y) (74 + 2 * e) z) := by
  have hB := W.1
  refine WF_of W (fun i hi => by rw [gu_n (by omega), gu_n (by omega)]) (fun q j1 j2 => ?_) (fun q e' j1 j2 j3 j4 => ?_) (fun e' j1 j2 => ?_)
  · rw [gu_n (by omega), gu_n (by omega)]
    have := W.per j1 j2
    omega
  · rw [gu_n (by omega), gu_n (by omega)]
    exact W.bel j1 j2 j3 j4
  · have := W.evt j1 j2
    by_cases hq : e' = e
    · subst hq
      rw [gu_n (by omega), gu_e rfl, gu_e rfl]
      omega
    · rw [gu_n (by omega), gu_n (by omega), gu_n (by omega), gu_n (by omega)]
      exact this
theorem GW_tp (W : GW G) (hg : WF g ∧ g 1 ≤ 999) (hP : 0 ≤ P.1 ∧ P.1 ≤ 8 ∧ ∀ t, 0 ≤ t → t < P.1 → WF (P.2 t) ∧ P.2 t 1 ≤ 999) : GW (sP (sT G g) P) := ⟨hg, W.2.1, hP, W.2.2.2.1, W.2.2.2.2⟩
theorem keep_f (P : Int × (Int → gV)) (g : gV) : ∃ T1 Pp, keepP P g = (T1 + 1, fun t => if t = T1 then g else Pp t) ∧ ((P.1 = 8 ∧ T1 = 7 ∧ Pp = fun t => P.2 (t + 1)) ∨ (P.1 ≠ 8 ∧ T1 = P.1 ∧ Pp = P.2)) := by
  by_cases q : P.1 = 8
  · exact ⟨7, fun t => P.2 (t + 1), if_pos q, Or.inl ⟨q, rfl, rfl⟩⟩
  · exact ⟨P.1, P.2, if_neg q, Or.inr ⟨q, rfl, rfl⟩⟩
theorem GP_keep (W : GW G) : 0 ≤ (keepP G.2.2.1 G.1).1 ∧ (keepP G.2.2.1 G.1).1 ≤ 8 ∧ ∀ t, 0 ≤ t → t < (keepP G.2.2.1 G.1).1 → WF ((keepP G.2.2.1 G.1).2 t) ∧ (keepP G.2.2.1 G.1).2 t 1 ≤ 999 := by
  obtain ⟨w1, w2, w3⟩ := W.2.2.1
  obtain ⟨T1, Pp, e, hc⟩ := keep_f G.2.2.1 G.1
  rw [e]
  dsimp only
  refine ⟨by omega, by omega, fun t j1 j2 => ?_⟩
  split
  · exact W.1
  · rcases hc with ⟨q1, q2, q3⟩ | ⟨q1, q2, q3⟩
    · rw [q3]
      exact w3 (t + 1) (by omega) (by omega)
    · rw [q3]
      exact w3 t j1 (by omega)
theorem GW_keep (W : GW G) : GW (sP G (keepP G.2.2.1 G.1)) := ⟨W.1, W.2.1, GP_keep W, W.2.2.2.1, W.2.2.2.2⟩
theorem past_mv {z4 z6 z10 : Int} (r : RC h b g') (hB : BG g') (ek1 : k1 = fu h 80 1 z4) (c2 : frC z6 k1 k2) (ek3 : k3 = fu k2 80 2 z10) (hb : 82 ≤ b) (hd : b + 22 < z6 ∨ z6 + 22 < b) : RC k3 b g' := by
  rw [ek3]
  refine RC_sk (RC_frC ?_ hB c2 hd) hB (by omega)
  rw [ek1]
  exact RC_sk r hB (by omega)
theorem cj_keep (hs : fS 87 [80, 11] h v h') (J : CJ G h) (W : GW G) : CJ (sP G (keepP G.2.2.1 G.1)) h' ∧ xC h h' := by
  obtain ⟨j1, j2, j3⟩ := J.2.2.1
  obtain ⟨w1, w2, w3⟩ := W.2.2.1
  refine vp_keep hs (fun v h' => CJ (sP G (keepP G.2.2.1 G.1)) h' ∧ xC h h') ?_
  intro z2 e2 z3 e3 z4 e4 k1 ek1 z5 e5 z6 e6 v2 k2 hs2 z8 e8 z9 e9 z10 e10 k3 ek3
  rw [wr_id (by omega) (by omega)] at e3
  rw [xrem_nn (by omega) (by omega) (by omega)] at e4
  rw [ek1, fu_e rfl rfl] at e5
  have b4 : 0 ≤ z4 ∧ z4 < 8 := by omega
  have b6 : 82 ≤ z6 ∧ z6 ≤ 243 := by omega
  have t6 : tw z6 := by
    unfold tw
    omega
  have R1 : RC k1 11 G.1 := by
    rw [ek1]
    exact RC_sk J.1 W.1.1.bg (by omega)
  have CW1 : CW k1 := by
    rw [ek1]
    exact J.2.2.2.2.2.fu (fun b hb => tw_no hb (by omega))
  obtain ⟨c1, c2⟩ := sc_copyFrom hs2 R1 W.1.1.bg (CW1 z6 t6) t6 (by unfold tw; omega) (by omega)
  have d8 : z8 = G.2.2.1.1 := by
    rw [e8, c2 80 2 (by omega), ek1, fu_k (by omega), j1]
  rw [wr_id (by omega) (by omega)] at e9
  unfold xmin at e10
  have l1 : k3 80 1 = z4 := by
    rw [ek3, fu_k (by omega), c2 80 1 (by omega), ek1, fu_e rfl rfl]
  have l2 : k3 80 2 = z10 := by
    rw [ek3, fu_e rfl rfl]
  have hO : ∀ c k, c < 80 ∨ 265 < c → k3 c k = h c k := fun c k q => by
    rw [ek3, fu_c (by omega), c2 c k (by omega), ek1, fu_c (by omega)]
  refine ⟨J.sTP (g := G.1) W ?_ ?_ ?_ (fun c k q => hO c k (by omega)), fun c k q => hO c k (by omega)⟩
  · exact RC_cg J.1 W.1.1.bg (fun c k n1 n2 => hO c k (by omega))
  · obtain ⟨T1, Pp, e, hc⟩ := keep_f G.2.2.1 G.1
    rw [e]
    refine ⟨?_, ?_, fun t t1 t2 => ?_⟩
    · show k3 80 2 = T1 + 1
      rw [l2, e10]
      split <;> omega
    · rw [l1]
      exact b4
    · have t2 : t < T1 + 1 := t2
      rw [l1]
      show RC k3 (pB z4 (T1 + 1) t) (if t = T1 then G.1 else Pp t)
      by_cases q : t = T1
      · rw [if_pos q]
        have eb : pB z4 (T1 + 1) t = z6 := by
          unfold pB
          omega
        rw [eb, ek3]
        exact RC_sk c1 W.1.1.bg (by omega)
      · rw [if_neg q]
        have bb := pB_b z4 (T1 + 1) t
        have bd : pB z4 (T1 + 1) t + 22 < z6 ∨ z6 + 22 < pB z4 (T1 + 1) t := by
          unfold pB
          omega
        rcases hc with ⟨q1, q2, q3⟩ | ⟨q1, q2, q3⟩
        · rw [q3]
          have r := j3 (t + 1) (by omega) (by omega)
          have eb : pB (h 80 1) G.2.2.1.1 (t + 1) = pB z4 (T1 + 1) t := by
            unfold pB
            omega
          rw [eb] at r
          exact past_mv r (w3 (t + 1) (by omega) (by omega)).1.bg ek1 c2 ek3 bb.1 bd
        · rw [q3]
          have r := j3 t t1 (by omega)
          have eb : pB (h 80 1) G.2.2.1.1 t = pB z4 (T1 + 1) t := by
            unfold pB
            omega
          rw [eb] at r
          exact past_mv r (w3 t t1 (by omega)).1.bg ek1 c2 ek3 bb.1 bd
  · rw [ek3]
    exact (CW1.but t6 c2 c1.rw').fu (fun b hb => tw_no hb (by omega))
theorem mj_keep (hs : fS 192 [271] h v h') (J : MJ G h) (W : GW G) : MJ (sP G (keepP G.2.2.1 G.1)) h' ∧ xM h h' := by
  obtain ⟨j1, j3⟩ := J.2.2.1
  obtain ⟨w1, w2, w3⟩ := W.2.2.1
  obtain ⟨T1, Pp, eK, hc⟩ := keep_f G.2.2.1 G.1
  refine vr_keepTurn hs (fun x0 x1 q => x0 = 271 ∧ G.2.2.1.1 = 8 ∧ 113 ≤ x1 ∧ x1 ≤ 904 ∧ (∀ c k, c ≠ 292 → q c k = h c k) ∧ ∀ i, 0 ≤ i → i < 904 → q 292 i = if i < x1 - 113 then h 292 (i + 113) else h 292 i) (fun x0 x1 q => x0 = 271 ∧ 0 ≤ x1 ∧ x1 ≤ 113 ∧ RM q G.1 ∧ q 271 34 = T1 ∧ (∀ i, 0 ≤ i → i < 113 → q 293 i = G.1 i) ∧ (∀ t i, 0 ≤ t → t < T1 → 0 ≤ i → i < 113 → q 292 (113 * t + i) = Pp t i) ∧ (∀ i, 0 ≤ i → i < x1 → q 292 (113 * T1 + i) = G.1 i) ∧ ∀ c k, (c < 271 ∨ (c = 271 ∧ (k = 28 ∨ k = 19 ∨ k = 38)) ∨ c = 286 ∨ c = 291 ∨ c = 296) → q c k = h c k) (fun v h' => MJ (sP G (keepP G.2.2.1 G.1)) h' ∧ xM h h') ?_ ?_ ?_
  · intro z1 e1
    rw [j1] at e1
    refine ⟨fun q1 v1 k1 hs1 => ?_, fun q1 => ⟨rfl, by omega, by omega, by omega, fun c k _ => rfl, fun i i1 i2 => ?_⟩⟩
    · obtain ⟨a1, a2, a3⟩ := sr_down hs1 J.1 (by omega)
      rcases hc with ⟨q2, q3, q4⟩ | ⟨q2, q3, q4⟩
      · omega
      · refine ⟨rfl, by omega, by omega, a1, ?_, a2, fun t i t1 t2 i1 i2 => ?_, fun i i1 i2 => by omega, fun c k q => a3 c k (by omega) (by omega)⟩
        · rw [a3 271 34 (by omega) (by omega), j1, q3]
        · rw [a3 292 _ (by omega) (by omega), q4]
          exact j3 t i t1 (by omega) i1 i2
    · rw [if_neg (by omega)]
  · rintro x0 x1 q ⟨rfl, i1, i2, i3, i4, i5⟩
    refine ⟨fun q1 z2 e2 z3 e3 k1 ek1 v2 k2 hs2 => ?_, fun q1 z2 e2 z3 e3 k1 ek1 z4 e4 => ?_⟩
    · rw [i4 _ _ (by omega), j1] at e2
      rw [wr_id (by omega) (by omega)] at e3
      have R1 : RM k1 G.1 := by
        rw [ek1]
        exact RM_sk (RM_cg J.1 (fun c k n1 n2 n3 => i4 c k (by omega))) (by omega)
      obtain ⟨a1, a2, a3⟩ := sr_down hs2 R1 (by omega)
      rcases hc with ⟨q2, q3, q4⟩ | ⟨q2, q3, q4⟩
      · refine ⟨rfl, by omega, by omega, a1, ?_, a2, fun t i t1 t2 n1 n2 => ?_, fun i n1 n2 => by omega, fun c k q => ?_⟩
        · rw [a3 271 34 (by omega) (by omega), ek1, fu_e rfl rfl]
          omega
        · rw [a3 292 _ (by omega) (by omega), ek1, fu_c (by omega), i5 _ (by omega) (by omega), if_pos (by omega), q4, show 113 * t + i + 113 = 113 * (t + 1) + i by omega]
          exact j3 (t + 1) i (by omega) (by omega) n1 n2
        · rw [a3 c k (by omega) (by omega), ek1]
          unfold fu
          rw [if_neg (by omega)]
          exact i4 c k (by omega)
      · omega
    · rw [wr_id (by omega) (by omega)] at e2 e4
      refine ⟨rfl, i1, by omega, by omega, fun c k n1 => ?_, fun i n1 n2 => ?_⟩
      · rw [ek1, fu_c n1]
        exact i4 c k n1
      · rw [ek1]
        by_cases q2 : i = z2
        · rw [fu_e rfl q2, e3, i5 _ (by omega) (by omega), if_neg (by omega), if_pos (by omega), q2, e2, show x1 - 113 + 113 = x1 by omega]
        · rw [fu_k q2, i5 _ n1 n2]
          by_cases q3 : i < x1 - 113
          · rw [if_pos q3, if_pos (by omega)]
          · rw [if_neg q3, if_neg (by omega)]
  · rintro x0 x1 q ⟨rfl, i1, i2, i3, i4, i5, i6, i7, i8⟩
    refine ⟨fun q1 z2 e2 z3 e3 k1 ek1 => ?_, fun q1 z2 e2 z3 e3 z4 e4 z5 e5 k1 ek1 z6 e6 => ?_⟩
    · rw [i4] at e2
      rw [wr_id (by omega) (by omega)] at e3
      have hO : ∀ c k, (c < 271 ∨ (c = 271 ∧ (k = 28 ∨ k = 19 ∨ k = 38)) ∨ c = 286 ∨ c = 291 ∨ c = 296) → k1 c k = h c k := fun c k n1 => by
        rw [ek1]
        unfold fu
        rw [if_neg (by omega)]
        exact i8 c k n1
      refine ⟨J.sTP (g := G.1) ?_ ?_ (fun c k n1 => hO c k (by omega)), fun c k n1 => hO c k (by omega)⟩
      · rw [ek1]
        exact RM_sk i3 (by omega)
      · rw [eK]
        refine ⟨?_, fun t i t1 t2 n1 n2 => ?_⟩
        · rw [ek1, fu_e rfl rfl]
          show z3 = T1 + 1
          omega
        · have t2 : t < T1 + 1 := t2
          show k1 292 (113 * t + i) = (if t = T1 then G.1 else Pp t) i
          rw [ek1, fu_c (by omega)]
          by_cases q2 : t = T1
          · rw [if_pos q2, q2]
            exact i7 i n1 (by omega)
          · rw [if_neg q2]
            exact i6 t i t1 (by omega) n1 n2
    · rw [i4] at e2
      rw [wr_id (by omega) (by omega)] at e3
      rw [wr_id (by omega) (by omega)] at e4 e6
      rw [i5 x1 i1 (by omega)] at e5
      refine ⟨rfl, by omega, by omega, ?_, ?_, fun i n1 n2 => ?_, fun t i t1 t2 n1 n2 => ?_, fun i n1 n2 => ?_, fun c k n1 => ?_⟩
      · rw [ek1]
        exact RM_sk i3 (by omega)
      · rw [ek1, fu_c (by omega)]
        exact i4
      · rw [ek1, fu_c (by omega)]
        exact i5 i n1 n2
      · rw [ek1, fu_k (by omega)]
        exact i6 t i t1 t2 n1 n2
      · rw [ek1]
        by_cases q2 : i = x1
        · rw [fu_e rfl (by omega), q2]
          exact e5
        · rw [fu_k (by omega)]
          exact i7 i n1 (by omega)
      · rw [ek1, fu_c (by omega)]
        exact i8 c k n1
-- back
noncomputable def backC (G : gS) : Prop := G.2.2.1.1 ≠ 0
noncomputable def backG (G : gS) : gS := sP (sT G (G.2.2.1.2 (G.2.2.1.1 - 1))) (G.2.2.1.1 - 1, G.2.2.1.2)
noncomputable def backA (G : gS) : Int := if G.2.2.1.1 = 0 then -3 else G.2.2.1.1 - 1
theorem GW_back (W : GW G) (hc : backC G) : GW (backG G) := by
  obtain ⟨w1, w2, w3⟩ := W.2.2.1
  unfold backC at hc
  refine GW_tp W (w3 _ (by omega) (by omega)) ⟨?_, ?_, fun t j1 j2 => ?_⟩
  · show 0 ≤ G.2.2.1.1 - 1
    omega
  · show G.2.2.1.1 - 1 ≤ 8
    omega
  · have j2 : t < G.2.2.1.1 - 1 := j2
    exact w3 t j1 (by omega)
theorem cj_putBack (hs : fS 93 [80, 11] h v h') (J : CJ G h) (W : GW G) (hc : backC G) : CJ (backG G) h' ∧ xC h h' := by
  obtain ⟨j1, j2, j3⟩ := J.2.2.1
  obtain ⟨w1, w2, w3⟩ := W.2.2.1
  unfold backC at hc
  refine vp_putBack hs (fun v h' => CJ (backG G) h' ∧ xC h h') ?_
  intro z2 e2 z3 e3 v1 k1 hs1 z5 e5 z6 e6 z7 e7 z8 e8 k2 ek2 z9 e9 z10 e10 k3 ek3
  have eb : pB (h 80 1) G.2.2.1.1 (G.2.2.1.1 - 1) = z3 := by
    unfold pB
    omega
  have r3 := j3 (G.2.2.1.1 - 1) (by omega) (by omega)
  have B3 := (w3 (G.2.2.1.1 - 1) (by omega) (by omega)).1.bg
  rw [eb] at r3
  have t3 : tw z3 := by
    rw [← eb]
    exact pB_tw _ _ _
  have b3 : 82 ≤ z3 ∧ z3 ≤ 243 := by omega
  have t11 : tw 11 := by
    unfold tw
    omega
  obtain ⟨c1, c2⟩ := sc_copyFrom hs1 r3 B3 (J.2.2.2.2.2 11 t11) t11 t3 (by omega)
  rw [c2 80 1 (by omega)] at e5
  rw [wr_id (by omega) (by omega)] at e6
  rw [wr_id (by omega) (by omega)] at e7
  rw [xrem_nn (by omega) (by omega) (by omega)] at e8
  have d9 : z9 = G.2.2.1.1 := by
    rw [e9, ek2, fu_k (by omega), c2 80 2 (by omega), j1]
  rw [wr_id (by omega) (by omega)] at e10
  have hO : ∀ c k, (c < 11 ∨ 33 < c) → c ≠ 80 → k3 c k = h c k := fun c k q1 q2 => by
    rw [ek3, fu_c q2, ek2, fu_c q2, c2 c k (by omega)]
  refine ⟨J.sTP W ?_ ?_ ?_ (fun c k q => hO c k (by omega) (by omega)), fun c k q => hO c k (by omega) (by omega)⟩
  · rw [ek3, ek2]
    exact RC_sk (RC_sk c1 B3 (by omega)) B3 (by omega)
  · have l1 : k3 80 1 = z8 := by
      rw [ek3, fu_k (by omega), ek2, fu_e rfl rfl]
    refine ⟨?_, ?_, fun t t1 t2 => ?_⟩
    · rw [ek3, fu_e rfl rfl]
      show z10 = G.2.2.1.1 - 1
      omega
    · rw [l1]
      omega
    · have t2 : t < G.2.2.1.1 - 1 := t2
      rw [l1]
      show RC k3 (pB z8 (G.2.2.1.1 - 1) t) (G.2.2.1.2 t)
      have r := j3 t t1 (by omega)
      have eq : pB z8 (G.2.2.1.1 - 1) t = pB (h 80 1) G.2.2.1.1 t := by
        unfold pB
        omega
      rw [eq]
      have bb := pB_b (h 80 1) G.2.2.1.1 t
      exact RC_cg r (w3 t t1 (by omega)).1.bg (fun c k n1 n2 => hO c k (by omega) (by omega))
  · rw [ek3, ek2]
    exact ((J.2.2.2.2.2.but t11 c2 c1.rw').fu (fun b hb => tw_no hb (by omega))).fu (fun b hb => tw_no hb (by omega))
theorem cj_back (hs : fS 92 [1] h v h') (J : CJ G h) (W : GW G) : v = backA G ∧ ((backC G ∧ CJ (backG G) h') ∨ (¬ backC G ∧ CJ G h')) ∧ xC h h' := by
  have j1 := J.2.2.1.1
  refine vc_back hs (fun v h' => v = backA G ∧ ((backC G ∧ CJ (backG G) h') ∨ (¬ backC G ∧ CJ G h')) ∧ xC h h') ?_
  intro z1 e1
  rw [j1] at e1
  subst e1
  refine ⟨fun q1 v1 k1 hs1 z3 e3 => ?_, fun q1 _ _ _ _ _ _ k1 ek1 => ?_⟩
  · obtain ⟨a1, a2⟩ := cj_putBack hs1 J W q1
    refine ⟨?_, Or.inl ⟨q1, a1⟩, a2⟩
    rw [e3, a1.2.2.1.1]
    exact (if_neg q1).symm
  · obtain ⟨r1, r2, r3⟩ := J.rfd W ek1 (if_pos q1 : backA G = -3).symm rfl
    exact ⟨r1, Or.inr ⟨fun q => q q1, r2⟩, r3⟩
theorem mj_back (hs : fS 183 [271] h v h') (J : MJ G h) (W : GW G) : v = backA G ∧ ((backC G ∧ MJ (backG G) h') ∨ (¬ backC G ∧ MJ G h')) ∧ xM h h' := by
  obtain ⟨w1, w2, w3⟩ := W.2.2.1
  refine vr_back hs (fun x0 x1 q => x0 = 271 ∧ backC G ∧ 0 ≤ x1 ∧ x1 ≤ 113 ∧ q 271 34 = G.2.2.1.1 - 1 ∧ (∀ c k, c ≠ 293 → (c = 271 → k ≠ 34 ∧ k ≠ 16) → q c k = h c k) ∧ ∀ i, 0 ≤ i → i < x1 → q 293 i = G.2.2.1.2 (G.2.2.1.1 - 1) i) (fun v h' => v = backA G ∧ ((backC G ∧ MJ (backG G) h') ∨ (¬ backC G ∧ MJ G h')) ∧ xM h h') ?_ ?_
  · intro k1 ek1 z1 e1
    have J1 : MJ G k1 := by
      rw [ek1]
      exact J.up (by omega)
    have x1 : xM h k1 := by
      rw [ek1]
      exact (xM.rf h).up (by decide)
    rw [J1.2.2.1.1] at e1
    subst e1
    refine ⟨fun q1 z2 e2 z3 e3 k2 ek2 => ?_, fun q1 _ _ _ _ _ _ k2 ek2 => ?_⟩
    · rw [J1.2.2.1.1] at e2
      rw [wr_id (by omega) (by omega)] at e3
      refine ⟨rfl, q1, by omega, by omega, ?_, fun c k n1 n2 => ?_, fun i n1 n2 => by omega⟩
      · rw [ek2, fu_e rfl rfl]
        omega
      · rw [ek2, ek1]
        unfold fu
        rw [if_neg (by omega), if_neg (by omega)]
    · obtain ⟨r1, r2, r3⟩ := J1.rfd x1 ek2 (if_pos q1 : backA G = -3).symm rfl
      exact ⟨r1, Or.inr ⟨fun q => q q1, r2⟩, r3⟩
  · rintro x0 x1 q ⟨rfl, i0, i1, i2, i3, i4, i5⟩
    have i0' := i0
    unfold backC at i0'
    refine ⟨fun q1 v1 k1 hs1 z3 e3 => ?_, fun q1 z2 e2 z3 e3 z4 e4 z5 e5 k1 ek1 z6 e6 => ?_⟩
    · obtain ⟨a1, a2, a3⟩ := sr_up hs1 (fun i n1 n2 => i5 i n1 (by omega)) (by omega)
      have hO : ∀ c k, (c < 271 ∨ (c = 271 ∧ (k = 28 ∨ k = 19 ∨ k = 38)) ∨ c = 286 ∨ c = 291 ∨ c = 292 ∨ c = 296) → k1 c k = h c k := fun c k n1 => by
        rw [a3 c k (by omega) (by omega)]
        exact i4 c k (by omega) (by omega)
      have l1 : k1 271 34 = G.2.2.1.1 - 1 := by
        rw [a3 271 34 (by omega) (by omega)]
        exact i3
      refine ⟨?_, Or.inl ⟨i0, J.sTP a1 ⟨l1, fun t i t1 t2 n1 n2 => ?_⟩ (fun c k n1 => hO c k (by omega))⟩, fun c k n1 => hO c k (by omega)⟩
      · rw [e3, l1]
        exact (if_neg i0').symm
      · have t2 : t < G.2.2.1.1 - 1 := t2
        rw [hO _ _ (by omega)]
        exact J.2.2.1.2 t i t1 (by omega) n1 n2
    · rw [i3] at e2
      rw [wr_id (by omega) (by omega)] at e3
      rw [wr_id (by omega) (by omega)] at e4 e6
      have d5 : z5 = G.2.2.1.2 (G.2.2.1.1 - 1) x1 := by
        rw [e5, i4 _ _ (by omega) (by omega), show z4 = 113 * (G.2.2.1.1 - 1) + x1 by omega]
        exact J.2.2.1.2 _ _ (by omega) (by omega) i1 q1
      refine ⟨rfl, i0, by omega, by omega, ?_, fun c k n1 n2 => ?_, fun i n1 n2 => ?_⟩
      · rw [ek1, fu_c (by omega)]
        exact i3
      · rw [ek1, fu_c n1]
        exact i4 c k n1 n2
      · rw [ek1]
        by_cases q2 : i = x1
        · rw [fu_e rfl q2, q2]
          exact d5
        · rw [fu_k q2]
          exact i5 i n1 (by omega)
-- restore
noncomputable def restC (G : gS) : Prop := G.2.1.1 ≠ 0
noncomputable def restG (G : gS) : gS := sP (sT G G.2.1.2) (0, G.2.2.1.2)
noncomputable def restA (G : gS) : Int := if G.2.1.1 = 0 then -3 else G.2.1.2 1
theorem GP_zero (G : gS) : 0 ≤ ((0, G.2.2.1.2) : Int × (Int → gV)).1 ∧ ((0, G.2.2.1.2) : Int × (Int → gV)).1 ≤ 8 ∧ ∀ t, 0 ≤ t → t < ((0, G.2.2.1.2) : Int × (Int → gV)).1 → WF (((0, G.2.2.1.2) : Int × (Int → gV)).2 t) ∧ ((0, G.2.2.1.2) : Int × (Int → gV)).2 t 1 ≤ 999 := ⟨(show (0 : Int) ≤ 0 by decide), (show (0 : Int) ≤ 8 by decide), fun t j1 j2 => by
  have j2 : t < 0 := j2
  omega⟩
theorem GW_rest (W : GW G) (hc : restC G) : GW (restG G) := by
  unfold restC at hc
  have := W.2.1.1
  exact GW_tp W (W.2.1.2 (by omega)) (GP_zero G)
theorem CP_zero {f : Int → gV} (e2 : h 80 2 = 0) (e1 : 0 ≤ h 80 1 ∧ h 80 1 < 8) : CP (0, f) h := ⟨e2, e1, fun t t1 t2 => by
  have t2 : t < 0 := t2
  omega⟩
theorem MP_zero {f : Int → gV} (e2 : h 271 34 = 0) : MP (0, f) h := ⟨e2, fun t i t1 t2 => by
  have t2 : t < 0 := t2
  omega⟩
theorem cj_restore (hs : fS 95 [1] h v h') (J : CJ G h) (W : GW G) : v = restA G ∧ ((restC G ∧ CJ (restG G) h') ∨ (¬ restC G ∧ CJ G h')) ∧ xC h h' := by
  have j1 := J.2.1.1
  have w2 := W.2.1
  refine vc_restore hs (fun v h' => v = restA G ∧ ((restC G ∧ CJ (restG G) h') ∨ (¬ restC G ∧ CJ G h')) ∧ xC h h') ?_
  intro z1 e1
  rw [j1] at e1
  subst e1
  refine ⟨fun q1 v1 k1 hs1 k2 ek2 z3 e3 => ?_, fun q1 _ _ _ _ _ _ k1 ek1 => ?_⟩
  · have q2 : G.2.1.1 = 1 := by omega
    have B := (w2.2 q2).1.bg
    have t11 : tw 11 := by
      unfold tw
      omega
    obtain ⟨c1, c2⟩ := sc_copyFrom hs1 (J.2.1.2 q2) B (J.2.2.2.2.2 11 t11) t11 (by unfold tw; omega) (by omega)
    have R2 : RC k2 11 G.2.1.2 := by
      rw [ek2]
      exact RC_sk c1 B (by omega)
    have hO : ∀ c k, (c < 11 ∨ 33 < c) → (c = 80 → k ≠ 2) → k2 c k = h c k := fun c k n1 n2 => by
      rw [ek2]
      unfold fu
      rw [if_neg (by omega)]
      exact c2 c k (by omega)
    refine ⟨?_, Or.inl ⟨q1, J.sTP W R2 (CP_zero ?_ ?_) ?_ (fun c k q => hO c k (by omega) (by omega))⟩, fun c k q => hO c k (by omega) (by omega)⟩
    · rw [e3, R2.day]
      exact (if_neg q1).symm
    · rw [ek2, fu_e rfl rfl]
    · rw [hO _ _ (by omega) (by omega)]
      exact J.2.2.1.2.1
    · rw [ek2]
      exact (J.2.2.2.2.2.but t11 c2 c1.rw').fu (fun b hb => tw_no hb (by omega))
  · obtain ⟨r1, r2, r3⟩ := J.rfd W ek1 (if_pos q1 : restA G = -3).symm rfl
    exact ⟨r1, Or.inr ⟨fun q => q q1, r2⟩, r3⟩
theorem mj_restore (hs : fS 182 [271] h v h') (J : MJ G h) (W : GW G) : v = restA G ∧ ((restC G ∧ MJ (restG G) h') ∨ (¬ restC G ∧ MJ G h')) ∧ xM h h' := by
  have w2 := W.2.1
  refine vr_restore hs (fun v h' => v = restA G ∧ ((restC G ∧ MJ (restG G) h') ∨ (¬ restC G ∧ MJ G h')) ∧ xM h h') ?_
  intro k1 ek1 z1 e1
  have J1 : MJ G k1 := by
    rw [ek1]
    exact J.up (by omega)
  have x1 : xM h k1 := by
    rw [ek1]
    exact (xM.rf h).up (by decide)
  rw [J1.2.1.1] at e1
  subst e1
  refine ⟨fun q1 v2 k2 hs2 k3 ek3 z3 e3 => ?_, fun q1 _ _ _ _ _ _ k2 ek2 => ?_⟩
  · have q2 : G.2.1.1 = 1 := by omega
    obtain ⟨a1, a2, a3⟩ := sr_up hs2 (J1.2.1.2 q2) (by omega)
    have R3 : RM k3 G.2.1.2 := by
      rw [ek3]
      exact RM_sk a1 (by omega)
    have hO : ∀ c k, (c < 271 ∨ (c = 271 ∧ (k = 28 ∨ k = 19 ∨ k = 38)) ∨ c = 286 ∨ c = 296) → k3 c k = h c k := fun c k n1 => by
      rw [ek3]
      unfold fu
      rw [if_neg (by omega), a3 c k (by omega) (by omega), ek1]
      unfold fu
      rw [if_neg (by omega)]
    refine ⟨?_, Or.inl ⟨q1, ⟨R3, ⟨?_, fun _ i n1 n2 => ?_⟩, MP_zero ?_, J.2.2.2.1.cg (hO _ _ (by omega)) (fun k => hO _ _ (by omega)), J.2.2.2.2.cg (hO _ _ (by omega)) (fun k => hO _ _ (by omega))⟩⟩, fun c k n1 => hO c k (by omega)⟩
    · rw [e3, R3.day]
      exact (if_neg q1).symm
    · rw [hO _ _ (by omega)]
      exact J.2.1.1
    · rw [ek3, fu_c (by omega)]
      exact a2 i n1 n2
    · rw [ek3, fu_e rfl rfl]
  · obtain ⟨r1, r2, r3⟩ := J1.rfd x1 ek2 (if_pos q1 : restA G = -3).symm rfl
    exact ⟨r1, Or.inr ⟨fun q => q q1, r2⟩, r3⟩
end PA
