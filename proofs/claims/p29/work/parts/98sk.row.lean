/-! the row against days in mind; a wager's event or side, a person's kind or figure tried -/
noncomputable def rwP (T : Int × gV) (p : Int) (g : gV) : Prop := ∀ d : Nat, (d : Int) < T.1 → T.2 (d : Int) = dayN d g (6 + 5 * p)
noncomputable def wgF (g : gV) (p : Int) : Nat → Int
  | 0 => -9
  | k + 1 => @ite Int (g (83 + 5 * (k : Int)) = p ∨ g (84 + 5 * (k : Int)) = p) (Classical.propDecidable _) (k : Int) (wgF g p k)
section RO
variable {h h' h0 : fH} {g g' : gV} {p v w y z b k f n : Int} {T : Int × gV}
theorem wgF_y {n : Nat} (q : g (83 + 5 * (n : Int)) = p ∨ g (84 + 5 * (n : Int)) = p) : wgF g p (n + 1) = (n : Int) := if_pos q
theorem wgF_n {n : Nat} (q : ¬ (g (83 + 5 * (n : Int)) = p ∨ g (84 + 5 * (n : Int)) = p)) : wgF g p (n + 1) = wgF g p n := if_neg q
theorem wgF_at (W : WF g) (hv : 0 ≤ v) (h1 : g (83 + 5 * v) = p ∨ g (84 + 5 * v) = p) : ∀ n : Nat, v < (n : Int) → (n : Int) ≤ g 2 → wgF g p n = v
  | 0, a, _ => by omega
  | n + 1, a, b => by
    by_cases c : v = (n : Int)
    · rw [c] at h1
      rw [wgF_y h1, c]
    · have u := W.2.2.2.2.2 v (n : Int) hv (by omega) (by omega)
      rw [wgF_n (by
        rcases h1 with h1 | h1 <;> rw [← h1] <;> intro q <;> rcases q with q | q
        · exact u.1 q.symm
        · exact u.2.1 q.symm
        · exact u.2.2.1 q.symm
        · exact u.2.2.2 q.symm)]
      exact wgF_at W hv h1 n (by omega) (by omega)
theorem wgF_0 : ∀ n : Nat, (∀ w, 0 ≤ w → w < (n : Int) → g (83 + 5 * w) ≠ p ∧ g (84 + 5 * w) ≠ p) → wgF g p n = -9
  | 0, _ => rfl
  | n + 1, q => by
    have u := q (n : Int) (by omega) (by omega)
    rw [wgF_n (fun c => c.elim u.1 u.2)]
    exact wgF_0 n (fun w a b => q w a (by omega))
theorem wwR.eq (W : WF g) (a : wwR g p v) : v = wgF g p (g 2).toNat := by
  have hB := W.1
  rcases a with ⟨a1, a2⟩ | ⟨a1, a2, a3, -⟩
  · rw [wgF_0 (g 2).toNat (fun w b c => a2 w b (by omega))]
    exact a1
  · exact (wgF_at W a1 a3 (g 2).toNat (by omega) (by omega)).symm
theorem sc_rowSo (hs : fS 131 [1, p] h v h') (O : CO T h) (R : RC h 34 g) (W : WF g) (hd : g 1 ≤ 999) (p0 : 0 ≤ p) (p1 : p < g 0) (t0 : 0 ≤ T.1) (t1 : T.1 ≤ 12) : h' = h ∧ bR v (rwP T p g) := by
  have hB := W.1
  refine vc_isRowSoInMind hs (fun x0 x1 x2 q => x0 = 1 ∧ x1 = p ∧ q = h ∧ ∃ k : Nat, x2 = (k : Int) ∧ (k : Int) ≤ T.1 ∧ ∀ d : Nat, d < k → T.2 (d : Int) = dayN d g (6 + 5 * p)) (fun v h' => h' = h ∧ bR v (rwP T p g)) ?_ ?_
  · exact ⟨rfl, rfl, rfl, 0, rfl, by omega, fun d hd => by omega⟩
  · rintro x0 x1 x2 q ⟨rfl, rfl, rfl, k, j1, j2, j3⟩ z3 e3
    rw [O.1] at e3
    refine ⟨fun q1 => ⟨rfl, Or.inl ⟨rfl, fun d hd => j3 d (by omega)⟩⟩, fun q1 z4 e4 v1 k1 hs1 => ?_⟩
    rw [O.2 x2 (by omega) (by omega)] at e4
    obtain ⟨u0, u1⟩ := sc_tearsOf hs1 R W (by omega) p0 p1 (by omega) (by omega)
    rw [show x2.toNat = k by omega] at u1
    rw [u0]
    refine ⟨fun q2 z6 e6 => ?_, fun q2 => ⟨rfl, Or.inr ⟨rfl, fun u => ?_⟩⟩⟩
    · have f6 := wr_d e6 (by omega) (by omega)
      refine ⟨rfl, rfl, rfl, k + 1, by omega, by omega, fun d hd => ?_⟩
      by_cases c : d = k
      · rw [c, ← j1, ← e4, q2, u1]
      · exact j3 d (by omega)
    · have := u k (by omega)
      rw [← j1] at this
      exact q2 (e4.trans (this.trans u1.symm))
theorem sr_isRow (hs : fS 227 [271, p] h v h') (O : MO T h) (R : RM h g') (K : ∀ i, 0 ≤ i → i < 113 → h 290 i = g i) (W : WF g') (hd : g' 1 ≤ 999) (p0 : 0 ≤ p) (p1 : p < g' 0) (t0 : 0 ≤ T.1) (t1 : T.1 ≤ 12) : bR v (rwP T p g') ∧ RM h' g ∧ (∀ i, 0 ≤ i → i < 113 → h' 290 i = g i) ∧ MO T h' := by
  have hB := W.1
  refine vr_isRow hs (fun x0 x1 x2 x3 q => x0 = 271 ∧ x1 = p ∧ MO T q ∧ (∀ i, 0 ≤ i → i < 113 → q 290 i = g i) ∧ ∃ k : Nat, x3 = (k : Int) ∧ (k : Int) ≤ T.1 ∧ RM q (dayN k g') ∧ ((x2 = 1 ∧ ∀ d : Nat, d < k → T.2 (d : Int) = dayN d g' (6 + 5 * p)) ∨ (x2 = 0 ∧ ¬ rwP T p g'))) (fun v h' => bR v (rwP T p g') ∧ RM h' g ∧ (∀ i, 0 ≤ i → i < 113 → h' 290 i = g i) ∧ MO T h') ?_ ?_
  · exact ⟨rfl, rfl, O, K, 0, rfl, by omega, R, Or.inl ⟨rfl, fun d hd => by omega⟩⟩
  · rintro x0 x1 x2 x3 q ⟨rfl, rfl, i0, i1, k, j1, j2, j3, j4⟩ z4 e4
    rw [i0.1] at e4
    have out : ∀ {v1 : Int} {k1 : fH}, fS 159 [271, 290, 0] q v1 k1 → bR x2 (rwP T x1 g') → bR x2 (rwP T x1 g') ∧ RM k1 g ∧ (∀ i, 0 ≤ i → i < 113 → k1 290 i = g i) ∧ MO T k1 := fun hs1 hb => by
      obtain ⟨c1, c2, c3⟩ := sr_up (G := g) hs1 i1 (by omega)
      refine ⟨hb, c1, c2, ?_, fun i a b => ?_⟩
      · rw [c3 271 38 (by omega) (by omega)]
        exact i0.1
      · rw [c3 296 i (by omega) (by omega)]
        exact i0.2 i a b
    obtain ⟨w1, w2, w3⟩ := dayN_ok W k (by omega)
    refine ⟨fun q1 v1 k1 hs1 => out hs1 ?_, fun q1 => ⟨fun q2 v1 k1 hs1 => out hs1 ?_, fun q2 z5 e5 z6 e6 => ?_⟩⟩
    · rcases j4 with ⟨l1, l2⟩ | ⟨l1, l2⟩
      · exact Or.inl ⟨l1, fun d hd => l2 d (by omega)⟩
      · exact Or.inr ⟨l1, l2⟩
    · rcases j4 with ⟨l1, l2⟩ | ⟨l1, l2⟩
      · omega
      · exact Or.inr ⟨l1, l2⟩
    · have e6 := e6.trans (j3.tears (p := x1) p0 (by omega))
      rw [i0.2 x3 (by omega) (by omega), j1] at e5
      have st : ∀ {v1 : Int} {k1 : fH}, fS 173 [271, 0] q v1 k1 → MO T k1 ∧ (∀ i, 0 ≤ i → i < 113 → k1 290 i = g i) ∧ RM k1 (dayN (k + 1) g') := fun hs1 => by
        obtain ⟨r1, r2⟩ := sr_day0 hs1 j3 w1 (by omega)
        refine ⟨⟨?_, fun i a b => ?_⟩, fun i a b => ?_, r1⟩
        · rw [r2 271 38 (by omega)]
          exact i0.1
        · rw [r2 296 i (by omega)]
          exact i0.2 i a b
        · rw [r2 290 i (by omega)]
          exact i1 i a b
      rcases j4 with ⟨l1, l2⟩ | ⟨l1, l2⟩
      · refine ⟨fun q3 v1 k1 hs1 z8 e8 => ?_, fun q3 v1 k1 hs1 z8 e8 => ?_⟩
        · obtain ⟨a1, a2, a3⟩ := st hs1
          have f8 := wr_d e8 (by omega) (by omega)
          exact ⟨rfl, rfl, a1, a2, k + 1, by omega, by omega, a3, Or.inr ⟨rfl, fun u => q3 (e5.trans ((u k (by omega)).trans e6.symm))⟩⟩
        · obtain ⟨a1, a2, a3⟩ := st hs1
          have f8 := wr_d e8 (by omega) (by omega)
          refine ⟨rfl, rfl, a1, a2, k + 1, by omega, by omega, a3, Or.inl ⟨rfl, fun d hd => ?_⟩⟩
          by_cases c : d = k
          · rw [c, ← e5, q3, e6]
          · exact l2 d (by omega)
      · omega
theorem WF_kf (W : WF g) (h1 : 0 ≤ p) (h2 : p < g 0) (hy : (y = 0 ∧ 0 ≤ z ∧ z ≤ 5) ∨ (y = 1 ∧ 0 ≤ z ∧ z ≤ 9)) : WF (gu g (3 + 5 * p + y) z) := by
  have hB := W.bg
  unfold BG at hB
  have nn : ∀ i, i ≠ 3 + 5 * p + y → gu g (3 + 5 * p + y) z i = g i := fun i hi => gu_n hi
  refine ⟨?_, fun x h3 h4 => ?_, fun x e h3 h4 h5 h6 => ?_, fun e h3 h4 => ?_, fun x h5 h6 => ?_, fun x x' h3 h4 h5 => ?_⟩
  · rw [nn 0 (by omega), nn 1 (by omega), nn 2 (by omega)]
    exact W.1
  · rw [nn 0 (by omega)] at h4
    have wx := W.per h3 h4
    rw [nn 0 (by omega), nn (5 + 5 * x) (by omega), nn (6 + 5 * x) (by omega), nn (7 + 5 * x) (by omega)]
    by_cases hx : x = p
    · rcases hy with ⟨y0, z0⟩ | ⟨y0, z0⟩
      · rw [gu_e (show 3 + 5 * x = 3 + 5 * p + y by omega), nn (4 + 5 * x) (by omega)]
        omega
      · rw [gu_e (show 4 + 5 * x = 3 + 5 * p + y by omega), nn (3 + 5 * x) (by omega)]
        omega
    · rw [nn (3 + 5 * x) (by omega), nn (4 + 5 * x) (by omega)]
      exact wx
  · rw [nn 0 (by omega)] at h4
    rw [nn _ (by omega)]
    exact W.bel h3 h4 h5 h6
  · rw [nn _ (by omega), nn _ (by omega)]
    exact W.evt h3 h4
  · rw [nn 2 (by omega)] at h6
    have wx := W.wag h5 h6
    rw [nn 0 (by omega), nn (83 + 5 * x) (by omega), nn (84 + 5 * x) (by omega), nn (85 + 5 * x) (by omega), nn (86 + 5 * x) (by omega), nn (87 + 5 * x) (by omega), nn (7 + 5 * g (83 + 5 * x)) (by omega), nn (7 + 5 * g (84 + 5 * x)) (by omega)]
    exact wx
  · rw [nn 2 (by omega)] at h5
    rw [nn (83 + 5 * x) (by omega), nn (84 + 5 * x) (by omega), nn (83 + 5 * x') (by omega), nn (84 + 5 * x') (by omega)]
    exact W.2.2.2.2.2 x x' h3 h4 h5
theorem RC_bec (hR : RC h b g) (hB : BG g) (h1 : 0 ≤ p) (h2 : p < g 0) : RC (becH h b p k f) b (gu (gu g (3 + 5 * p) k) (4 + 5 * p) f) := by
  unfold BG at hB
  unfold becH
  refine ⟨⟨?_, ?_, ?_⟩, fun q h3 h4 => ?_, fun q e h3 h4 h5 h6 => ?_, fun e h3 h4 => ?_, fun w j h3 h4 h5 h6 => ?_, fun w h3 h4 => ?_, fun w w' h3 h4 h5 => ?_⟩
  · simp (disch := omega) only [fu_e, fu_c, fu_k, gu_e, gu_n]
    exact hR.many
  · simp (disch := omega) only [fu_e, fu_c, fu_k, gu_e, gu_n]
    exact hR.day
  · simp (disch := omega) only [fu_e, fu_c, fu_k, gu_e, gu_n]
    exact hR.opn
  · simp (disch := omega) only [fu_e, fu_c, fu_k, gu_e, gu_n] at h4
    by_cases hq : q = p
    · subst hq
      simp (disch := omega) only [fu_e, fu_c, fu_k, gu_e, gu_n]
      exact ⟨trivial, trivial, trivial, trivial, trivial, hR.wish h3 h4, hR.tears h3 h4, hR.wed h3 h4⟩
    · simp (disch := omega) only [fu_e, fu_c, fu_k, gu_e, gu_n]
      exact hR.2.1 q h3 h4
  · simp (disch := omega) only [fu_e, fu_c, fu_k, gu_e, gu_n] at h4
    simp (disch := omega) only [fu_e, fu_c, fu_k, gu_e, gu_n]
    exact hR.bel h3 h4 h5 h6
  · simp (disch := omega) only [fu_e, fu_c, fu_k, gu_e, gu_n]
    exact hR.2.2.2.1 e h3 h4
  · simp (disch := omega) only [fu_e, fu_c, fu_k, gu_e, gu_n] at h4
    have hw := hR.wr h3 (by omega : w < 3)
    simp (disch := omega) only [fu_e, fu_c, fu_k, gu_e, gu_n]
    exact hR.wg h3 h4 h5 h6
  · simp (disch := omega) only [fu_e, fu_c, fu_k, gu_e, gu_n]
    exact hR.wr h3 h4
  · simp (disch := omega) only [fu_e, fu_c, fu_k, gu_e, gu_n]
    exact hR.2.2.2.2.2.2 w w' h3 h4 h5
end RO
