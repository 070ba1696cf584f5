/-! days on, in mind: the class reckons it, the reference lets the days go by -/
noncomputable def dwS (g : gV) (p v : Int) : Prop := (v = -9 ∧ ∀ n : Nat, g 1 + n ≤ 5000 → dayN n g (7 + 5 * p) = 0) ∨ (0 ≤ v ∧ v ≤ 9 ∧ dayN v.toNat g (7 + 5 * p) ≠ 0 ∧ ∀ n : Nat, (n : Int) < v → dayN n g (7 + 5 * p) = 0)
noncomputable def popN : Nat → Nat → Int
  | 0, _ => 0
  | k + 1, n => ((n % 2 : Nat) : Int) + popN k (n / 2)
noncomputable def popc (a : Int) : Int := popN 7 a.toNat
section MD
variable {h h' : fH} {g g' : gV} {p o e s t j w q a b c d i v x y n : Int} {m k : Nat} {P : Int → Prop}
theorem wedF_9 (h1 : 0 ≤ x) : wedF x = -9 ↔ x = 0 := by
  unfold wedF
  split <;> omega
theorem wed_nw (W : WF g) (hp : g (7 + 5 * p) ≠ 0) : NW g p := by
  rcases nw_hw g p with r | ⟨j, o, e, s, t, x1, x2, x3, -⟩
  · exact r
  · exfalso
    have ww := W.wag x1 x2
    rcases x3 with ⟨x3, -⟩ | ⟨x3, -⟩
    · rw [x3] at ww
      exact hp ww.2.2.2.2.2.2.2.2.2.2.2.1
    · rw [x3] at ww
      exact hp ww.2.2.2.2.2.2.2.2.2.2.2.2
theorem hw_wed (W : WF g) (x : hw g j p o e s t) : g (7 + 5 * p) = 0 := Classical.byContradiction (fun q => hw_nw x (wed_nw W q))
theorem hw_b (W : WF g) (x : hw g j p o e s t) : 0 ≤ o ∧ o < g 0 ∧ 0 ≤ p ∧ p < g 0 ∧ 0 ≤ e ∧ e < 5 ∧ 0 ≤ s ∧ s ≤ 1 ∧ 1 ≤ t ∧ t ≤ 9 := by
  obtain ⟨x1, x2, x3, x4, x5, x6⟩ := x
  have ww := W.wag x1 x2
  omega
/-- once wed, for good -/
theorem wed_mono (W : WF g) (p0 : 0 ≤ p) (p1 : p < g 0) (hm : g 1 + (m + k : Nat) ≤ 5000) (hn : dayN m g (7 + 5 * p) ≠ 0) : dayN (m + k) g (7 + 5 * p) = dayN m g (7 + 5 * p) ∧ dayN (m + k) g (6 + 5 * p) = dayN m g (6 + 5 * p) := by
  obtain ⟨f1, f2⟩ := fateN W p0 p1 m (by omega)
  obtain ⟨g1, g2⟩ := fateN W p0 p1 (m + k) hm
  rcases nw_hw g p with r | ⟨j, o, e, s, t, x⟩
  · obtain ⟨-, a1, a2⟩ := f1 r
    obtain ⟨-, b1, b2⟩ := g1 r
    exact ⟨b1.trans a1.symm, b2.trans a2.symm⟩
  · have w0 := hw_wed W x
    by_cases ht : (m : Int) < t
    · obtain ⟨-, a1, a2⟩ := (f2 j o e s t x).1 ht
      omega
    · obtain ⟨-, a1, a2⟩ := (f2 j o e s t x).2 (by omega)
      obtain ⟨-, b1, b2⟩ := (g2 j o e s t x).2 (by omega)
      by_cases hc : cmF g e (g 1 + t) ↔ s = 1
      · have := (a1 hc).1
        omega
      · exact ⟨(b2 hc).1.trans (a2 hc).1.symm, (b2 hc).2.trans (a2 hc).2.symm⟩
theorem unwed_tears (W : WF g) (p0 : 0 ≤ p) (p1 : p < g 0) (hm : g 1 + m ≤ 5000) (hn : dayN m g (7 + 5 * p) = 0) : dayN m g (6 + 5 * p) = g (6 + 5 * p) := by
  obtain ⟨f1, f2⟩ := fateN W p0 p1 m hm
  rcases nw_hw g p with r | ⟨j, o, e, s, t, x⟩
  · exact (f1 r).2.2
  · have hb := hw_b W x
    by_cases ht : (m : Int) < t
    · exact ((f2 j o e s t x).1 ht).2.2
    · obtain ⟨-, a1, a2⟩ := (f2 j o e s t x).2 (by omega)
      by_cases hc : cmF g e (g 1 + t) ↔ s = 1
      · exact (a1 hc).2
      · have := (a2 hc).1
        omega
theorem sc_dtw (hs : fS 83 [b, p] h v h') (R : RC h b g) (W : WF g) (hd : g 1 ≤ 4900) (p0 : 0 ≤ p) (p1 : p < g 0) : h' = h ∧ dwS g p v := by
  have wp := W.per p0 p1
  have hB := W.1
  refine vt_daysToWedding hs (fun v h' => h' = h ∧ dwS g p v) ?_
  intro z2 e2 z3 e3
  rw [e2, R.wed p0 p1] at e3
  refine ⟨fun q1 v1 k1 hs1 => ?_, fun q1 => ⟨rfl, Or.inr ⟨by omega, by omega, ?_, fun n hn => by omega⟩⟩⟩
  · have w0 : g (7 + 5 * p) = 0 := (wedF_9 (by omega)).mp (e3.symm.trans q1)
    obtain ⟨r0, r1⟩ := sc_wagerWith hs1 R W
    rw [r0]
    rcases r1 with ⟨r1, r2⟩ | ⟨r1, r2, r3, r4⟩
    · refine ⟨fun _ => ⟨rfl, Or.inl ⟨rfl, fun n hn => ?_⟩⟩, fun q => by omega⟩
      exact (((fateN W p0 p1 n hn).1 r2).2.1).trans w0
    · refine ⟨fun q => by omega, fun _ v2 k2 hs2 => ?_⟩
      have ww := W.wag r1 r2
      have hx : ∃ o, hw g v1 p o (g (85 + 5 * v1)) (g (86 + 5 * v1)) (g (87 + 5 * v1)) := by
        rcases r3 with r3 | r3
        · exact ⟨_, r1, r2, Or.inl ⟨r3, rfl⟩, rfl, rfl, rfl⟩
        · exact ⟨_, r1, r2, Or.inr ⟨r3, rfl⟩, rfl, rfl, rfl⟩
      obtain ⟨o, x⟩ := hx
      have xb := hw_b W x
      obtain ⟨s0, s1⟩ := sc_isLost hs2 R r1 r2 (by omega) (by omega) (by omega) (by omega) (by omega) (by omega)
      rw [s0]
      refine ⟨fun q => ⟨rfl, Or.inl ⟨rfl, fun n hn => ?_⟩⟩, fun q z6 e6 z7 e7 z8 e8 => ⟨rfl, Or.inr ?_⟩⟩
      · have hc : cmF g (g (85 + 5 * v1)) (g 1 + g (87 + 5 * v1)) ↔ g (86 + 5 * v1) = 1 := Classical.byContradiction (fun hn => s1.f q hn)
        obtain ⟨f1, f2⟩ := fateN W p0 p1 n hn
        by_cases ht : (n : Int) < g (87 + 5 * v1)
        · exact ((f2 _ _ _ _ _ x).1 ht).2.1.trans w0
        · exact (((f2 _ _ _ _ _ x).2 (by omega)).2.1 hc).1.trans w0
      · have hc := s1.t q
        unfold lsF at hc
        have rw4 := R.wg (w := v1) (j := 4) r1 r2 (by omega) (by omega)
        rw [e8, e7, e6, rw4, show 83 + 5 * v1 + 4 = 87 + 5 * v1 by omega]
        refine ⟨by omega, by omega, ?_, fun n hn => ?_⟩
        · obtain ⟨f1, f2⟩ := fateN W p0 p1 (g (87 + 5 * v1)).toNat (by omega)
          have := (((f2 _ _ _ _ _ x).2 (by omega)).2.2 hc).1
          omega
        · obtain ⟨f1, f2⟩ := fateN W p0 p1 n (by omega)
          exact ((f2 _ _ _ _ _ x).1 hn).2.1.trans w0
  · have : g (7 + 5 * p) ≠ 0 := fun q => q1 (e3.trans ((wedF_9 (by omega)).mpr q))
    exact this
theorem sc_isWedIn (hs : fS 82 [b, p, n] h v h') (R : RC h b g) (W : WF g) (hd : g 1 ≤ 4900) (p0 : 0 ≤ p) (p1 : p < g 0) (n0 : 0 ≤ n) (n1 : g 1 + n ≤ 5000) : h' = h ∧ bR v (dayN n.toNat g (7 + 5 * p) ≠ 0) := by
  refine vt_isWedIn hs (fun v h' => h' = h ∧ bR v (dayN n.toNat g (7 + 5 * p) ≠ 0)) ?_
  intro v1 k1 hs1
  obtain ⟨r0, r1⟩ := sc_dtw hs1 R W hd p0 p1
  rw [r0]
  rcases r1 with ⟨r1, r2⟩ | ⟨r1, r2, r3, r4⟩
  · exact ⟨fun _ => ⟨rfl, Or.inr ⟨rfl, fun q => q (r2 _ (by omega))⟩⟩, fun q => by omega⟩
  · refine ⟨fun q => by omega, fun _ => ⟨fun q => ⟨rfl, Or.inr ⟨rfl, fun q2 => q2 (r4 _ (by omega))⟩⟩, fun q => ⟨rfl, Or.inl ⟨rfl, ?_⟩⟩⟩⟩
    have := (wed_mono (m := v1.toNat) (k := n.toNat - v1.toNat) W p0 p1 (by omega) r3).1
    rw [show v1.toNat + (n.toNat - v1.toNat) = n.toNat by omega] at this
    rw [this]
    exact r3
theorem sc_tearsOf (hs : fS 81 [b, p, n] h v h') (R : RC h b g) (W : WF g) (hd : g 1 ≤ 4900) (p0 : 0 ≤ p) (p1 : p < g 0) (n0 : 0 ≤ n) (n1 : g 1 + n ≤ 5000) : h' = h ∧ v = dayN n.toNat g (6 + 5 * p) := by
  have wp := W.per p0 p1
  refine vt_tearsOf hs (fun v h' => h' = h ∧ v = dayN n.toNat g (6 + 5 * p)) ?_
  intro z3 e3 z4 e4
  rw [e3, R.wed p0 p1] at e4
  obtain ⟨f1, f2⟩ := fateN W p0 p1 n.toNat (by omega)
  refine ⟨fun q1 v1 k1 hs1 => ?_, fun q1 z5 e5 z6 e6 => ⟨rfl, ?_⟩⟩
  · have w0 : g (7 + 5 * p) = 0 := (wedF_9 (by omega)).mp (e4.symm.trans q1)
    obtain ⟨s0, s1⟩ := sc_isWedIn hs1 R W hd p0 p1 n0 n1
    rw [s0]
    refine ⟨fun q z6 e6 z7 e7 => ⟨rfl, ?_⟩, fun q v2 k2 hs2 => ?_⟩
    · have d0 : dayN n.toNat g (7 + 5 * p) = 0 := Classical.byContradiction (s1.f q)
      rw [e7, e6, R.tears p0 p1, unwed_tears W p0 p1 (by omega) d0]
    · obtain ⟨t0, t1⟩ := sc_withMore hs2 R p0 p1 (by omega) (by omega) (by omega) (by omega)
      refine ⟨t0, ?_⟩
      have s2 := s1.t q
      rw [t1]
      rcases nw_hw g p with r | ⟨j, o, e, s, t, x⟩
      · exact absurd ((f1 r).2.1.trans w0) s2
      · by_cases ht : (n.toNat : Int) < t
        · exact absurd (((f2 _ _ _ _ _ x).1 ht).2.1.trans w0) s2
        · obtain ⟨-, a1, a2⟩ := (f2 _ _ _ _ _ x).2 (by omega)
          by_cases hc : cmF g e (g 1 + t) ↔ s = 1
          · exact absurd ((a1 hc).1.trans w0) s2
          · exact (a2 hc).2.symm
  · have w0 : g (7 + 5 * p) ≠ 0 := fun q => q1 (e4.trans ((wedF_9 (by omega)).mpr q))
    rw [e6, e5, R.tears p0 p1]
    exact ((f1 (wed_nw W w0)).2.2).symm
theorem sc_howMany (hs : fS 91 [b, n] h v h') (R : RC h b g) (W : WF g) (hd : g 1 ≤ 4900) (n0 : 0 ≤ n) (n1 : g 1 + n ≤ 5000) : h' = h ∧ v = ctF (fun p => dayN n.toNat g (7 + 5 * p) ≠ 0) (g 0).toNat := by
  have hB := W.1
  have jm := R.many
  refine vt_howManyWed hs (fun x0 x1 x2 x3 q => x0 = b ∧ x1 = n ∧ q = h ∧ ∃ k : Nat, x3 = (k : Int) ∧ (k : Int) ≤ g 0 ∧ CT (fun p => dayN n.toNat g (7 + 5 * p) ≠ 0) k x2) (fun v h' => h' = h ∧ v = ctF (fun p => dayN n.toNat g (7 + 5 * p) ≠ 0) (g 0).toNat) ?_ ?_
  · exact ⟨rfl, rfl, rfl, 0, rfl, by omega, rfl⟩
  · rintro x0 x1 x2 x3 q ⟨rfl, rfl, rfl, k, j1, j2, j3⟩ z4 e4
    rw [jm] at e4
    have cb := CT_b j3
    refine ⟨fun q1 => ⟨rfl, ?_⟩, fun q1 v1 k1 hs1 => ?_⟩
    · rw [toN (show g 0 = (k : Int) by omega)]
      exact j3.eq
    · obtain ⟨s0, s1⟩ := sc_isWedIn hs1 R W hd (by omega) (by omega) n0 n1
      rw [s0]
      refine ⟨fun q2 z6 e6 => ?_, fun q2 z6 e6 z7 e7 => ?_⟩
      · have f6 := wr_d e6 (by omega) (by omega)
        exact ⟨rfl, rfl, rfl, k + 1, by omega, by omega, j3.n j1 (s1.f q2)⟩
      · have f6 := wr_d e6 (by omega) (by omega)
        have f7 := wr_d e7 (by omega) (by omega)
        rw [f6]
        exact ⟨rfl, rfl, rfl, k + 1, by omega, by omega, j3.y j1 (s1.t q2)⟩
theorem tears_b (W : WF g) (n1 : g 1 + m ≤ 5000) : ∀ p, 0 ≤ p → p < ((g 0).toNat : Int) → 0 ≤ dayN m g (6 + 5 * p) ∧ dayN m g (6 + 5 * p) ≤ 99 := fun p p0 p1 => by
  have hB := W.1
  obtain ⟨w1, w2, w3⟩ := dayN_ok W m n1
  have := w1.per (p := p) p0 (by omega)
  omega
theorem sc_allTears (hs : fS 80 [b, n] h v h') (R : RC h b g) (W : WF g) (hd : g 1 ≤ 4900) (n0 : 0 ≤ n) (n1 : g 1 + n ≤ 5000) : h' = h ∧ v = sumF (fun p => dayN n.toNat g (6 + 5 * p)) (g 0).toNat := by
  have hB := W.1
  have jm := R.many
  have tb := tears_b (m := n.toNat) W (by omega)
  refine vt_allTears hs (fun x0 x1 x2 x3 q => x0 = b ∧ x1 = n ∧ q = h ∧ ∃ k : Nat, x3 = (k : Int) ∧ (k : Int) ≤ g 0 ∧ x2 = sumF (fun p => dayN n.toNat g (6 + 5 * p)) k) (fun v h' => h' = h ∧ v = sumF (fun p => dayN n.toNat g (6 + 5 * p)) (g 0).toNat) ?_ ?_
  · exact ⟨rfl, rfl, rfl, 0, rfl, by omega, rfl⟩
  · rintro x0 x1 x2 x3 q ⟨rfl, rfl, rfl, k, j1, j2, j3⟩ z4 e4
    rw [jm] at e4
    have sb := sum_b (f := fun p => dayN x1.toNat g (6 + 5 * p)) (c := 99) (k := k) (fun i i1 i2 => tb i i1 (by omega))
    refine ⟨fun q1 => ⟨rfl, ?_⟩, fun q1 v1 k1 hs1 z6 e6 z7 e7 => ?_⟩
    · rw [toN (show g 0 = (k : Int) by omega)]
      exact j3
    · obtain ⟨s0, s1⟩ := sc_tearsOf hs1 R W hd (by omega) (by omega) n0 n1
      have t1 := tb x3 (by omega) (by omega)
      rw [s0]
      have f6 := wr_d e6 (by omega) (by omega)
      have f7 := wr_d e7 (by omega) (by omega)
      refine ⟨rfl, rfl, rfl, k + 1, by omega, by omega, ?_⟩
      show z6 = sumF (fun p => dayN x1.toNat g (6 + 5 * p)) k + dayN x1.toNat g (6 + 5 * (k : Int))
      rw [f6, j3, s1, j1]
-- the reference
theorem sr_wedBits (hs : fS 198 [271] h v h') (R : RM h g) (W : WF g) : h' = h ∧ v = btF (fun p => g (7 + 5 * p) ≠ 0) (g 0).toNat := by
  have hB := W.1
  refine vr_wedBits hs (fun x0 x1 x2 q => x0 = 271 ∧ q = h ∧ ∃ k : Nat, x2 = (k : Int) ∧ (k : Int) ≤ g 0 ∧ BT (fun p => g (7 + 5 * p) ≠ 0) k x1) (fun v h' => h' = h ∧ v = btF (fun p => g (7 + 5 * p) ≠ 0) (g 0).toNat) ?_ ?_
  · exact ⟨rfl, rfl, 0, rfl, by omega, rfl⟩
  · rintro x0 x1 x2 q ⟨rfl, rfl, k, j1, j2, j3⟩ z3 e3
    rw [R.many] at e3
    refine ⟨fun q1 => ⟨rfl, ?_⟩, fun q1 z4 e4 => ?_⟩
    · rw [toN (show g 0 = (k : Int) by omega)]
      exact j3.eq
    · have e4 := e4.trans (R.wed (p := x2) (by omega) (by omega))
      have wp := W.per (p := x2) (by omega) (by omega)
      refine ⟨fun q2 z5 e5 z6 e6 => ?_, fun q2 z5 e5 z6 e6 z7 e7 => ?_⟩
      · have f6 := wr_d e6 (by omega) (by omega)
        exact ⟨rfl, rfl, k + 1, by omega, by omega, j3.n0 j1 (fun q => q (by omega)) e5⟩
      · have f7 := wr_d e7 (by omega) (by omega)
        exact ⟨rfl, rfl, k + 1, by omega, by omega, j3.y j1 (by omega) e5 e6⟩
theorem sr_allTears (hs : fS 224 [271] h v h') (R : RM h g) (W : WF g) : h' = h ∧ v = sumF (fun p => g (6 + 5 * p)) (g 0).toNat := by
  have hB := W.1
  have tb : ∀ p, 0 ≤ p → p < g 0 → 0 ≤ g (6 + 5 * p) ∧ g (6 + 5 * p) ≤ 99 := fun p p0 p1 => by
    have := W.per p0 p1
    omega
  refine vr_allTears hs (fun x0 x1 x2 q => x0 = 271 ∧ q = h ∧ ∃ k : Nat, x2 = (k : Int) ∧ (k : Int) ≤ g 0 ∧ x1 = sumF (fun p => g (6 + 5 * p)) k) (fun v h' => h' = h ∧ v = sumF (fun p => g (6 + 5 * p)) (g 0).toNat) ?_ ?_
  · exact ⟨rfl, rfl, 0, rfl, by omega, rfl⟩
  · rintro x0 x1 x2 q ⟨rfl, rfl, k, j1, j2, j3⟩ z3 e3
    rw [R.many] at e3
    have sb := sum_b (f := fun p => g (6 + 5 * p)) (c := 99) (k := k) (fun i i1 i2 => tb i i1 (by omega))
    refine ⟨fun q1 => ⟨rfl, ?_⟩, fun q1 z4 e4 z5 e5 z6 e6 => ?_⟩
    · rw [toN (show g 0 = (k : Int) by omega)]
      exact j3
    · have e4 := e4.trans (R.tears (p := x2) (by omega) (by omega))
      have t1 := tb x2 (by omega) (by omega)
      have f5 := wr_d e5 (by omega) (by omega)
      have f6 := wr_d e6 (by omega) (by omega)
      refine ⟨rfl, rfl, k + 1, by omega, by omega, ?_⟩
      show z5 = sumF (fun p => g (6 + 5 * p)) k + g (6 + 5 * (k : Int))
      rw [f5, j3, e4, j1]
set_option maxRecDepth 100000 in
theorem pop_k : (List.range 128).all (fun a => decide (a = 0) || (decide (popc (xand (a : Int) ((a : Int) - 1)) = popc (a : Int) - 1) && (decide (0 ≤ xand (a : Int) ((a : Int) - 1)) && decide (xand (a : Int) ((a : Int) - 1) ≤ 127)))) = true := by decide +kernel
set_option maxRecDepth 100000 in
theorem pop_o : (List.range 7).all (fun k => (List.range (2 ^ k)).all (fun u => decide (popc (xor' (u : Int) (xshl 1 (k : Int))) = popc (u : Int) + 1) && (decide (0 ≤ xor' (u : Int) (xshl 1 (k : Int))) && decide (xor' (u : Int) (xshl 1 (k : Int)) < ((2 ^ (k + 1) : Nat) : Int))))) = true := by decide +kernel
theorem popN_b : ∀ k n : Nat, 0 ≤ popN k n ∧ popN k n ≤ (k : Int)
  | 0, n => ⟨Int.le_refl 0, Int.le_refl 0⟩
  | k + 1, n => by
    have := popN_b k (n / 2)
    show 0 ≤ ((n % 2 : Nat) : Int) + popN k (n / 2) ∧ ((n % 2 : Nat) : Int) + popN k (n / 2) ≤ ((k + 1 : Nat) : Int)
    omega
theorem popc_b (a : Int) : 0 ≤ popc a ∧ popc a ≤ 7 := popN_b 7 a.toNat
theorem sr_onesOf (hs : fS 199 [a] h v h') (a0 : 0 ≤ a) (a1 : a ≤ 127) : h' = h ∧ v = popc a := by
  refine vr_onesOf hs (fun x1 x2 q => q = h ∧ 0 ≤ x2 ∧ x2 ≤ 127 ∧ x1 + popc x2 = popc a ∧ 0 ≤ x1) (fun v h' => h' = h ∧ v = popc a) ?_ ?_
  · exact ⟨rfl, a0, a1, by omega, by omega⟩
  · rintro x1 x2 q ⟨rfl, i1, i2, i3, i4⟩
    have b1 := popc_b x2
    have b2 := popc_b a
    refine ⟨fun q1 => ⟨rfl, ?_⟩, fun q1 z2 e2 z3 e3 z4 e4 => ?_⟩
    · rw [q1, show popc 0 = 0 from rfl] at i3
      omega
    · have f2 := wr_d e2 (by omega) (by omega)
      have f3 := wr_d e3 (by omega) (by omega)
      obtain ⟨u, rfl⟩ : ∃ u : Nat, x2 = (u : Int) := ⟨x2.toNat, by omega⟩
      have hk := List.all_eq_true.mp pop_k u (List.mem_range.mpr (by omega))
      simp only [Bool.or_eq_true, Bool.and_eq_true, decide_eq_true_eq] at hk
      rw [f3] at e4
      rcases hk with hk | ⟨k1, k2, k3⟩
      · omega
      · exact ⟨rfl, by omega, by omega, by rw [e4]; omega, by omega⟩
theorem pop_bt : ∀ n : Nat, n ≤ 7 → popc (btF P n) = ctF P n ∧ 0 ≤ btF P n ∧ btF P n < ((2 ^ n : Nat) : Int)
  | 0, _ => by
    have e1 : btF P 0 = 0 := rfl
    have e2 : ctF P 0 = 0 := rfl
    rw [e1, e2]
    decide
  | n + 1, hn => by
    obtain ⟨i1, i2, i3⟩ := pop_bt n (by omega)
    have hp : 2 ^ (n + 1) = 2 ^ n + 2 ^ n := by rw [Nat.pow_succ]; omega
    by_cases h : P (n : Int)
    · have e1 : btF P (n + 1) = xor' (btF P n) (xshl 1 (n : Int)) := if_pos h
      have e2 : ctF P (n + 1) = ctF P n + 1 := by
        show ctF P n + bI (P (n : Int)) = _
        rw [bI_t h]
      obtain ⟨u, hu⟩ : ∃ u : Nat, btF P n = (u : Int) := ⟨(btF P n).toNat, by omega⟩
      have hk := List.all_eq_true.mp (List.all_eq_true.mp pop_o n (List.mem_range.mpr (by omega))) u (List.mem_range.mpr (by omega))
      simp only [Bool.and_eq_true, decide_eq_true_eq] at hk
      rw [e1, e2, hu, hk.1, ← hu, i1, hu]
      exact ⟨rfl, hk.2⟩
    · have e1 : btF P (n + 1) = btF P n := if_neg h
      have e2 : ctF P (n + 1) = ctF P n := by
        show ctF P n + bI (P (n : Int)) = _
        rw [bI_f h, Int.add_zero]
      rw [e1, e2]
      refine ⟨i1, i2, ?_⟩
      omega
theorem sr_wedNum {h0 h1 : fH} {v2 : Int} (hs1 : fS 198 [271] h v h1) (hs2 : fS 199 [v] h1 v2 h') (R : RM h g) (W : WF g) : h' = h ∧ v2 = ctF (fun p => g (7 + 5 * p) ≠ 0) (g 0).toNat := by
  have hB := W.1
  obtain ⟨a1, a2⟩ := sr_wedBits hs1 R W
  obtain ⟨b1, b2, b3⟩ := pop_bt (P := fun p => g (7 + 5 * p) ≠ 0) (g 0).toNat (by omega)
  have hp : (2 ^ (g 0).toNat : Nat) ≤ 2 ^ 7 := Nat.pow_le_pow_right (by omega) (by omega)
  obtain ⟨c1, c2⟩ := sr_onesOf hs2 (by omega) (by omega)
  exact ⟨c1.trans a1, by rw [c2, a2, b1]⟩
end MD
