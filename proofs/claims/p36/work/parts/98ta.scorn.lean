/-! answers: scorn (made by a program) -/
section AA
variable {h h' : fH} {v x y z w : Int} {G : gS}
theorem ca_scorn (hs : fS 143 [1, x] h v h') (C : CJ G h) (W : GW G) : v = if x < 0 ∨ 4 < x then -1 else ctF (fun p => G.1 (38 + 5 * p + x) = 0 ∨ G.1 (38 + 5 * p + x) = 9) (G.1 0).toNat := by
  have jm : h 11 1 = G.1 0 := C.1.many
  have jd : h 11 15 = G.1 1 := C.1.day
  have jo : h 11 14 = G.1 2 := C.1.opn
  have hB := W.1.1.1
  have hD := W.1.2
  refine vc_scorn hs (fun x0 x1 x2 x3 q => x0 = 1 ∧ x1 = x ∧ q = h ∧ 0 ≤ x ∧ x ≤ 4 ∧ ∃ k : Nat, x3 = (k : Int) ∧ (k : Int) ≤ G.1 0 ∧ CT (fun p => G.1 (38 + 5 * p + x) = 0 ∨ G.1 (38 + 5 * p + x) = 9) k x2) (fun v _ => v = if x < 0 ∨ 4 < x then -1 else ctF (fun p => G.1 (38 + 5 * p + x) = 0 ∨ G.1 (38 + 5 * p + x) = 9) (G.1 0).toNat) ?_ ?_
  · refine ⟨fun q1 => fun _ _ _ _ _ _ _ ek => (by rw [if_pos (by omega)]), fun q1 => ⟨fun q2 => fun _ _ _ _ _ _ _ ek => (by rw [if_pos (by omega)]), fun q2 => ?_⟩⟩
    · exact ⟨rfl, rfl, rfl, by omega, by omega, 0, rfl, by omega, rfl⟩
  · rintro x0 x1 x2 x3 q ⟨rfl, rfl, rfl, i1, i2, k, j1, j2, j3⟩ z4 e4
    rw [jm] at e4
    have cb := CT_b j3
    refine ⟨fun q1 => ?_, fun q1 z5 e5 z6 e6 => ?_⟩
    · rw [if_neg (by omega), toN (show G.1 0 = (k : Int) by omega)]
      exact j3.eq
    · have r := C.1.bel (p := x3) (e := x1) (by omega) (by omega) i1 (by omega)
      rw [show (11 : Int) + 10 + x3 = z5 by omega, ← e6] at r
      refine ⟨fun q2 z7 e7 z8 e8 => ?_, fun q2 => ⟨fun q3 z7 e7 => ?_, fun q3 z7 e7 z8 e8 => ?_⟩⟩
      · have f7 := wr_d e7 (by omega) (by omega)
        have f8 := wr_d e8 (by omega) (by omega)
        rw [f7]
        exact ⟨rfl, rfl, rfl, i1, i2, k + 1, by omega, by omega, j3.y j1 (Or.inl (r.symm.trans q2))⟩
      · have f7 := wr_d e7 (by omega) (by omega)
        exact ⟨rfl, rfl, rfl, i1, i2, k + 1, by omega, by omega, j3.n j1 (fun q => q.elim (fun q => q2 (r.trans q)) (fun q => q3 (r.trans q)))⟩
      · have f7 := wr_d e7 (by omega) (by omega)
        have f8 := wr_d e8 (by omega) (by omega)
        rw [f7]
        exact ⟨rfl, rfl, rfl, i1, i2, k + 1, by omega, by omega, j3.y j1 (Or.inr (r.symm.trans q3))⟩
theorem ra_scorn (hs : fS 241 [271, x] h v h') (M : MJ G h) (W : GW G) : v = if x < 0 ∨ 4 < x then -1 else ctF (fun p => G.1 (38 + 5 * p + x) = 0 ∨ G.1 (38 + 5 * p + x) = 9) (G.1 0).toNat := by
  have hB := W.1.1.1
  have hD := W.1.2
  refine vr_scorn hs (fun x0 x1 x2 x3 q => x0 = 271 ∧ x1 = x ∧ MJ G q ∧ 0 ≤ x ∧ x ≤ 4 ∧ ∃ k : Nat, x3 = (k : Int) ∧ (k : Int) ≤ G.1 0 ∧ CT (fun p => G.1 (38 + 5 * p + x) = 0 ∨ G.1 (38 + 5 * p + x) = 9) k x2) (fun v _ => v = if x < 0 ∨ 4 < x then -1 else ctF (fun p => G.1 (38 + 5 * p + x) = 0 ∨ G.1 (38 + 5 * p + x) = 9) (G.1 0).toNat) ?_ ?_
  · intro k1 ek1
    have M1 : MJ G k1 := by
      rw [ek1]
      exact M.up (by omega)
    have jm : k1 271 0 = G.1 0 := M1.1.many
    have jd : k1 271 15 = G.1 1 := M1.1.day
    have jo : k1 271 9 = G.1 2 := M1.1.opn
    refine fun z2 e2 => ⟨fun q1 => (have r1 := xl_lt e2 q1; fun _ _ _ _ _ _ _ ek => (by rw [if_pos (by omega)])), fun q1 => (have r1 := xl_ge e2 q1; fun z3 e3 => ⟨fun q2 => (have r2 := xl_gt e3 q2; fun _ _ _ _ _ _ _ ek => (by rw [if_pos (by omega)])), fun q2 => (have r2 := xl_le e3 q2; ?_)⟩)⟩
    · exact ⟨rfl, rfl, M1, by omega, by omega, 0, rfl, by omega, rfl⟩
  · rintro x0 x1 x2 x3 q ⟨rfl, rfl, i0, i1, i2, k, j1, j2, j3⟩ z4 e4
    have e4 := e4.trans i0.1.many
    have cb := CT_b j3
    refine ⟨fun q1 => ?_, fun q1 z5 e5 z6 e6 z7 e7 z8 e8 => ?_⟩
    · rw [if_neg (by omega), toN (show G.1 0 = (k : Int) by omega)]
      exact j3.eq
    · have f5 := wr_d e5 (by omega) (by omega)
      have f6 := wr_d e6 (by omega) (by omega)
      have r := i0.1.bel (i := z6) (by omega) (by omega)
      rw [show (38 : Int) + z6 = 38 + 5 * x3 + x1 by omega] at r
      have e7 := e7.trans r
      have w := W.1.1.bel (p := x3) (e := x1) (by omega) (by omega) i1 (by omega)
      rw [xrem_nn (by omega) (by omega) (by omega)] at e8
      refine ⟨fun q3 z9 e9 z10 e10 => ?_, fun q3 z9 e9 z10 e10 => ?_⟩
      · have f9 := wr_d e9 (by omega) (by omega)
        have f10 := wr_d e10 (by omega) (by omega)
        rw [f9, Int.add_zero]
        exact ⟨rfl, rfl, i0, i1, i2, k + 1, by omega, by omega, j3.n j1 (fun q => by omega)⟩
      · have f9 := wr_d e9 (by omega) (by omega)
        have f10 := wr_d e10 (by omega) (by omega)
        rw [f9]
        exact ⟨rfl, rfl, i0, i1, i2, k + 1, by omega, by omega, j3.y j1 (by omega)⟩
theorem pq_scorn : PJ 143 241 1 true := pj_ans ak_scorn (fun {G as h h1 h2 v v2} hl hb W C M s1 s2 => by
  obtain ⟨x, rfl⟩ := as1 hl
  exact (ca_scorn s1 C W).trans (ra_scorn s2 M W).symm)
end AA
