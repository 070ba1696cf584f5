/-! answers: wished (made by a program) -/
section AA
variable {h h' : fH} {v x y z w : Int} {G : gS}
theorem ca_wished (hs : fS 142 [1, x] h v h') (C : CJ G h) (W : GW G) : v = if x < 0 ∨ G.1 0 ≤ x then -1 else ctF (fun p => p ≠ x ∧ G.1 (5 + 5 * p) = x) (G.1 0).toNat := by
  have jm : h 11 1 = G.1 0 := C.1.many
  have jd : h 11 15 = G.1 1 := C.1.day
  have jo : h 11 14 = G.1 2 := C.1.opn
  have hB := W.1.1.1
  have hD := W.1.2
  refine vc_wished hs (fun x0 x1 x2 x3 q => x0 = 1 ∧ x1 = x ∧ q = h ∧ 0 ≤ x ∧ x < G.1 0 ∧ ∃ k : Nat, x3 = (k : Int) ∧ (k : Int) ≤ G.1 0 ∧ CT (fun p => p ≠ x ∧ G.1 (5 + 5 * p) = x) k x2) (fun v _ => v = if x < 0 ∨ G.1 0 ≤ x then -1 else ctF (fun p => p ≠ x ∧ G.1 (5 + 5 * p) = x) (G.1 0).toNat) ?_ ?_
  · refine ⟨fun q1 => fun _ _ _ _ _ _ _ ek => (by rw [if_pos (by omega)]), fun q1 => fun z2 e2 => ⟨fun q2 => fun _ _ _ _ _ _ _ ek => (by rw [if_pos (by omega)]), fun q2 => ?_⟩⟩
    · exact ⟨rfl, rfl, rfl, by omega, by omega, 0, rfl, by omega, rfl⟩
  · rintro x0 x1 x2 x3 q ⟨rfl, rfl, rfl, i1, i2, k, j1, j2, j3⟩ z4 e4
    rw [jm] at e4
    have cb := CT_b j3
    refine ⟨fun q1 => ?_, fun q1 => ⟨fun q2 z5 e5 => ?_, fun q2 z5 e5 => ?_⟩⟩
    · rw [if_neg (by omega), toN (show G.1 0 = (k : Int) by omega)]
      exact j3.eq
    · have f5 := wr_d e5 (by omega) (by omega)
      exact ⟨rfl, rfl, rfl, i1, i2, k + 1, by omega, by omega, j3.n j1 (fun q => q.1 q2)⟩
    · have e5 := e5.trans (C.1.wish (p := x3) (by omega) (by omega))
      refine ⟨fun q3 z6 e6 => ?_, fun q3 z6 e6 z7 e7 => ?_⟩
      · have f6 := wr_d e6 (by omega) (by omega)
        exact ⟨rfl, rfl, rfl, i1, i2, k + 1, by omega, by omega, j3.n j1 (fun q => q3 (e5.trans q.2))⟩
      · have f6 := wr_d e6 (by omega) (by omega)
        have f7 := wr_d e7 (by omega) (by omega)
        rw [f6]
        exact ⟨rfl, rfl, rfl, i1, i2, k + 1, by omega, by omega, j3.y j1 ⟨q2, e5.symm.trans q3⟩⟩
theorem ra_wished (hs : fS 239 [271, x] h v h') (M : MJ G h) (W : GW G) : v = if x < 0 ∨ G.1 0 ≤ x then -1 else ctF (fun p => p ≠ x ∧ G.1 (5 + 5 * p) = x) (G.1 0).toNat := by
  have hB := W.1.1.1
  have hD := W.1.2
  refine vr_wished hs (fun x0 x1 x2 x3 q => x0 = 271 ∧ x1 = x ∧ MJ G q ∧ 0 ≤ x ∧ x < G.1 0 ∧ ∃ k : Nat, x3 = (k : Int) ∧ (k : Int) ≤ G.1 0 ∧ CT (fun p => p ≠ x ∧ G.1 (5 + 5 * p) = x) k x2) (fun v _ => v = if x < 0 ∨ G.1 0 ≤ x then -1 else ctF (fun p => p ≠ x ∧ G.1 (5 + 5 * p) = x) (G.1 0).toNat) ?_ ?_
  · intro k1 ek1
    have M1 : MJ G k1 := by
      rw [ek1]
      exact M.up (by omega)
    have jm : k1 271 0 = G.1 0 := M1.1.many
    have jd : k1 271 15 = G.1 1 := M1.1.day
    have jo : k1 271 9 = G.1 2 := M1.1.opn
    refine fun z2 e2 => fun z3 e3 => (have f3 := wr_d e3 (by omega) (by omega); fun z4 e4 => ⟨fun q1 => (have r1 := xl_lt e4 q1; fun _ _ _ _ _ _ _ ek => (by rw [if_pos (by omega)])), fun q1 => (have r1 := xl_ge e4 q1; fun z5 e5 => ⟨fun q2 => (have r2 := xl_gt e5 q2; fun _ _ _ _ _ _ _ ek => (by rw [if_pos (by omega)])), fun q2 => (have r2 := xl_le e5 q2; ?_)⟩)⟩)
    · exact ⟨rfl, rfl, M1, by omega, by omega, 0, rfl, by omega, rfl⟩
  · rintro x0 x1 x2 x3 q ⟨rfl, rfl, i0, i1, i2, k, j1, j2, j3⟩ z4 e4
    have e4 := e4.trans i0.1.many
    have cb := CT_b j3
    refine ⟨fun q1 => ?_, fun q1 => ⟨fun q2 z5 e5 z6 e6 => ?_, fun q2 z5 e5 => ?_⟩⟩
    · rw [if_neg (by omega), toN (show G.1 0 = (k : Int) by omega)]
      exact j3.eq
    · have f5 := wr_d e5 (by omega) (by omega)
      have f6 := wr_d e6 (by omega) (by omega)
      rw [f5, Int.add_zero]
      exact ⟨rfl, rfl, i0, i1, i2, k + 1, by omega, by omega, j3.n j1 (fun q => q.1 q2)⟩
    · have e5 := e5.trans (i0.1.wish (p := x3) (by omega) (by omega))
      refine ⟨fun q3 z6 e6 z7 e7 => ?_, fun q3 z6 e6 z7 e7 => ?_⟩
      · have f6 := wr_d e6 (by omega) (by omega)
        have f7 := wr_d e7 (by omega) (by omega)
        rw [f6, Int.add_zero]
        exact ⟨rfl, rfl, i0, i1, i2, k + 1, by omega, by omega, j3.n j1 (fun q => q3 (e5.trans q.2))⟩
      · have f6 := wr_d e6 (by omega) (by omega)
        have f7 := wr_d e7 (by omega) (by omega)
        rw [f6]
        exact ⟨rfl, rfl, i0, i1, i2, k + 1, by omega, by omega, j3.y j1 ⟨q2, e5.symm.trans q3⟩⟩
theorem pq_wished : PJ 142 239 1 true := pj_ans ak_wished (fun {G as h h1 h2 v v2} hl hb W C M s1 s2 => by
  obtain ⟨x, rfl⟩ := as1 hl
  exact (ca_wished s1 C W).trans (ra_wished s2 M W).symm)
end AA
