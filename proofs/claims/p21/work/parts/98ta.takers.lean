/-! answers: takers (made by a program) -/
section AA
variable {h h' : fH} {v x y z w : Int} {G : gS}
theorem ca_takers (hs : fS 108 [1, x, y, z] h v h') (C : CJ G h) (W : GW G) : v = if x < 0 ∨ G.1 0 ≤ x ∨ y < 0 ∨ 4 < y then -1 else if z < 0 ∨ 1 < z then -2 else btF (fun p => p ≠ x ∧ tkF G.1 p x y z) (G.1 0).toNat := by
  have jm : h 11 1 = G.1 0 := C.1.many
  have jd : h 11 15 = G.1 1 := C.1.day
  have jo : h 11 14 = G.1 2 := C.1.opn
  have hB := W.1.1.1
  have hD := W.1.2
  refine vc_takers hs (fun x0 x1 x2 x3 x4 x5 q => x0 = 1 ∧ x1 = x ∧ x2 = y ∧ x3 = z ∧ q = h ∧ 0 ≤ x ∧ x < G.1 0 ∧ 0 ≤ y ∧ y ≤ 4 ∧ 0 ≤ z ∧ z ≤ 1 ∧ ∃ k : Nat, x5 = (k : Int) ∧ (k : Int) ≤ G.1 0 ∧ BT (fun p => p ≠ x ∧ tkF G.1 p x y z) k x4) (fun v _ => v = if x < 0 ∨ G.1 0 ≤ x ∨ y < 0 ∨ 4 < y then -1 else if z < 0 ∨ 1 < z then -2 else btF (fun p => p ≠ x ∧ tkF G.1 p x y z) (G.1 0).toNat) ?_ ?_
  · refine ⟨fun q1 => fun _ _ _ _ _ _ _ ek => (by rw [if_pos (by omega)]), fun q1 => fun z4 e4 => ⟨fun q2 => fun _ _ _ _ _ _ _ ek => (by rw [if_pos (by omega)]), fun q2 => ⟨fun q3 => fun _ _ _ _ _ _ _ ek => (by rw [if_pos (by omega)]), fun q3 => ⟨fun q4 => fun _ _ _ _ _ _ _ ek => (by rw [if_pos (by omega)]), fun q4 => ⟨fun q5 => fun _ _ _ _ _ _ _ ek => (by rw [if_neg (by omega), if_pos (by omega)]), fun q5 => ⟨fun q6 => fun _ _ _ _ _ _ _ ek => (by rw [if_neg (by omega), if_pos (by omega)]), fun q6 => ?_⟩⟩⟩⟩⟩⟩
    · exact ⟨rfl, rfl, rfl, rfl, rfl, by omega, by omega, by omega, by omega, by omega, by omega, 0, rfl, by omega, rfl⟩
  · rintro x0 x1 x2 x3 x4 x5 q ⟨rfl, rfl, rfl, rfl, rfl, i1, i2, i3, i4, i5, i6, k, j1, j2, j3⟩ z6 e6
    rw [jm] at e6
    refine ⟨fun q1 => ?_, fun q1 => ⟨fun q2 z7 e7 => ?_, fun q2 v1 k1 hs1 => ?_⟩⟩
    · rw [if_neg (by omega), if_neg (by omega), toN (show G.1 0 = (k : Int) by omega)]
      exact j3.eq
    · have f7 := wr_d e7 (by omega) (by omega)
      exact ⟨rfl, rfl, rfl, rfl, rfl, i1, i2, i3, i4, i5, i6, k + 1, by omega, by omega, j3.n j1 (fun q => q.1 q2)⟩
    · obtain ⟨rfl, r⟩ := sc_wouldTake hs1 C.1 W.1.1 (by omega) (by omega) i3 (by omega)
      refine ⟨fun q3 z8 e8 => ?_, fun q3 z8 e8 z9 e9 z10 e10 => ?_⟩
      · have f8 := wr_d e8 (by omega) (by omega)
        exact ⟨rfl, rfl, rfl, rfl, rfl, i1, i2, i3, i4, i5, i6, k + 1, by omega, by omega, j3.n j1 (fun q => r.f q3 q.2)⟩
      · have f10 := wr_d e10 (by omega) (by omega)
        exact ⟨rfl, rfl, rfl, rfl, rfl, i1, i2, i3, i4, i5, i6, k + 1, by omega, by omega, j3.y j1 ⟨q2, r.t q3⟩ e8 e9⟩
theorem ra_takers (hs : fS 211 [271, x, y, z] h v h') (M : MJ G h) (W : GW G) : v = if x < 0 ∨ G.1 0 ≤ x ∨ y < 0 ∨ 4 < y then -1 else if z < 0 ∨ 1 < z then -2 else btF (fun p => p ≠ x ∧ tkF G.1 p x y z) (G.1 0).toNat := by
  have hB := W.1.1.1
  have hD := W.1.2
  refine vr_takers hs (fun x0 x1 x2 x3 x5 x6 q => x0 = 271 ∧ x1 = x ∧ x2 = y ∧ x3 = z ∧ MJ G q ∧ 0 ≤ x ∧ x < G.1 0 ∧ 0 ≤ y ∧ y ≤ 4 ∧ 0 ≤ z ∧ z ≤ 1 ∧ ∃ k : Nat, x6 = (k : Int) ∧ (k : Int) ≤ G.1 0 ∧ BT (fun p => p ≠ x ∧ tkF G.1 p x y z) k x5) (fun v _ => v = if x < 0 ∨ G.1 0 ≤ x ∨ y < 0 ∨ 4 < y then -1 else if z < 0 ∨ 1 < z then -2 else btF (fun p => p ≠ x ∧ tkF G.1 p x y z) (G.1 0).toNat) ?_ ?_
  · intro k1 ek1
    have M1 : MJ G k1 := by
      rw [ek1]
      exact M.up (by omega)
    have jm : k1 271 0 = G.1 0 := M1.1.many
    have jd : k1 271 15 = G.1 1 := M1.1.day
    have jo : k1 271 9 = G.1 2 := M1.1.opn
    refine fun z4 e4 => fun z5 e5 => (have f5 := wr_d e5 (by omega) (by omega); fun z6 e6 => ⟨fun q1 => (have r1 := xl_lt e6 q1; fun _ _ _ _ _ _ _ ek => (by rw [if_pos (by omega)])), fun q1 => (have r1 := xl_ge e6 q1; fun z7 e7 => ⟨fun q2 => (have r2 := xl_gt e7 q2; fun _ _ _ _ _ _ _ ek => (by rw [if_pos (by omega)])), fun q2 => (have r2 := xl_le e7 q2; fun z8 e8 => ⟨fun q3 => (have r3 := xl_lt e8 q3; fun _ _ _ _ _ _ _ ek => (by rw [if_pos (by omega)])), fun q3 => (have r3 := xl_ge e8 q3; fun z9 e9 => ⟨fun q4 => (have r4 := xl_gt e9 q4; fun _ _ _ _ _ _ _ ek => (by rw [if_pos (by omega)])), fun q4 => (have r4 := xl_le e9 q4; fun z10 e10 => ⟨fun q5 => (have r5 := xl_lt e10 q5; fun _ _ _ _ _ _ _ ek => (by rw [if_neg (by omega), if_pos (by omega)])), fun q5 => (have r5 := xl_ge e10 q5; fun z11 e11 => ⟨fun q6 => (have r6 := xl_gt e11 q6; fun _ _ _ _ _ _ _ ek => (by rw [if_neg (by omega), if_pos (by omega)])), fun q6 => (have r6 := xl_le e11 q6; ?_)⟩)⟩)⟩)⟩)⟩)⟩)
    · exact ⟨rfl, rfl, rfl, rfl, M1, by omega, by omega, by omega, by omega, by omega, by omega, 0, rfl, by omega, rfl⟩
  · rintro x0 x1 x2 x3 x5 x6 q ⟨rfl, rfl, rfl, rfl, i0, i1, i2, i3, i4, i5, i6, k, j1, j2, j3⟩ z6 e6
    have e6 := e6.trans i0.1.many
    refine ⟨fun q1 => ?_, fun q1 => ⟨fun q2 z7 e7 z8 e8 => ?_, fun q2 v1 k1 hs1 => ?_⟩⟩
    · rw [if_neg (by omega), if_neg (by omega), toN (show G.1 0 = (k : Int) by omega)]
      exact j3.eq
    · have f8 := wr_d e8 (by omega) (by omega)
      exact ⟨rfl, rfl, rfl, rfl, i0, i1, i2, i3, i4, i5, i6, k + 1, by omega, by omega, j3.n0 j1 (fun q => q.1 q2) e7⟩
    · obtain ⟨r0, r⟩ := sr_isTaking hs1 i0.1 W.1.1 (by omega) (by omega) i3 (by omega)
      rw [r0]
      refine ⟨fun q3 z8 e8 z9 e9 => ?_, fun q3 z8 e8 z9 e9 z10 e10 => ?_⟩
      · have f9 := wr_d e9 (by omega) (by omega)
        exact ⟨rfl, rfl, rfl, rfl, i0, i1, i2, i3, i4, i5, i6, k + 1, by omega, by omega, j3.n0 j1 (fun q => r.f q3 q.2) e8⟩
      · have f10 := wr_d e10 (by omega) (by omega)
        exact ⟨rfl, rfl, rfl, rfl, i0, i1, i2, i3, i4, i5, i6, k + 1, by omega, by omega, j3.y j1 ⟨q2, r.t q3⟩ e8 e9⟩
theorem pq_takers : PJ 108 211 3 true := pj_ans ak_takers (fun {G as h h1 h2 v v2} hl hb W C M s1 s2 => by
  obtain ⟨x, y, z, rfl⟩ := as3 hl
  exact (ca_takers s1 C W).trans (ra_takers s2 M W).symm)
end AA
