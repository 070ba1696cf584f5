/-! answers: happens (made by a program) -/
section AA
variable {h h' : fH} {v x y z w : Int} {G : gS}
theorem ca_happens (hs : fS 105 [1, x, y] h v h') (C : CJ G h) (W : GW G) : v = if x < 0 ∨ 4 < x then -1 else if y < 0 then -4 else if 60 < y then -6 else ctF (fun i => cmF G.1 x (G.1 1 + 1 + i)) y.toNat := by
  have jm : h 11 1 = G.1 0 := C.1.many
  have jd : h 11 15 = G.1 1 := C.1.day
  have jo : h 11 14 = G.1 2 := C.1.opn
  have hB := W.1.1.1
  have hD := W.1.2
  refine vc_happens hs (fun x0 x1 x2 x3 x4 q => x0 = 1 ∧ x1 = x ∧ x2 = y ∧ q = h ∧ 0 ≤ x ∧ x ≤ 4 ∧ 0 ≤ y ∧ y ≤ 60 ∧ ∃ k : Nat, x4 = (k : Int) + 1 ∧ (k : Int) ≤ y ∧ CT (fun i => cmF G.1 x (G.1 1 + 1 + i)) k x3) (fun v _ => v = if x < 0 ∨ 4 < x then -1 else if y < 0 then -4 else if 60 < y then -6 else ctF (fun i => cmF G.1 x (G.1 1 + 1 + i)) y.toNat) ?_ ?_
  · refine ⟨fun q1 => fun _ _ _ _ _ _ _ ek => (by rw [if_pos (by omega)]), fun q1 => ⟨fun q2 => fun _ _ _ _ _ _ _ ek => (by rw [if_pos (by omega)]), fun q2 => ⟨fun q3 => ⟨fun q4 => ?_, fun q4 => fun _ _ _ _ _ _ _ ek => (by rw [if_neg (by omega), if_neg (by omega), if_pos (by omega)])⟩, fun q3 => fun _ _ _ _ _ _ _ ek => (by rw [if_neg (by omega), if_pos (by omega)])⟩⟩⟩
    · exact ⟨rfl, rfl, rfl, rfl, by omega, by omega, by omega, by omega, 0, rfl, by omega, rfl⟩
  · rintro x0 x1 x2 x3 x4 q ⟨rfl, rfl, rfl, rfl, i1, i2, i3, i4, k, i5, i6, i7⟩
    refine ⟨fun q1 => ?_, fun q1 z5 e5 z6 e6 z7 e7 z8 e8 z9 e9 z10 e10 => ?_⟩
    · rw [if_neg (by omega), if_neg (by omega), if_neg (by omega), toN (show x2 = (k : Int) by omega)]
      exact i7.eq
    · have e5 := e5.trans jd
      have e7 := e7.trans (C.1.on i1 (by omega))
      have e9 := e9.trans (C.1.ev i1 (by omega))
      have f6 := wr_d e6 (by omega) (by omega)
      rw [e8, f6, e5, e7, e9, show G.1 1 + x4 = G.1 1 + 1 + (k : Int) by omega] at e10
      have cb := CT_b i7
      refine ⟨fun q2 => ?_, fun q2 => ?_⟩
      · have c := i7.n (x := (k : Int)) rfl (fun q => q2 (e10.trans q))
        intro z11 e11
        have f11 := wr_d e11 (by omega) (by omega)
        exact ⟨rfl, rfl, rfl, rfl, i1, i2, i3, i4, k + 1, by omega, by omega, c⟩
      · have c := i7.y (x := (k : Int)) rfl (e10.symm.trans q2)
        intro z11 e11 z12 e12
        have f11 := wr_d e11 (by omega) (by omega)
        have f12 := wr_d e12 (by omega) (by omega)
        rw [f11]
        exact ⟨rfl, rfl, rfl, rfl, i1, i2, i3, i4, k + 1, by omega, by omega, c⟩
theorem ra_happens (hs : fS 207 [271, x, y] h v h') (M : MJ G h) (W : GW G) : v = if x < 0 ∨ 4 < x then -1 else if y < 0 then -4 else if 60 < y then -6 else ctF (fun i => cmF G.1 x (G.1 1 + 1 + i)) y.toNat := by
  have hB := W.1.1.1
  have hD := W.1.2
  refine vr_happens hs (fun x0 x1 x2 x4 x5 q => x0 = 271 ∧ x1 = x ∧ x2 = y ∧ MJ G q ∧ 0 ≤ x ∧ x ≤ 4 ∧ 0 ≤ y ∧ y ≤ 60 ∧ ∃ k : Nat, x5 = (k : Int) + 1 ∧ (k : Int) ≤ y ∧ CT (fun i => cmF G.1 x (G.1 1 + 1 + i)) k x4) (fun v _ => v = if x < 0 ∨ 4 < x then -1 else if y < 0 then -4 else if 60 < y then -6 else ctF (fun i => cmF G.1 x (G.1 1 + 1 + i)) y.toNat) ?_ ?_
  · intro k1 ek1
    have M1 : MJ G k1 := by
      rw [ek1]
      exact M.up (by omega)
    have jm : k1 271 0 = G.1 0 := M1.1.many
    have jd : k1 271 15 = G.1 1 := M1.1.day
    have jo : k1 271 9 = G.1 2 := M1.1.opn
    refine fun z3 e3 => ⟨fun q1 => (have r1 := xl_lt e3 q1; fun _ _ _ _ _ _ _ ek => (by rw [if_pos (by omega)])), fun q1 => (have r1 := xl_ge e3 q1; fun z4 e4 => ⟨fun q2 => (have r2 := xl_gt e4 q2; fun _ _ _ _ _ _ _ ek => (by rw [if_pos (by omega)])), fun q2 => (have r2 := xl_le e4 q2; ⟨fun q3 => ⟨fun q4 => ?_, fun q4 => fun _ _ _ _ _ _ _ ek => (by rw [if_neg (by omega), if_neg (by omega), if_pos (by omega)])⟩, fun q3 => fun _ _ _ _ _ _ _ ek => (by rw [if_neg (by omega), if_pos (by omega)])⟩)⟩)⟩
    · exact ⟨rfl, rfl, rfl, M1, by omega, by omega, by omega, by omega, 0, rfl, by omega, rfl⟩
  · rintro x0 x1 x2 x4 x5 q ⟨rfl, rfl, rfl, i0, i1, i2, i3, i4, k, i5, i6, i7⟩
    refine ⟨fun q1 => ?_, fun q1 z5 e5 z6 e6 z7 e7 z8 e8 z9 e9 z10 e10 => ?_⟩
    · rw [if_neg (by omega), if_neg (by omega), if_neg (by omega), toN (show x2 = (k : Int) by omega)]
      exact i7.eq
    · have e5 := e5.trans i0.1.day
      have e7 := e7.trans (i0.1.on i1 (by omega))
      have e9 := e9.trans (i0.1.ev i1 (by omega))
      have f6 := wr_d e6 (by omega) (by omega)
      rw [e8, f6, e5, e7, e9, show G.1 1 + x5 = G.1 1 + 1 + (k : Int) by omega] at e10
      have cb := CT_b i7
      refine ⟨fun q2 => ?_, fun q2 => ?_⟩
      · have c := i7.n (x := (k : Int)) rfl (fun q => q2 (e10.trans q))
        intro z11 e11 z12 e12
        have f11 := wr_d e11 (by omega) (by omega)
        have f12 := wr_d e12 (by omega) (by omega)
        rw [f11, Int.add_zero]
        exact ⟨rfl, rfl, rfl, i0, i1, i2, i3, i4, k + 1, by omega, by omega, c⟩
      · have c := i7.y (x := (k : Int)) rfl (e10.symm.trans q2)
        intro z11 e11 z12 e12
        have f11 := wr_d e11 (by omega) (by omega)
        have f12 := wr_d e12 (by omega) (by omega)
        rw [f11]
        exact ⟨rfl, rfl, rfl, i0, i1, i2, i3, i4, k + 1, by omega, by omega, c⟩
theorem pq_happens : PJ 105 207 2 true := pj_ans ak_happens (fun {G as h h1 h2 v v2} hl hb W C M s1 s2 => by
  obtain ⟨x, y, rfl⟩ := as2 hl
  exact (ca_happens s1 C W).trans (ra_happens s2 M W).symm)
end AA
