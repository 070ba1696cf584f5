/-! answers: days (made by a program) -/
section AA
variable {h h' : fH} {v x y z w : Int} {G : gS}
theorem ca_days (hs : fS 90 [1, x] h v h') (C : CJ G h) (W : GW G) : v = if x < 1 then -4 else if 60 < x ∨ 999 < G.1 1 + x then -6 else ctF (fun p => dayN x.toNat G.1 (7 + 5 * p) ≠ 0) (G.1 0).toNat := by
  have jm : h 11 1 = G.1 0 := C.1.many
  have jd : h 11 15 = G.1 1 := C.1.day
  have jo : h 11 14 = G.1 2 := C.1.opn
  have hB := W.1.1.1
  have hD := W.1.2
  refine vc_days hs (fun v _ => v = if x < 1 then -4 else if 60 < x ∨ 999 < G.1 1 + x then -6 else ctF (fun p => dayN x.toNat G.1 (7 + 5 * p) ≠ 0) (G.1 0).toNat) ?_
  · refine ⟨fun q1 => ⟨fun q2 => fun _ _ _ _ _ _ _ ek => (by rw [if_neg (by omega), if_pos (by omega)]), fun q2 => fun z2 e2 => fun z3 e3 => (have f3 := wr_d e3 (by omega) (by omega); ⟨fun q3 => fun v1 k1 hs1 => fun v2 k2 hs2 => fun v3 k3 hs3 => ?_, fun q3 => fun _ _ _ _ _ _ _ ek => (by rw [if_neg (by omega), if_pos (by omega)])⟩)⟩, fun q1 => fun _ _ _ _ _ _ _ ek => (by rw [if_pos (by omega)])⟩
    · obtain ⟨b1, b2⟩ := cj_keep hs1 C W
      have b1' : RC k1 11 G.1 := b1.1
      obtain ⟨c1, c2⟩ := sc_goOn hs2 b1' W.1.1 (by omega) (by omega)
      obtain ⟨w1, w2, w3⟩ := dayN_ok W.1.1 x.toNat (by omega)
      obtain ⟨-, r⟩ := sc_howMany hs3 c1 w1 (by omega) (by omega) (by omega)
      rw [w2] at r
      rw [if_neg (by omega), if_neg (by omega)]
      exact r
theorem ra_days (hs : fS 197 [271, x] h v h') (M : MJ G h) (W : GW G) : v = if x < 1 then -4 else if 60 < x ∨ 999 < G.1 1 + x then -6 else ctF (fun p => dayN x.toNat G.1 (7 + 5 * p) ≠ 0) (G.1 0).toNat := by
  have hB := W.1.1.1
  have hD := W.1.2
  refine vr_days hs (fun v _ => v = if x < 1 then -4 else if 60 < x ∨ 999 < G.1 1 + x then -6 else ctF (fun p => dayN x.toNat G.1 (7 + 5 * p) ≠ 0) (G.1 0).toNat) ?_
  · intro k1 ek1
    have M1 : MJ G k1 := by
      rw [ek1]
      exact M.up (by omega)
    have jm : k1 271 0 = G.1 0 := M1.1.many
    have jd : k1 271 15 = G.1 1 := M1.1.day
    have jo : k1 271 9 = G.1 2 := M1.1.opn
    refine ⟨fun q1 => ⟨fun q2 => fun z2 e2 => fun z3 e3 => (have f3 := wr_d e3 (by omega) (by omega); ⟨fun q3 => fun v2 k2 hs2 => fun v3 k3 hs3 => fun v4 k4 hs4 => fun v5 k5 hs5 => ?_, fun q3 => fun _ _ _ _ _ _ _ ek => (by rw [if_neg (by omega), if_pos (by omega)])⟩), fun q2 => fun _ _ _ _ _ _ _ ek => (by rw [if_neg (by omega), if_pos (by omega)])⟩, fun q1 => fun _ _ _ _ _ _ _ ek => (by rw [if_pos (by omega)])⟩
    · obtain ⟨b1, b2⟩ := mj_keep hs2 M1 W
      have b1' : RM k2 G.1 := b1.1
      obtain ⟨c1, c2⟩ := sr_goDays hs3 b1' W.1.1 (by omega) (by omega)
      obtain ⟨w1, w2, w3⟩ := dayN_ok W.1.1 x.toNat (by omega)
      obtain ⟨-, r⟩ := sr_wedNum (h0 := k3) hs4 hs5 c1 w1
      rw [w2] at r
      rw [if_neg (by omega), if_neg (by omega)]
      exact r
theorem pq_days : PJ 90 197 1 true := by
  intro as h h1 h2 v v2 hl hb S hs1 hs2
  refine ⟨(pj_days as h h1 h2 v v2 hl hb S hs1 hs2).1, fun _ => ?_⟩
  obtain ⟨G, W, C, M⟩ := S
  obtain ⟨x, rfl⟩ := as1 hl
  have a := cj_days hs1 C W
  exact (ca_days hs1 C W).trans (ra_days hs2 (M.xC a.2.2) W).symm
end AA
