/-! answers: wedIn (made by a program) -/
section AA
variable {h h' : fH} {v x y z w : Int} {G : gS}
theorem ca_wedIn (hs : fS 102 [1, x] h v h') (C : CJ G h) (W : GW G) : v = if x < 0 then -4 else if 60 < x then -6 else ctF (fun p => dayN x.toNat G.1 (7 + 5 * p) ≠ 0) (G.1 0).toNat := by
  have jm : h 11 1 = G.1 0 := C.1.many
  have jd : h 11 15 = G.1 1 := C.1.day
  have jo : h 11 14 = G.1 2 := C.1.opn
  have hB := W.1.1.1
  have hD := W.1.2
  refine vc_wedIn hs (fun v _ => v = if x < 0 then -4 else if 60 < x then -6 else ctF (fun p => dayN x.toNat G.1 (7 + 5 * p) ≠ 0) (G.1 0).toNat) ?_
  · refine ⟨fun q1 => ⟨fun q2 => fun v1 k1 hs1 => ?_, fun q2 => fun _ _ _ _ _ _ _ ek => (by rw [if_neg (by omega), if_pos (by omega)])⟩, fun q1 => fun _ _ _ _ _ _ _ ek => (by rw [if_pos (by omega)])⟩
    · obtain ⟨-, r⟩ := sc_howMany hs1 C.1 W.1.1 (by omega) (by omega) (by omega)
      rw [if_neg (by omega), if_neg (by omega)]
      exact r
theorem ra_wedIn (hs : fS 203 [271, x] h v h') (M : MJ G h) (W : GW G) : v = if x < 0 then -4 else if 60 < x then -6 else ctF (fun p => dayN x.toNat G.1 (7 + 5 * p) ≠ 0) (G.1 0).toNat := by
  have hB := W.1.1.1
  have hD := W.1.2
  refine vr_wedIn hs (fun v _ => v = if x < 0 then -4 else if 60 < x then -6 else ctF (fun p => dayN x.toNat G.1 (7 + 5 * p) ≠ 0) (G.1 0).toNat) ?_
  · intro k1 ek1
    have M1 : MJ G k1 := by
      rw [ek1]
      exact M.up (by omega)
    have jm : k1 271 0 = G.1 0 := M1.1.many
    have jd : k1 271 15 = G.1 1 := M1.1.day
    have jo : k1 271 9 = G.1 2 := M1.1.opn
    refine ⟨fun q1 => ⟨fun q2 => fun v2 k2 hs2 => fun v3 k3 hs3 => ?_, fun q2 => fun _ _ _ _ _ _ _ ek => (by rw [if_neg (by omega), if_pos (by omega)])⟩, fun q1 => fun _ _ _ _ _ _ _ ek => (by rw [if_pos (by omega)])⟩
    · obtain ⟨c1, c2, -⟩ := sr_down hs2 M1.1 (by omega)
      obtain ⟨r, -⟩ := sr_wedThen hs3 c1 c2 W.1.1 (by omega) (by omega) (by omega)
      rw [if_neg (by omega), if_neg (by omega)]
      exact r
theorem pq_wedIn : PJ 102 203 1 true := pj_ans ak_wedIn (fun {G as h h1 h2 v v2} hl hb W C M s1 s2 => by
  obtain ⟨x, rfl⟩ := as1 hl
  exact (ca_wedIn s1 C W).trans (ra_wedIn s2 M W).symm)
end AA
