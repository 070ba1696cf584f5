/-! answers: beliefIn (made by a program) -/
section AA
variable {h h' : fH} {v x y z w : Int} {G : gS}
theorem ca_beliefIn (hs : fS 98 [1, x, y, z] h v h') (C : CJ G h) (W : GW G) : v = if x < 0 ∨ G.1 0 ≤ x ∨ y < 0 ∨ 4 < y then -1 else if z < 0 then -4 else if 60 < z then -6 else dayN z.toNat G.1 (38 + 5 * x + y) := by
  have jm : h 11 1 = G.1 0 := C.1.many
  have jd : h 11 15 = G.1 1 := C.1.day
  have jo : h 11 14 = G.1 2 := C.1.opn
  have hB := W.1.1.1
  have hD := W.1.2
  refine vc_beliefIn hs (fun v _ => v = if x < 0 ∨ G.1 0 ≤ x ∨ y < 0 ∨ 4 < y then -1 else if z < 0 then -4 else if 60 < z then -6 else dayN z.toNat G.1 (38 + 5 * x + y)) ?_
  · refine ⟨fun q1 => fun _ _ _ _ _ _ _ ek => (by rw [if_pos (by omega)]), fun q1 => fun z4 e4 => ⟨fun q2 => fun _ _ _ _ _ _ _ ek => (by rw [if_pos (by omega)]), fun q2 => ⟨fun q3 => fun _ _ _ _ _ _ _ ek => (by rw [if_pos (by omega)]), fun q3 => ⟨fun q4 => fun _ _ _ _ _ _ _ ek => (by rw [if_pos (by omega)]), fun q4 => ⟨fun q5 => ⟨fun q6 => fun v1 k1 hs1 => ?_, fun q6 => fun _ _ _ _ _ _ _ ek => (by rw [if_neg (by omega), if_neg (by omega), if_pos (by omega)])⟩, fun q5 => fun _ _ _ _ _ _ _ ek => (by rw [if_neg (by omega), if_pos (by omega)])⟩⟩⟩⟩⟩
    · obtain ⟨-, r⟩ := sc_beliefOf hs1 C.1 W.1.1 (by omega) (by omega) (by omega) (by omega) (by omega) (by omega) (by omega)
      rw [if_neg (by omega), if_neg (by omega), if_neg (by omega)]
      exact r
theorem ra_beliefIn (hs : fS 201 [271, x, y, z] h v h') (M : MJ G h) (W : GW G) : v = if x < 0 ∨ G.1 0 ≤ x ∨ y < 0 ∨ 4 < y then -1 else if z < 0 then -4 else if 60 < z then -6 else dayN z.toNat G.1 (38 + 5 * x + y) := by
  have hB := W.1.1.1
  have hD := W.1.2
  refine vr_beliefIn hs (fun v _ => v = if x < 0 ∨ G.1 0 ≤ x ∨ y < 0 ∨ 4 < y then -1 else if z < 0 then -4 else if 60 < z then -6 else dayN z.toNat G.1 (38 + 5 * x + y)) ?_
  · intro k1 ek1
    have M1 : MJ G k1 := by
      rw [ek1]
      exact M.up (by omega)
    have jm : k1 271 0 = G.1 0 := M1.1.many
    have jd : k1 271 15 = G.1 1 := M1.1.day
    have jo : k1 271 9 = G.1 2 := M1.1.opn
    refine fun z4 e4 => fun z5 e5 => (have f5 := wr_f e5; fun z6 e6 => ⟨fun q1 => (have r1 := xl_lt e6 q1; fun _ _ _ _ _ _ _ ek => (by rw [if_pos (by omega)])), fun q1 => (have r1 := xl_ge e6 q1; fun z7 e7 => ⟨fun q2 => (have r2 := xl_gt e7 q2; fun _ _ _ _ _ _ _ ek => (by rw [if_pos (by omega)])), fun q2 => (have r2 := xl_le e7 q2; fun z8 e8 => ⟨fun q3 => (have r3 := xl_lt e8 q3; fun _ _ _ _ _ _ _ ek => (by rw [if_pos (by omega)])), fun q3 => (have r3 := xl_ge e8 q3; fun z9 e9 => ⟨fun q4 => (have r4 := xl_gt e9 q4; fun _ _ _ _ _ _ _ ek => (by rw [if_pos (by omega)])), fun q4 => (have r4 := xl_le e9 q4; ⟨fun q5 => ⟨fun q6 => fun v2 k2 hs2 => ?_, fun q6 => fun _ _ _ _ _ _ _ ek => (by rw [if_neg (by omega), if_neg (by omega), if_pos (by omega)])⟩, fun q5 => fun _ _ _ _ _ _ _ ek => (by rw [if_neg (by omega), if_pos (by omega)])⟩)⟩)⟩)⟩)⟩)
    · obtain ⟨r, -⟩ := sr_beliefThen hs2 M1.1 W.1.1 (by omega) (by omega) (by omega) (by omega) (by omega) (by omega) (by omega)
      rw [if_neg (by omega), if_neg (by omega), if_neg (by omega)]
      exact r
theorem pq_beliefIn : PJ 98 201 3 true := pj_ans ak_beliefIn (fun {G as h h1 h2 v v2} hl hb W C M s1 s2 => by
  obtain ⟨x, y, z, rfl⟩ := as3 hl
  exact (ca_beliefIn s1 C W).trans (ra_beliefIn s2 M W).symm)
end AA
