/-! answers: personIn (made by a program) -/
section AA
variable {h h' : fH} {v x y z w : Int} {G : gS}
theorem ca_personIn (hs : fS 96 [1, x, y, z] h v h') (C : CJ G h) (W : GW G) : v = if x < 0 ∨ G.1 0 ≤ x then -1 else if y < 0 then -4 else if 60 < y then -6 else if z < 0 ∨ 1 < z then -2 else if z = 0 then wedF (dayN y.toNat G.1 (7 + 5 * x)) else dayN y.toNat G.1 (6 + 5 * x) := by
  have jm : h 11 1 = G.1 0 := C.1.many
  have jd : h 11 15 = G.1 1 := C.1.day
  have jo : h 11 14 = G.1 2 := C.1.opn
  have hB := W.1.1.1
  have hD := W.1.2
  refine vc_personIn hs (fun v _ => v = if x < 0 ∨ G.1 0 ≤ x then -1 else if y < 0 then -4 else if 60 < y then -6 else if z < 0 ∨ 1 < z then -2 else if z = 0 then wedF (dayN y.toNat G.1 (7 + 5 * x)) else dayN y.toNat G.1 (6 + 5 * x)) ?_
  · refine ⟨fun q1 => fun _ _ _ _ _ _ _ ek => (by rw [if_pos (by omega)]), fun q1 => fun z4 e4 => ⟨fun q2 => fun _ _ _ _ _ _ _ ek => (by rw [if_pos (by omega)]), fun q2 => ⟨fun q3 => ⟨fun q4 => ⟨fun q5 => fun _ _ _ _ _ _ _ ek => (by rw [if_neg (by omega), if_neg (by omega), if_neg (by omega), if_pos (by omega)]), fun q5 => ⟨fun q6 => fun _ _ _ _ _ _ _ ek => (by rw [if_neg (by omega), if_neg (by omega), if_neg (by omega), if_pos (by omega)]), fun q6 => ⟨fun q7 => fun v1 k1 hs1 => ?_, fun q7 => fun v1 k1 hs1 => ?_⟩⟩⟩, fun q4 => fun _ _ _ _ _ _ _ ek => (by rw [if_neg (by omega), if_neg (by omega), if_pos (by omega)])⟩, fun q3 => fun _ _ _ _ _ _ _ ek => (by rw [if_neg (by omega), if_pos (by omega)])⟩⟩⟩
    · obtain ⟨-, r⟩ := sc_tearsOf hs1 C.1 W.1.1 (by omega) (by omega) (by omega) (by omega) (by omega)
      rw [if_neg (by omega), if_neg (by omega), if_neg (by omega), if_neg (by omega), if_neg (by omega)]
      exact r
    · obtain ⟨-, r⟩ := sc_wedTo hs1 C.1 W.1.1 (by omega) (by omega) (by omega) (by omega) (by omega)
      rw [if_neg (by omega), if_neg (by omega), if_neg (by omega), if_neg (by omega), if_pos (by omega)]
      exact r
theorem ra_personIn (hs : fS 200 [271, x, y, z] h v h') (M : MJ G h) (W : GW G) : v = if x < 0 ∨ G.1 0 ≤ x then -1 else if y < 0 then -4 else if 60 < y then -6 else if z < 0 ∨ 1 < z then -2 else if z = 0 then wedF (dayN y.toNat G.1 (7 + 5 * x)) else dayN y.toNat G.1 (6 + 5 * x) := by
  have hB := W.1.1.1
  have hD := W.1.2
  refine vr_personIn hs (fun v _ => v = if x < 0 ∨ G.1 0 ≤ x then -1 else if y < 0 then -4 else if 60 < y then -6 else if z < 0 ∨ 1 < z then -2 else if z = 0 then wedF (dayN y.toNat G.1 (7 + 5 * x)) else dayN y.toNat G.1 (6 + 5 * x)) ?_
  · intro k1 ek1
    have M1 : MJ G k1 := by
      rw [ek1]
      exact M.up (by omega)
    have jm : k1 271 0 = G.1 0 := M1.1.many
    have jd : k1 271 15 = G.1 1 := M1.1.day
    have jo : k1 271 9 = G.1 2 := M1.1.opn
    refine fun z4 e4 => fun z5 e5 => (have f5 := wr_f e5; fun z6 e6 => ⟨fun q1 => (have r1 := xl_lt e6 q1; fun _ _ _ _ _ _ _ ek => (by rw [if_pos (by omega)])), fun q1 => (have r1 := xl_ge e6 q1; fun z7 e7 => ⟨fun q2 => (have r2 := xl_gt e7 q2; fun _ _ _ _ _ _ _ ek => (by rw [if_pos (by omega)])), fun q2 => (have r2 := xl_le e7 q2; ⟨fun q3 => ⟨fun q4 => fun z8 e8 => ⟨fun q5 => (have r5 := xl_lt e8 q5; fun _ _ _ _ _ _ _ ek => (by rw [if_neg (by omega), if_neg (by omega), if_neg (by omega), if_pos (by omega)])), fun q5 => (have r5 := xl_ge e8 q5; fun z9 e9 => ⟨fun q6 => (have r6 := xl_gt e9 q6; fun _ _ _ _ _ _ _ ek => (by rw [if_neg (by omega), if_neg (by omega), if_neg (by omega), if_pos (by omega)])), fun q6 => (have r6 := xl_le e9 q6; fun v2 k2 hs2 => fun v3 k3 hs3 => ⟨fun q7 => fun z12 e12 => ⟨fun q8 => fun z13 e13 => fun z14 e14 => (have f14 := wr_f e14; fun v4 k4 hs4 => ?_), fun q8 => fun v4 k4 hs4 => ?_⟩, fun q7 => fun z12 e12 => fun v4 k4 hs4 => ?_⟩)⟩)⟩, fun q4 => fun _ _ _ _ _ _ _ ek => (by rw [if_neg (by omega), if_neg (by omega), if_pos (by omega)])⟩, fun q3 => fun _ _ _ _ _ _ _ ek => (by rw [if_neg (by omega), if_pos (by omega)])⟩)⟩)⟩)
    · obtain ⟨c1, -, -⟩ := sr_down hs2 M1.1 (by omega)
      obtain ⟨b1, -⟩ := sr_goDays hs3 c1 W.1.1 (by omega) (by omega)
      obtain ⟨w1, w2, w3⟩ := dayN_ok W.1.1 y.toNat (by omega)
      have wp := w1.per (p := x) (by omega) (by omega)
      have e12 := e12.trans (b1.wed (p := x) (by omega) (by omega))
      have e13 := e13.trans (b1.wed (p := x) (by omega) (by omega))
      rw [if_neg (by omega), if_neg (by omega), if_neg (by omega), if_neg (by omega), if_pos (by omega)]
      unfold wedF
      rw [if_neg (by omega)]
      omega
    · obtain ⟨c1, -, -⟩ := sr_down hs2 M1.1 (by omega)
      obtain ⟨b1, -⟩ := sr_goDays hs3 c1 W.1.1 (by omega) (by omega)
      obtain ⟨w1, w2, w3⟩ := dayN_ok W.1.1 y.toNat (by omega)
      have wp := w1.per (p := x) (by omega) (by omega)
      have e12 := e12.trans (b1.wed (p := x) (by omega) (by omega))
      rw [if_neg (by omega), if_neg (by omega), if_neg (by omega), if_neg (by omega), if_pos (by omega)]
      unfold wedF
      rw [if_pos (by omega)]
    · obtain ⟨c1, -, -⟩ := sr_down hs2 M1.1 (by omega)
      obtain ⟨b1, -⟩ := sr_goDays hs3 c1 W.1.1 (by omega) (by omega)
      obtain ⟨w1, w2, w3⟩ := dayN_ok W.1.1 y.toNat (by omega)
      have wp := w1.per (p := x) (by omega) (by omega)
      rw [if_neg (by omega), if_neg (by omega), if_neg (by omega), if_neg (by omega), if_neg (by omega)]
      exact e12.trans (b1.tears (by omega) (by omega))
theorem pq_personIn : PJ 96 200 3 true := pj_ans ak_personIn (fun {G as h h1 h2 v v2} hl hb W C M s1 s2 => by
  obtain ⟨x, y, z, rfl⟩ := as3 hl
  exact (ca_personIn s1 C W).trans (ra_personIn s2 M W).symm)
end AA
