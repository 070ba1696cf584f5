/-! answers: eventOf (made by a program) -/
section AA
variable {h h' : fH} {v x y z w : Int} {G : gS}
theorem ca_eventOf (hs : fS 76 [1, x, y] h v h') (C : CJ G h) (W : GW G) : v = if x < 0 ∨ 4 < x then -1 else if y < 0 ∨ 2 < y then -2 else if y = 0 then G.1 (73 + 2 * x) else if y = 1 then G.1 (74 + 2 * x) else bI (cmF G.1 x (G.1 1)) := by
  have jm : h 11 1 = G.1 0 := C.1.many
  have jd : h 11 15 = G.1 1 := C.1.day
  have jo : h 11 14 = G.1 2 := C.1.opn
  have hB := W.1.1.1
  have hD := W.1.2
  refine vc_eventOf hs (fun v _ => v = if x < 0 ∨ 4 < x then -1 else if y < 0 ∨ 2 < y then -2 else if y = 0 then G.1 (73 + 2 * x) else if y = 1 then G.1 (74 + 2 * x) else bI (cmF G.1 x (G.1 1))) ?_
  · refine ⟨fun q1 => fun _ _ _ _ _ _ _ ek => (by rw [if_pos (by omega)]), fun q1 => ⟨fun q2 => fun _ _ _ _ _ _ _ ek => (by rw [if_pos (by omega)]), fun q2 => ⟨fun q3 => fun z3 e3 => ?_, fun q3 => ⟨fun q4 => fun z3 e3 => ?_, fun q4 => ⟨fun q5 => fun z3 e3 => fun z4 e4 => fun z5 e5 => (have f5 := wr_f e5; fun z6 e6 => fun z7 e7 => ⟨fun q6 => ?_, fun q6 => ?_⟩), fun q5 => fun _ _ _ _ _ _ _ ek => (by rw [if_neg (by omega), if_pos (by omega)])⟩⟩⟩⟩⟩
    · rw [if_neg (by omega), if_neg (by omega), if_pos (by omega)]
      exact e3.trans (C.1.ev q1 (by omega))
    · rw [if_neg (by omega), if_neg (by omega), if_neg (by omega), if_pos (by omega)]
      exact e3.trans (C.1.on q1 (by omega))
    · have e4 := e4.trans (C.1.on q1 (by omega))
      have e6 := e6.trans (C.1.ev q1 (by omega))
      rw [e5, e3, jd, e4, e6] at e7
      rw [if_neg (by omega), if_neg (by omega), if_neg (by omega), if_neg (by omega)]
      exact (bI_f (fun q => q6 (e7.trans q))).symm
    · have e4 := e4.trans (C.1.on q1 (by omega))
      have e6 := e6.trans (C.1.ev q1 (by omega))
      rw [e5, e3, jd, e4, e6] at e7
      rw [if_neg (by omega), if_neg (by omega), if_neg (by omega), if_neg (by omega)]
      exact (bI_t (e7.symm.trans q6)).symm
theorem ra_eventOf (hs : fS 186 [271, x, y] h v h') (M : MJ G h) (W : GW G) : v = if x < 0 ∨ 4 < x then -1 else if y < 0 ∨ 2 < y then -2 else if y = 0 then G.1 (73 + 2 * x) else if y = 1 then G.1 (74 + 2 * x) else bI (cmF G.1 x (G.1 1)) := by
  have hB := W.1.1.1
  have hD := W.1.2
  refine vr_eventOf hs (fun v _ => v = if x < 0 ∨ 4 < x then -1 else if y < 0 ∨ 2 < y then -2 else if y = 0 then G.1 (73 + 2 * x) else if y = 1 then G.1 (74 + 2 * x) else bI (cmF G.1 x (G.1 1))) ?_
  · intro k1 ek1
    have M1 : MJ G k1 := by
      rw [ek1]
      exact M.up (by omega)
    have jm : k1 271 0 = G.1 0 := M1.1.many
    have jd : k1 271 15 = G.1 1 := M1.1.day
    have jo : k1 271 9 = G.1 2 := M1.1.opn
    refine fun z3 e3 => ⟨fun q1 => (have r1 := xl_lt e3 q1; fun z4 e4 => ⟨fun q2 => (have r2 := xl_lt e4 q2; fun _ _ _ _ _ _ _ ek => (by rw [if_pos (by omega)])), fun q2 => (have r2 := xl_ge e4 q2; fun z5 e5 => ⟨fun q3 => (have r3 := xl_gt e5 q3; fun _ _ _ _ _ _ _ ek => (by rw [if_pos (by omega)])), fun q3 => (have r3 := xl_le e5 q3; fun _ _ _ _ _ _ _ ek => (by rw [if_neg (by omega), if_pos (by omega)]))⟩)⟩), fun q1 => (have r1 := xl_ge e3 q1; fun z4 e4 => ⟨fun q4 => (have r4 := xl_gt e4 q4; fun z5 e5 => ⟨fun q5 => (have r5 := xl_lt e5 q5; fun _ _ _ _ _ _ _ ek => (by rw [if_pos (by omega)])), fun q5 => (have r5 := xl_ge e5 q5; fun z6 e6 => ⟨fun q6 => (have r6 := xl_gt e6 q6; fun _ _ _ _ _ _ _ ek => (by rw [if_pos (by omega)])), fun q6 => (have r6 := xl_le e6 q6; fun _ _ _ _ _ _ _ ek => (by rw [if_neg (by omega), if_pos (by omega)]))⟩)⟩), fun q4 => (have r4 := xl_le e4 q4; fun z5 e5 => ⟨fun q7 => (have r7 := xl_lt e5 q7; fun z6 e6 => ⟨fun q8 => (have r8 := xl_lt e6 q8; fun _ _ _ _ _ _ _ ek => (by rw [if_pos (by omega)])), fun q8 => (have r8 := xl_ge e6 q8; fun z7 e7 => ⟨fun q9 => (have r9 := xl_gt e7 q9; fun _ _ _ _ _ _ _ ek => (by rw [if_pos (by omega)])), fun q9 => (have r9 := xl_le e7 q9; fun _ _ _ _ _ _ _ ek => (by rw [if_neg (by omega), if_pos (by omega)]))⟩)⟩), fun q7 => (have r7 := xl_ge e5 q7; fun z6 e6 => ⟨fun q10 => (have r10 := xl_gt e6 q10; fun z7 e7 => ⟨fun q11 => (have r11 := xl_lt e7 q11; fun _ _ _ _ _ _ _ ek => (by rw [if_pos (by omega)])), fun q11 => (have r11 := xl_ge e7 q11; fun z8 e8 => ⟨fun q12 => (have r12 := xl_gt e8 q12; fun _ _ _ _ _ _ _ ek => (by rw [if_pos (by omega)])), fun q12 => (have r12 := xl_le e8 q12; fun _ _ _ _ _ _ _ ek => (by rw [if_neg (by omega), if_pos (by omega)]))⟩)⟩), fun q10 => (have r10 := xl_le e6 q10; ⟨fun q13 => ⟨fun q14 => fun z7 e7 => fun z8 e8 => fun z9 e9 => (have f9 := wr_f e9; fun z10 e10 => fun z11 e11 => ⟨fun q15 => ?_, fun q15 => ?_⟩), fun q14 => fun z7 e7 => ?_⟩, fun q13 => fun z7 e7 => ?_⟩)⟩)⟩)⟩)⟩
    · have e8 := e8.trans (M1.1.on (e := x) (by omega) (by omega))
      have e10 := e10.trans (M1.1.ev (e := x) (by omega) (by omega))
      rw [e9, e7, jd, e8, e10] at e11
      rw [if_neg (by omega), if_neg (by omega), if_neg (by omega), if_neg (by omega)]
      exact (bI_f (fun q => q15 (e11.trans q))).symm
    · have e8 := e8.trans (M1.1.on (e := x) (by omega) (by omega))
      have e10 := e10.trans (M1.1.ev (e := x) (by omega) (by omega))
      rw [e9, e7, jd, e8, e10] at e11
      rw [if_neg (by omega), if_neg (by omega), if_neg (by omega), if_neg (by omega)]
      exact (bI_t (e11.symm.trans q15)).symm
    · rw [if_neg (by omega), if_neg (by omega), if_neg (by omega), if_pos (by omega)]
      exact e7.trans (M1.1.on (by omega) (by omega))
    · rw [if_neg (by omega), if_neg (by omega), if_pos (by omega)]
      exact e7.trans (M1.1.ev (by omega) (by omega))
theorem pq_eventOf : PJ 76 186 2 true := pj_ans ak_eventOf (fun {G as h h1 h2 v v2} hl hb W C M s1 s2 => by
  obtain ⟨x, y, rfl⟩ := as2 hl
  exact (ca_eventOf s1 C W).trans (ra_eventOf s2 M W).symm)
end AA
