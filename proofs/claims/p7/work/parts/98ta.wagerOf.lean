/-! answers: wagerOf (made by a program) -/
section AA
variable {h h' : fH} {v x y z w : Int} {G : gS}
theorem ca_wagerOf (hs : fS 77 [1, x, y] h v h') (C : CJ G h) (W : GW G) : v = if x < 0 ∨ G.1 2 ≤ x then -1 else if y < 0 ∨ 4 < y then -2 else G.1 (83 + 5 * x + y) := by
  have jm : h 11 1 = G.1 0 := C.1.many
  have jd : h 11 15 = G.1 1 := C.1.day
  have jo : h 11 14 = G.1 2 := C.1.opn
  have hB := W.1.1.1
  have hD := W.1.2
  refine vc_wagerOf hs (fun v _ => v = if x < 0 ∨ G.1 2 ≤ x then -1 else if y < 0 ∨ 4 < y then -2 else G.1 (83 + 5 * x + y)) ?_
  · refine ⟨fun q1 => fun _ _ _ _ _ _ _ ek => (by rw [if_pos (by omega)]), fun q1 => fun z3 e3 => ⟨fun q2 => fun z4 e4 => ⟨fun q3 => fun z5 e5 => ?_, fun q3 => ⟨fun q4 => fun z5 e5 => ?_, fun q4 => ⟨fun q5 => fun z5 e5 => ?_, fun q5 => ⟨fun q6 => fun z5 e5 => ?_, fun q6 => ⟨fun q7 => fun z5 e5 => ?_, fun q7 => fun _ _ _ _ _ _ _ ek => (by rw [if_neg (by omega), if_pos (by omega)])⟩⟩⟩⟩⟩, fun q2 => fun _ _ _ _ _ _ _ ek => (by rw [if_pos (by omega)])⟩⟩
    · have r := C.1.wg (w := x) (j := 0) q1 (by omega) (by omega) (by omega)
      rw [show (11 : Int) + 19 = 30 from rfl, ← e4, ← e5] at r
      rw [if_neg (by omega), if_neg (by omega)]
      exact r.trans (congrArg G.1 (by omega))
    · have r := C.1.wg (w := x) (j := 1) q1 (by omega) (by omega) (by omega)
      rw [show (11 : Int) + 19 = 30 from rfl, ← e4, ← e5] at r
      rw [if_neg (by omega), if_neg (by omega)]
      exact r.trans (congrArg G.1 (by omega))
    · have r := C.1.wg (w := x) (j := 2) q1 (by omega) (by omega) (by omega)
      rw [show (11 : Int) + 19 = 30 from rfl, ← e4, ← e5] at r
      rw [if_neg (by omega), if_neg (by omega)]
      exact r.trans (congrArg G.1 (by omega))
    · have r := C.1.wg (w := x) (j := 3) q1 (by omega) (by omega) (by omega)
      rw [show (11 : Int) + 19 = 30 from rfl, ← e4, ← e5] at r
      rw [if_neg (by omega), if_neg (by omega)]
      exact r.trans (congrArg G.1 (by omega))
    · have r := C.1.wg (w := x) (j := 4) q1 (by omega) (by omega) (by omega)
      rw [show (11 : Int) + 19 = 30 from rfl, ← e4, ← e5] at r
      rw [if_neg (by omega), if_neg (by omega)]
      exact r.trans (congrArg G.1 (by omega))
theorem ra_wagerOf (hs : fS 187 [271, x, y] h v h') (M : MJ G h) (W : GW G) : v = if x < 0 ∨ G.1 2 ≤ x then -1 else if y < 0 ∨ 4 < y then -2 else G.1 (83 + 5 * x + y) := by
  have hB := W.1.1.1
  have hD := W.1.2
  refine vr_wagerOf hs (fun v _ => v = if x < 0 ∨ G.1 2 ≤ x then -1 else if y < 0 ∨ 4 < y then -2 else G.1 (83 + 5 * x + y)) ?_
  · intro k1 ek1
    have M1 : MJ G k1 := by
      rw [ek1]
      exact M.up (by omega)
    have jm : k1 271 0 = G.1 0 := M1.1.many
    have jd : k1 271 15 = G.1 1 := M1.1.day
    have jo : k1 271 9 = G.1 2 := M1.1.opn
    refine fun z3 e3 => fun z4 e4 => (have f4 := wr_d e4 (by omega) (by omega); fun z5 e5 => ⟨fun q1 => (have r1 := xl_lt e5 q1; fun z6 e6 => fun z7 e7 => (have f7 := wr_d e7 (by omega) (by omega); fun z8 e8 => ⟨fun q2 => (have r2 := xl_lt e8 q2; fun _ _ _ _ _ _ _ ek => (by rw [if_pos (by omega)])), fun q2 => (have r2 := xl_ge e8 q2; fun z9 e9 => ⟨fun q3 => (have r3 := xl_gt e9 q3; fun _ _ _ _ _ _ _ ek => (by rw [if_pos (by omega)])), fun q3 => (have r3 := xl_le e9 q3; fun _ _ _ _ _ _ _ ek => (by rw [if_neg (by omega), if_pos (by omega)]))⟩)⟩)), fun q1 => (have r1 := xl_ge e5 q1; fun z6 e6 => ⟨fun q4 => (have r4 := xl_gt e6 q4; fun z7 e7 => fun z8 e8 => (have f8 := wr_d e8 (by omega) (by omega); fun z9 e9 => ⟨fun q5 => (have r5 := xl_lt e9 q5; fun _ _ _ _ _ _ _ ek => (by rw [if_pos (by omega)])), fun q5 => (have r5 := xl_ge e9 q5; fun z10 e10 => ⟨fun q6 => (have r6 := xl_gt e10 q6; fun _ _ _ _ _ _ _ ek => (by rw [if_pos (by omega)])), fun q6 => (have r6 := xl_le e10 q6; fun _ _ _ _ _ _ _ ek => (by rw [if_neg (by omega), if_pos (by omega)]))⟩)⟩)), fun q4 => (have r4 := xl_le e6 q4; fun z7 e7 => ⟨fun q7 => (have r7 := xl_lt e7 q7; fun z8 e8 => fun z9 e9 => (have f9 := wr_d e9 (by omega) (by omega); fun z10 e10 => ⟨fun q8 => (have r8 := xl_lt e10 q8; fun _ _ _ _ _ _ _ ek => (by rw [if_pos (by omega)])), fun q8 => (have r8 := xl_ge e10 q8; fun z11 e11 => ⟨fun q9 => (have r9 := xl_gt e11 q9; fun _ _ _ _ _ _ _ ek => (by rw [if_pos (by omega)])), fun q9 => (have r9 := xl_le e11 q9; fun _ _ _ _ _ _ _ ek => (by rw [if_neg (by omega), if_pos (by omega)]))⟩)⟩)), fun q7 => (have r7 := xl_ge e7 q7; fun z8 e8 => ⟨fun q10 => (have r10 := xl_gt e8 q10; fun z9 e9 => fun z10 e10 => (have f10 := wr_d e10 (by omega) (by omega); fun z11 e11 => ⟨fun q11 => (have r11 := xl_lt e11 q11; fun _ _ _ _ _ _ _ ek => (by rw [if_pos (by omega)])), fun q11 => (have r11 := xl_ge e11 q11; fun z12 e12 => ⟨fun q12 => (have r12 := xl_gt e12 q12; fun _ _ _ _ _ _ _ ek => (by rw [if_pos (by omega)])), fun q12 => (have r12 := xl_le e12 q12; fun _ _ _ _ _ _ _ ek => (by rw [if_neg (by omega), if_pos (by omega)]))⟩)⟩)), fun q10 => (have r10 := xl_le e8 q10; ⟨fun q13 => ⟨fun q14 => ⟨fun q15 => ⟨fun q16 => fun z9 e9 => ?_, fun q16 => fun z9 e9 => ?_⟩, fun q15 => fun z9 e9 => ?_⟩, fun q14 => fun z9 e9 => ?_⟩, fun q13 => fun z9 e9 => ?_⟩)⟩)⟩)⟩)⟩)
    · rw [if_neg (by omega), if_neg (by omega)]
      exact e9.trans ((M1.1.w4 (by omega) (by omega)).trans (congrArg G.1 (by omega)))
    · rw [if_neg (by omega), if_neg (by omega)]
      exact e9.trans ((M1.1.w3 (by omega) (by omega)).trans (congrArg G.1 (by omega)))
    · rw [if_neg (by omega), if_neg (by omega)]
      exact e9.trans ((M1.1.w2 (by omega) (by omega)).trans (congrArg G.1 (by omega)))
    · rw [if_neg (by omega), if_neg (by omega)]
      exact e9.trans ((M1.1.w1 (by omega) (by omega)).trans (congrArg G.1 (by omega)))
    · rw [if_neg (by omega), if_neg (by omega)]
      exact e9.trans ((M1.1.w0 (by omega) (by omega)).trans (congrArg G.1 (by omega)))
theorem pq_wagerOf : PJ 77 187 2 true := pj_ans ak_wagerOf (fun {G as h h1 h2 v v2} hl hb W C M s1 s2 => by
  obtain ⟨x, y, rfl⟩ := as2 hl
  exact (ca_wagerOf s1 C W).trans (ra_wagerOf s2 M W).symm)
end AA
