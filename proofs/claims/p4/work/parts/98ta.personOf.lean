/-! answers: personOf (made by a program) -/
section AA
variable {h h' : fH} {v x y z w : Int} {G : gS}
theorem ca_personOf (hs : fS 74 [1, x, y] h v h') (C : CJ G h) (W : GW G) : v = if x < 0 ∨ G.1 0 ≤ x then -1 else if y < 0 ∨ 7 < y then -2 else if y = 0 then G.1 (3 + 5 * x) else if y = 1 then G.1 (4 + 5 * x) else if y = 2 then G.1 (5 + 5 * x) else if y = 3 then G.1 (6 + 5 * x) else if y = 4 then wedF (G.1 (7 + 5 * x)) else if y = 5 then askF (G.1 (3 + 5 * x)) (G.1 (4 + 5 * x)) else if y = 6 then weeF (G.1 (3 + 5 * x)) (G.1 (4 + 5 * x)) else lrnF (G.1 (3 + 5 * x)) := by
  have jm : h 11 1 = G.1 0 := C.1.many
  have jd : h 11 15 = G.1 1 := C.1.day
  have jo : h 11 14 = G.1 2 := C.1.opn
  have hB := W.1.1.1
  have hD := W.1.2
  refine vc_personOf hs (fun v _ => v = if x < 0 ∨ G.1 0 ≤ x then -1 else if y < 0 ∨ 7 < y then -2 else if y = 0 then G.1 (3 + 5 * x) else if y = 1 then G.1 (4 + 5 * x) else if y = 2 then G.1 (5 + 5 * x) else if y = 3 then G.1 (6 + 5 * x) else if y = 4 then wedF (G.1 (7 + 5 * x)) else if y = 5 then askF (G.1 (3 + 5 * x)) (G.1 (4 + 5 * x)) else if y = 6 then weeF (G.1 (3 + 5 * x)) (G.1 (4 + 5 * x)) else lrnF (G.1 (3 + 5 * x))) ?_
  · refine ⟨fun q1 => fun _ _ _ _ _ _ _ ek => (by rw [if_pos (by omega)]), fun q1 => fun z3 e3 => ⟨fun q2 => fun _ _ _ _ _ _ _ ek => (by rw [if_pos (by omega)]), fun q2 => ⟨fun q3 => fun z4 e4 => ?_, fun q3 => ⟨fun q4 => fun z4 e4 => ?_, fun q4 => ⟨fun q5 => fun z4 e4 => ?_, fun q5 => ⟨fun q6 => fun z4 e4 => ?_, fun q6 => ⟨fun q7 => fun z4 e4 => ?_, fun q7 => ⟨fun q8 => fun z4 e4 => ?_, fun q8 => ⟨fun q9 => fun z4 e4 => ?_, fun q9 => ⟨fun q10 => fun z4 e4 => ?_, fun q10 => fun _ _ _ _ _ _ _ ek => (by rw [if_neg (by omega), if_pos (by omega)])⟩⟩⟩⟩⟩⟩⟩⟩⟩⟩
    · rw [if_neg (by omega), if_neg (by omega), if_pos (by omega)]
      exact e4.trans (C.1.kind q1 (by omega))
    · rw [if_neg (by omega), if_neg (by omega), if_neg (by omega), if_pos (by omega)]
      exact e4.trans (C.1.fig q1 (by omega))
    · rw [if_neg (by omega), if_neg (by omega), if_neg (by omega), if_neg (by omega), if_pos (by omega)]
      exact e4.trans (C.1.wish q1 (by omega))
    · rw [if_neg (by omega), if_neg (by omega), if_neg (by omega), if_neg (by omega), if_neg (by omega), if_pos (by omega)]
      exact e4.trans (C.1.tears q1 (by omega))
    · rw [if_neg (by omega), if_neg (by omega), if_neg (by omega), if_neg (by omega), if_neg (by omega), if_neg (by omega), if_pos (by omega)]
      exact e4.trans (C.1.wed q1 (by omega))
    · rw [if_neg (by omega), if_neg (by omega), if_neg (by omega), if_neg (by omega), if_neg (by omega), if_neg (by omega), if_neg (by omega), if_pos (by omega)]
      exact e4.trans (C.1.ask q1 (by omega))
    · rw [if_neg (by omega), if_neg (by omega), if_neg (by omega), if_neg (by omega), if_neg (by omega), if_neg (by omega), if_neg (by omega), if_neg (by omega), if_pos (by omega)]
      exact e4.trans (C.1.wee q1 (by omega))
    · rw [if_neg (by omega), if_neg (by omega), if_neg (by omega), if_neg (by omega), if_neg (by omega), if_neg (by omega), if_neg (by omega), if_neg (by omega), if_neg (by omega)]
      exact e4.trans (C.1.lrn q1 (by omega))
theorem ra_personOf (hs : fS 184 [271, x, y] h v h') (M : MJ G h) (W : GW G) : v = if x < 0 ∨ G.1 0 ≤ x then -1 else if y < 0 ∨ 7 < y then -2 else if y = 0 then G.1 (3 + 5 * x) else if y = 1 then G.1 (4 + 5 * x) else if y = 2 then G.1 (5 + 5 * x) else if y = 3 then G.1 (6 + 5 * x) else if y = 4 then wedF (G.1 (7 + 5 * x)) else if y = 5 then askF (G.1 (3 + 5 * x)) (G.1 (4 + 5 * x)) else if y = 6 then weeF (G.1 (3 + 5 * x)) (G.1 (4 + 5 * x)) else lrnF (G.1 (3 + 5 * x)) := by
  have hB := W.1.1.1
  have hD := W.1.2
  refine vr_personOf hs (fun v _ => v = if x < 0 ∨ G.1 0 ≤ x then -1 else if y < 0 ∨ 7 < y then -2 else if y = 0 then G.1 (3 + 5 * x) else if y = 1 then G.1 (4 + 5 * x) else if y = 2 then G.1 (5 + 5 * x) else if y = 3 then G.1 (6 + 5 * x) else if y = 4 then wedF (G.1 (7 + 5 * x)) else if y = 5 then askF (G.1 (3 + 5 * x)) (G.1 (4 + 5 * x)) else if y = 6 then weeF (G.1 (3 + 5 * x)) (G.1 (4 + 5 * x)) else lrnF (G.1 (3 + 5 * x))) ?_
  · intro k1 ek1
    have M1 : MJ G k1 := by
      rw [ek1]
      exact M.up (by omega)
    have jm : k1 271 0 = G.1 0 := M1.1.many
    have jd : k1 271 15 = G.1 1 := M1.1.day
    have jo : k1 271 9 = G.1 2 := M1.1.opn
    refine fun z3 e3 => fun z4 e4 => (have f4 := wr_f e4; fun z5 e5 => ⟨fun q1 => (have r1 := xl_lt e5 q1; fun z6 e6 => fun z7 e7 => (have f7 := wr_f e7; fun z8 e8 => ⟨fun q2 => (have r2 := xl_lt e8 q2; fun _ _ _ _ _ _ _ ek => (by rw [if_pos (by omega)])), fun q2 => (have r2 := xl_ge e8 q2; fun z9 e9 => ⟨fun q3 => (have r3 := xl_gt e9 q3; fun _ _ _ _ _ _ _ ek => (by rw [if_pos (by omega)])), fun q3 => (have r3 := xl_le e9 q3; fun _ _ _ _ _ _ _ ek => (by rw [if_neg (by omega), if_pos (by omega)]))⟩)⟩)), fun q1 => (have r1 := xl_ge e5 q1; fun z6 e6 => ⟨fun q4 => (have r4 := xl_gt e6 q4; fun z7 e7 => fun z8 e8 => (have f8 := wr_f e8; fun z9 e9 => ⟨fun q5 => (have r5 := xl_lt e9 q5; fun _ _ _ _ _ _ _ ek => (by rw [if_pos (by omega)])), fun q5 => (have r5 := xl_ge e9 q5; fun z10 e10 => ⟨fun q6 => (have r6 := xl_gt e10 q6; fun _ _ _ _ _ _ _ ek => (by rw [if_pos (by omega)])), fun q6 => (have r6 := xl_le e10 q6; fun _ _ _ _ _ _ _ ek => (by rw [if_neg (by omega), if_pos (by omega)]))⟩)⟩)), fun q4 => (have r4 := xl_le e6 q4; fun z7 e7 => ⟨fun q7 => (have r7 := xl_lt e7 q7; fun z8 e8 => fun z9 e9 => (have f9 := wr_f e9; fun z10 e10 => ⟨fun q8 => (have r8 := xl_lt e10 q8; fun _ _ _ _ _ _ _ ek => (by rw [if_pos (by omega)])), fun q8 => (have r8 := xl_ge e10 q8; fun z11 e11 => ⟨fun q9 => (have r9 := xl_gt e11 q9; fun _ _ _ _ _ _ _ ek => (by rw [if_pos (by omega)])), fun q9 => (have r9 := xl_le e11 q9; fun _ _ _ _ _ _ _ ek => (by rw [if_neg (by omega), if_pos (by omega)]))⟩)⟩)), fun q7 => (have r7 := xl_ge e7 q7; fun z8 e8 => ⟨fun q10 => (have r10 := xl_gt e8 q10; fun z9 e9 => fun z10 e10 => (have f10 := wr_f e10; fun z11 e11 => ⟨fun q11 => (have r11 := xl_lt e11 q11; fun _ _ _ _ _ _ _ ek => (by rw [if_pos (by omega)])), fun q11 => (have r11 := xl_ge e11 q11; fun z12 e12 => ⟨fun q12 => (have r12 := xl_gt e12 q12; fun _ _ _ _ _ _ _ ek => (by rw [if_pos (by omega)])), fun q12 => (have r12 := xl_le e12 q12; fun _ _ _ _ _ _ _ ek => (by rw [if_neg (by omega), if_pos (by omega)]))⟩)⟩)), fun q10 => (have r10 := xl_le e8 q10; ⟨fun q13 => fun z9 e9 => ?_, fun q13 => ⟨fun q14 => fun z9 e9 => ?_, fun q14 => ⟨fun q15 => fun z9 e9 => ?_, fun q15 => ⟨fun q16 => fun z9 e9 => ?_, fun q16 => ⟨fun q17 => fun z9 e9 => ⟨fun q18 => fun z10 e10 => fun z11 e11 => (have f11 := wr_f e11; ?_), fun q18 => ?_⟩, fun q17 => ⟨fun q19 => fun v2 k2 hs2 => ?_, fun q19 => ⟨fun q20 => fun v2 k2 hs2 => ?_, fun q20 => fun v2 k2 hs2 => ?_⟩⟩⟩⟩⟩⟩⟩)⟩)⟩)⟩)⟩)
    · rw [if_neg (by omega), if_neg (by omega), if_pos (by omega)]
      exact e9.trans (M1.1.kind (by omega) (by omega))
    · rw [if_neg (by omega), if_neg (by omega), if_neg (by omega), if_pos (by omega)]
      exact e9.trans (M1.1.fig (by omega) (by omega))
    · rw [if_neg (by omega), if_neg (by omega), if_neg (by omega), if_neg (by omega), if_pos (by omega)]
      exact e9.trans (M1.1.wish (by omega) (by omega))
    · rw [if_neg (by omega), if_neg (by omega), if_neg (by omega), if_neg (by omega), if_neg (by omega), if_pos (by omega)]
      exact e9.trans (M1.1.tears (by omega) (by omega))
    · have r := M1.1.wed (p := x) (by omega) (by omega)
      have w := W.1.1.per (p := x) (by omega) (by omega)
      rw [if_neg (by omega), if_neg (by omega), if_neg (by omega), if_neg (by omega), if_neg (by omega), if_neg (by omega), if_pos (by omega)]
      unfold wedF
      rw [if_neg (by omega)]
      omega
    · have r := M1.1.wed (p := x) (by omega) (by omega)
      rw [if_neg (by omega), if_neg (by omega), if_neg (by omega), if_neg (by omega), if_neg (by omega), if_neg (by omega), if_pos (by omega)]
      unfold wedF
      rw [if_pos (by omega)]
    · obtain ⟨-, r⟩ := sr_asksOf hs2 M1.1 W.1.1 (by omega) (by omega)
      rw [if_neg (by omega), if_neg (by omega), if_neg (by omega), if_neg (by omega), if_neg (by omega), if_neg (by omega), if_neg (by omega), if_pos (by omega)]
      exact r
    · obtain ⟨-, r⟩ := sr_weepsOf hs2 M1.1 W.1.1 (by omega) (by omega)
      rw [if_neg (by omega), if_neg (by omega), if_neg (by omega), if_neg (by omega), if_neg (by omega), if_neg (by omega), if_neg (by omega), if_neg (by omega), if_pos (by omega)]
      exact r
    · obtain ⟨-, r⟩ := sr_learnsOf hs2 M1.1 W.1.1 (by omega) (by omega)
      rw [if_neg (by omega), if_neg (by omega), if_neg (by omega), if_neg (by omega), if_neg (by omega), if_neg (by omega), if_neg (by omega), if_neg (by omega), if_neg (by omega)]
      exact r
theorem pq_personOf : PJ 74 184 2 true := pj_ans ak_personOf (fun {G as h h1 h2 v v2} hl hb W C M s1 s2 => by
  obtain ⟨x, y, rfl⟩ := as2 hl
  exact (ca_personOf s1 C W).trans (ra_personOf s2 M W).symm)
end AA
