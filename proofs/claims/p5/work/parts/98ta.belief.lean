/-! answers: belief (made by a program) -/
section AA
variable {h h' : fH} {v x y z w : Int} {G : gS}
theorem ca_belief (hs : fS 75 [1, x, y] h v h') (C : CJ G h) (W : GW G) : v = if x < 0 ∨ G.1 0 ≤ x ∨ y < 0 ∨ 5 ≤ y then -1 else G.1 (38 + 5 * x + y) := by
  have jm : h 11 1 = G.1 0 := C.1.many
  have jd : h 11 15 = G.1 1 := C.1.day
  have jo : h 11 14 = G.1 2 := C.1.opn
  have hB := W.1.1.1
  have hD := W.1.2
  refine vc_belief hs (fun v _ => v = if x < 0 ∨ G.1 0 ≤ x ∨ y < 0 ∨ 5 ≤ y then -1 else G.1 (38 + 5 * x + y)) ?_
  refine ⟨fun q1 => fun _ _ _ _ _ _ _ ek => (by omega), fun q1 => fun z3 e3 => ⟨fun q2 => fun _ _ _ _ _ _ _ ek => (by omega), fun q2 => ⟨fun q3 => fun _ _ _ _ _ _ _ ek => (by omega), fun q3 => ⟨fun q4 => fun _ _ _ _ _ _ _ ek => (by omega), fun q4 => fun z4 e4 => fun z5 e5 => ?_⟩⟩⟩⟩
  · have r := C.1.bel (p := x) (e := y) (by omega) (by omega) (by omega) (by omega)
    rw [if_neg (by omega), e5, e4, ← r, show (20 : Int) + 1 + 1 * x = 11 + 10 + x by omega]
theorem ra_belief (hs : fS 185 [271, x, y] h v h') (M : MJ G h) (W : GW G) : v = if x < 0 ∨ G.1 0 ≤ x ∨ y < 0 ∨ 5 ≤ y then -1 else G.1 (38 + 5 * x + y) := by
  have hB := W.1.1.1
  have hD := W.1.2
  refine vr_belief hs (fun v _ => v = if x < 0 ∨ G.1 0 ≤ x ∨ y < 0 ∨ 5 ≤ y then -1 else G.1 (38 + 5 * x + y)) ?_
  intro k1 ek1
  have M1 : MJ G k1 := by
    rw [ek1]
    exact M.up (by omega)
  have jm : k1 271 0 = G.1 0 := M1.1.many
  have jd : k1 271 15 = G.1 1 := M1.1.day
  have jo : k1 271 9 = G.1 2 := M1.1.opn
  refine fun z3 e3 => fun z4 e4 => (have f4 := wr_d e4 (by omega) (by omega); fun z5 e5 => ⟨fun q1 => (have r1 := xl_lt e5 q1; fun _ _ _ _ _ _ _ ek => (by omega)), fun q1 => (have r1 := xl_ge e5 q1; fun z6 e6 => ⟨fun q2 => (have r2 := xl_gt e6 q2; fun _ _ _ _ _ _ _ ek => (by omega)), fun q2 => (have r2 := xl_le e6 q2; fun z7 e7 => ⟨fun q3 => (have r3 := xl_lt e7 q3; fun _ _ _ _ _ _ _ ek => (by omega)), fun q3 => (have r3 := xl_ge e7 q3; fun z8 e8 => ⟨fun q4 => (have r4 := xl_gt e8 q4; fun _ _ _ _ _ _ _ ek => (by omega)), fun q4 => (have r4 := xl_le e8 q4; fun z9 e9 => (have f9 := wr_d e9 (by omega) (by omega); fun z10 e10 => (have f10 := wr_d e10 (by omega) (by omega); fun z11 e11 => ?_)))⟩)⟩)⟩)⟩)
  · have r := M1.1.bel (i := 5 * x + y) (by omega) (by omega)
    rw [if_neg (by omega), e11, show z10 = 5 * x + y by omega, r, show (38 : Int) + (5 * x + y) = 38 + 5 * x + y by omega]
theorem pq_belief : PJ 75 185 2 true := pj_ans ak_belief (fun {G as h h1 h2 v v2} hl hb W C M s1 s2 => by
  obtain ⟨x, y, rfl⟩ := as2 hl
  exact (ca_belief s1 C W).trans (ra_belief s2 M W).symm)
end AA
