/-! answers: hope (made by a program) -/
section AA
variable {h h' : fH} {v x y z w : Int} {G : gS}
theorem ca_hope (hs : fS 101 [1, x, y, z] h v h') (C : CJ G h) (W : GW G) : v = if x < 0 ∨ G.1 0 ≤ x ∨ y < 0 ∨ 4 < y then 1000000001 else if z < 0 then 1000000004 else if 60 < z then 1000000006 else dayN z.toNat G.1 (38 + 5 * x + y) - G.1 (38 + 5 * x + y) := by
  have jm : h 11 1 = G.1 0 := C.1.many
  have jd : h 11 15 = G.1 1 := C.1.day
  have jo : h 11 14 = G.1 2 := C.1.opn
  have hB := W.1.1.1
  have hD := W.1.2
  refine vc_hope hs (fun v _ => v = if x < 0 ∨ G.1 0 ≤ x ∨ y < 0 ∨ 4 < y then 1000000001 else if z < 0 then 1000000004 else if 60 < z then 1000000006 else dayN z.toNat G.1 (38 + 5 * x + y) - G.1 (38 + 5 * x + y)) ?_
  · refine ⟨fun q1 => fun z4 e4 => (have f4 := wr_f e4; fun z5 e5 => fun z6 e6 => (have f6 := wr_f e6; fun k1 ek1 => fun z7 e7 => (have f7 := wr_f e7; ?_))), fun q1 => fun z4 e4 => ⟨fun q2 => fun z5 e5 => (have f5 := wr_f e5; fun z6 e6 => fun z7 e7 => (have f7 := wr_f e7; fun k1 ek1 => fun z8 e8 => (have f8 := wr_f e8; ?_))), fun q2 => ⟨fun q3 => fun z5 e5 => (have f5 := wr_f e5; fun z6 e6 => fun z7 e7 => (have f7 := wr_f e7; fun k1 ek1 => fun z8 e8 => (have f8 := wr_f e8; ?_))), fun q3 => ⟨fun q4 => fun z5 e5 => (have f5 := wr_f e5; fun z6 e6 => fun z7 e7 => (have f7 := wr_f e7; fun k1 ek1 => fun z8 e8 => (have f8 := wr_f e8; ?_))), fun q4 => ⟨fun q5 => ⟨fun q6 => fun v1 k1 hs1 => fun z6 e6 => fun z7 e7 => fun z8 e8 => (have f8 := wr_f e8; ?_), fun q6 => fun z5 e5 => (have f5 := wr_f e5; fun z6 e6 => fun z7 e7 => (have f7 := wr_f e7; fun k1 ek1 => fun z8 e8 => (have f8 := wr_f e8; ?_)))⟩, fun q5 => fun z5 e5 => (have f5 := wr_f e5; fun z6 e6 => fun z7 e7 => (have f7 := wr_f e7; fun k1 ek1 => fun z8 e8 => (have f8 := wr_f e8; ?_)))⟩⟩⟩⟩⟩
    · rw [if_pos (by omega)]
      omega
    · rw [if_pos (by omega)]
      omega
    · rw [if_pos (by omega)]
      omega
    · rw [if_pos (by omega)]
      omega
    · have wb := W.1.1.bel (p := x) (e := y) (by omega) (by omega) (by omega) (by omega)
      obtain ⟨w1, w2, w3⟩ := dayN_ok W.1.1 z.toNat (by omega)
      have wd := w1.bel (p := x) (e := y) (by omega) (by omega) (by omega) (by omega)
      obtain ⟨r0, r⟩ := sc_beliefOf hs1 C.1 W.1.1 (by omega) (by omega) (by omega) (by omega) (by omega) (by omega) (by omega)
      rw [r0, show z6 = 11 + 10 + x by omega] at e7
      have e7 := e7.trans (C.1.bel (p := x) (e := y) (by omega) (by omega) (by omega) (by omega))
      rw [if_neg (by omega), if_neg (by omega), if_neg (by omega)]
      omega
    · rw [if_neg (by omega), if_neg (by omega), if_pos (by omega)]
      omega
    · rw [if_neg (by omega), if_pos (by omega)]
      omega
theorem ra_hope (hs : fS 246 [271, x, y, z] h v h') (M : MJ G h) (W : GW G) : v = if x < 0 ∨ G.1 0 ≤ x ∨ y < 0 ∨ 4 < y then 1000000001 else if z < 0 then 1000000004 else if 60 < z then 1000000006 else dayN z.toNat G.1 (38 + 5 * x + y) - G.1 (38 + 5 * x + y) := by
  have hB := W.1.1.1
  have hD := W.1.2
  refine vr_hope hs (fun v _ => v = if x < 0 ∨ G.1 0 ≤ x ∨ y < 0 ∨ 4 < y then 1000000001 else if z < 0 then 1000000004 else if 60 < z then 1000000006 else dayN z.toNat G.1 (38 + 5 * x + y) - G.1 (38 + 5 * x + y)) ?_
  · intro k1 ek1
    have M1 : MJ G k1 := by
      rw [ek1]
      exact M.up (by omega)
    have jm : k1 271 0 = G.1 0 := M1.1.many
    have jd : k1 271 15 = G.1 1 := M1.1.day
    have jo : k1 271 9 = G.1 2 := M1.1.opn
    refine fun z4 e4 => fun z5 e5 => (have f5 := wr_f e5; fun z6 e6 => ⟨fun q1 => (have r1 := xl_lt e6 q1; fun z7 e7 => (have f7 := wr_f e7; fun z8 e8 => fun z9 e9 => (have f9 := wr_f e9; fun k2 ek2 => fun z10 e10 => (have f10 := wr_f e10; ?_)))), fun q1 => (have r1 := xl_ge e6 q1; fun z7 e7 => ⟨fun q2 => (have r2 := xl_gt e7 q2; fun z8 e8 => (have f8 := wr_f e8; fun z9 e9 => fun z10 e10 => (have f10 := wr_f e10; fun k2 ek2 => fun z11 e11 => (have f11 := wr_f e11; ?_)))), fun q2 => (have r2 := xl_le e7 q2; fun z8 e8 => ⟨fun q3 => (have r3 := xl_lt e8 q3; fun z9 e9 => (have f9 := wr_f e9; fun z10 e10 => fun z11 e11 => (have f11 := wr_f e11; fun k2 ek2 => fun z12 e12 => (have f12 := wr_f e12; ?_)))), fun q3 => (have r3 := xl_ge e8 q3; fun z9 e9 => ⟨fun q4 => (have r4 := xl_gt e9 q4; fun z10 e10 => (have f10 := wr_f e10; fun z11 e11 => fun z12 e12 => (have f12 := wr_f e12; fun k2 ek2 => fun z13 e13 => (have f13 := wr_f e13; ?_)))), fun q4 => (have r4 := xl_le e9 q4; ⟨fun q5 => ⟨fun q6 => fun v2 k2 hs2 => fun z11 e11 => (have f11 := wr_f e11; fun z12 e12 => (have f12 := wr_f e12; fun z13 e13 => fun z14 e14 => (have f14 := wr_f e14; ?_))), fun q6 => fun z10 e10 => (have f10 := wr_f e10; fun z11 e11 => fun z12 e12 => (have f12 := wr_f e12; fun k2 ek2 => fun z13 e13 => (have f13 := wr_f e13; ?_)))⟩, fun q5 => fun z10 e10 => (have f10 := wr_f e10; fun z11 e11 => fun z12 e12 => (have f12 := wr_f e12; fun k2 ek2 => fun z13 e13 => (have f13 := wr_f e13; ?_)))⟩)⟩)⟩)⟩)⟩)
    · rw [if_pos (by omega)]
      omega
    · rw [if_pos (by omega)]
      omega
    · rw [if_pos (by omega)]
      omega
    · rw [if_pos (by omega)]
      omega
    · have wb := W.1.1.bel (p := x) (e := y) (by omega) (by omega) (by omega) (by omega)
      obtain ⟨w1, w2, w3⟩ := dayN_ok W.1.1 z.toNat (by omega)
      have wd := w1.bel (p := x) (e := y) (by omega) (by omega) (by omega) (by omega)
      obtain ⟨r, r0⟩ := sr_beliefThen hs2 M1.1 W.1.1 (by omega) (by omega) (by omega) (by omega) (by omega) (by omega) (by omega)
      have g12 : z12 = 5 * x + y := by omega
      rw [g12] at e13
      have e13 := e13.trans (r0.bel (i := 5 * x + y) (by omega) (by omega))
      rw [show (38 : Int) + (5 * x + y) = 38 + 5 * x + y by omega] at e13
      rw [if_neg (by omega), if_neg (by omega), if_neg (by omega)]
      omega
    · rw [if_neg (by omega), if_neg (by omega), if_pos (by omega)]
      omega
    · rw [if_neg (by omega), if_pos (by omega)]
      omega
theorem pq_hope : PJ 101 246 3 true := pj_ans ak_hope (fun {G as h h1 h2 v v2} hl hb W C M s1 s2 => by
  obtain ⟨x, y, z, rfl⟩ := as3 hl
  exact (ca_hope s1 C W).trans (ra_hope s2 M W).symm)
end AA
