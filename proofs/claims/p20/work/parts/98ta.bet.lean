/-! answers: bet (made by a program) -/
section AA
variable {h h' : fH} {v x y z w : Int} {G : gS}
theorem ca_bet (hs : fS 106 [1, x, y] h v h') (C : CJ G h) (W : GW G) : if x < 0 ∨ G.1 0 ≤ x ∨ y < 0 ∨ G.1 0 ≤ y ∨ x = y then v = -1 else betR G.1 x y v := by
  have jm : h 11 1 = G.1 0 := C.1.many
  have jd : h 11 15 = G.1 1 := C.1.day
  have jo : h 11 14 = G.1 2 := C.1.opn
  have hB := W.1.1.1
  have hD := W.1.2
  refine vc_bet hs (fun v _ => if x < 0 ∨ G.1 0 ≤ x ∨ y < 0 ∨ G.1 0 ≤ y ∨ x = y then v = -1 else betR G.1 x y v) ?_
  · refine ⟨fun q1 => fun _ _ _ _ _ _ _ ek => (by rw [if_pos (by omega)]), fun q1 => fun z3 e3 => ⟨fun q2 => fun _ _ _ _ _ _ _ ek => (by rw [if_pos (by omega)]), fun q2 => ⟨fun q3 => fun _ _ _ _ _ _ _ ek => (by rw [if_pos (by omega)]), fun q3 => fun z4 e4 => ⟨fun q4 => fun _ _ _ _ _ _ _ ek => (by rw [if_pos (by omega)]), fun q4 => ⟨fun q5 => fun _ _ _ _ _ _ _ ek => (by rw [if_pos (by omega)]), fun q5 => fun v1 k1 hs1 => ?_⟩⟩⟩⟩⟩
    · obtain ⟨-, r⟩ := sc_bestBet hs1 C.1 W.1.1 (by omega) (by omega) (by omega) (by omega) (by omega)
      rw [if_neg (by omega)]
      exact r
theorem ra_bet (hs : fS 208 [271, x, y] h v h') (M : MJ G h) (W : GW G) : if x < 0 ∨ G.1 0 ≤ x ∨ y < 0 ∨ G.1 0 ≤ y ∨ x = y then v = -1 else betR G.1 x y v := by
  have hB := W.1.1.1
  have hD := W.1.2
  refine vr_bet hs (fun v _ => if x < 0 ∨ G.1 0 ≤ x ∨ y < 0 ∨ G.1 0 ≤ y ∨ x = y then v = -1 else betR G.1 x y v) ?_
  · intro k1 ek1
    have M1 : MJ G k1 := by
      rw [ek1]
      exact M.up (by omega)
    have jm : k1 271 0 = G.1 0 := M1.1.many
    have jd : k1 271 15 = G.1 1 := M1.1.day
    have jo : k1 271 9 = G.1 2 := M1.1.opn
    refine fun z3 e3 => fun z4 e4 => (have f4 := wr_d e4 (by omega) (by omega); fun z5 e5 => ⟨fun q1 => (have r1 := xl_lt e5 q1; fun _ _ _ _ _ _ _ ek => (by rw [if_pos (by omega)])), fun q1 => (have r1 := xl_ge e5 q1; fun z6 e6 => ⟨fun q2 => (have r2 := xl_gt e6 q2; fun _ _ _ _ _ _ _ ek => (by rw [if_pos (by omega)])), fun q2 => (have r2 := xl_le e6 q2; fun z7 e7 => fun z8 e8 => (have f8 := wr_d e8 (by omega) (by omega); fun z9 e9 => ⟨fun q3 => (have r3 := xl_lt e9 q3; fun _ _ _ _ _ _ _ ek => (by rw [if_pos (by omega)])), fun q3 => (have r3 := xl_ge e9 q3; fun z10 e10 => ⟨fun q4 => (have r4 := xl_gt e10 q4; fun _ _ _ _ _ _ _ ek => (by rw [if_pos (by omega)])), fun q4 => (have r4 := xl_le e10 q4; ⟨fun q5 => fun _ _ _ _ _ _ _ ek => (by rw [if_pos (by omega)]), fun q5 => fun v2 k2 hs2 => ?_⟩)⟩)⟩))⟩)⟩)
    · obtain ⟨-, r⟩ := sr_betOf hs2 M1.1 W.1.1 (by omega) (by omega) (by omega) (by omega) (by omega)
      rw [if_neg (by omega)]
      exact r
theorem pq_bet : PJ 106 208 2 true := pj_ans ak_bet (fun {G as h h1 h2 v v2} hl hb W C M s1 s2 => by
  obtain ⟨x, y, rfl⟩ := as2 hl
  exact (by
  have a := ca_bet s1 C W
  have b := ra_bet s2 M W
  split at a
  · rename_i q
    rw [if_pos q] at b
    exact a.trans b.symm
  · rename_i q
    rw [if_neg q] at b
    exact a.un b))
end AA
