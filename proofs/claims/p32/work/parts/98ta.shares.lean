/-! answers: shares (made by a program) -/
section AA
variable {h h' : fH} {v x y z w : Int} {G : gS}
theorem ca_shares (hs : fS 136 [1, x, y] h v h') (C : CJ G h) (W : GW G) : v = if x < 1 then -4 else if 9 < x then -6 else if y < 0 ∨ 1 < y then -2 else if y = 0 then xdiv (sumF (fun p => G.1 (6 + 5 * p)) (G.1 0).toNat) x else xrem (sumF (fun p => G.1 (6 + 5 * p)) (G.1 0).toNat) x := by
  have jm : h 11 1 = G.1 0 := C.1.many
  have jd : h 11 15 = G.1 1 := C.1.day
  have jo : h 11 14 = G.1 2 := C.1.opn
  have hB := W.1.1.1
  have hD := W.1.2
  refine vc_shares hs (fun v _ => v = if x < 1 then -4 else if 9 < x then -6 else if y < 0 ∨ 1 < y then -2 else if y = 0 then xdiv (sumF (fun p => G.1 (6 + 5 * p)) (G.1 0).toNat) x else xrem (sumF (fun p => G.1 (6 + 5 * p)) (G.1 0).toNat) x) ?_
  · refine ⟨fun q1 => ⟨fun q2 => ⟨fun q3 => fun _ _ _ _ _ _ _ ek => (by rw [if_neg (by omega), if_neg (by omega), if_pos (by omega)]), fun q3 => ⟨fun q4 => fun _ _ _ _ _ _ _ ek => (by rw [if_neg (by omega), if_neg (by omega), if_pos (by omega)]), fun q4 => ⟨fun q5 => fun v1 k1 hs1 => fun z4 e4 => ?_, fun q5 => fun v1 k1 hs1 => fun z4 e4 => ?_⟩⟩⟩, fun q2 => fun _ _ _ _ _ _ _ ek => (by rw [if_neg (by omega), if_pos (by omega)])⟩, fun q1 => fun _ _ _ _ _ _ _ ek => (by rw [if_pos (by omega)])⟩
    · obtain ⟨-, r⟩ := sc_allTears hs1 C.1 W.1.1 (by omega) (by omega) (by omega)
      rw [r] at e4
      rw [if_neg (by omega), if_neg (by omega), if_neg (by omega), if_neg (by omega)]
      exact e4
    · obtain ⟨-, r⟩ := sc_allTears hs1 C.1 W.1.1 (by omega) (by omega) (by omega)
      rw [r] at e4
      rw [if_neg (by omega), if_neg (by omega), if_neg (by omega), if_pos (by omega)]
      exact e4
theorem ra_shares (hs : fS 233 [271, x, y] h v h') (M : MJ G h) (W : GW G) : v = if x < 1 then -4 else if 9 < x then -6 else if y < 0 ∨ 1 < y then -2 else if y = 0 then xdiv (sumF (fun p => G.1 (6 + 5 * p)) (G.1 0).toNat) x else xrem (sumF (fun p => G.1 (6 + 5 * p)) (G.1 0).toNat) x := by
  have hB := W.1.1.1
  have hD := W.1.2
  refine vr_shares hs (fun v _ => v = if x < 1 then -4 else if 9 < x then -6 else if y < 0 ∨ 1 < y then -2 else if y = 0 then xdiv (sumF (fun p => G.1 (6 + 5 * p)) (G.1 0).toNat) x else xrem (sumF (fun p => G.1 (6 + 5 * p)) (G.1 0).toNat) x) ?_
  · intro k1 ek1
    have M1 : MJ G k1 := by
      rw [ek1]
      exact M.up (by omega)
    have jm : k1 271 0 = G.1 0 := M1.1.many
    have jd : k1 271 15 = G.1 1 := M1.1.day
    have jo : k1 271 9 = G.1 2 := M1.1.opn
    refine ⟨fun q1 => ⟨fun q2 => fun z3 e3 => ⟨fun q3 => (have r3 := xl_lt e3 q3; fun _ _ _ _ _ _ _ ek => (by rw [if_neg (by omega), if_neg (by omega), if_pos (by omega)])), fun q3 => (have r3 := xl_ge e3 q3; fun z4 e4 => ⟨fun q4 => (have r4 := xl_gt e4 q4; fun _ _ _ _ _ _ _ ek => (by rw [if_neg (by omega), if_neg (by omega), if_pos (by omega)])), fun q4 => (have r4 := xl_le e4 q4; ⟨fun q5 => fun v2 k2 hs2 => fun z6 e6 => ?_, fun q5 => fun v2 k2 hs2 => fun z6 e6 => ?_⟩)⟩)⟩, fun q2 => fun _ _ _ _ _ _ _ ek => (by rw [if_neg (by omega), if_pos (by omega)])⟩, fun q1 => fun _ _ _ _ _ _ _ ek => (by rw [if_pos (by omega)])⟩
    · obtain ⟨-, r⟩ := sr_allTears hs2 M1.1 W.1.1
      rw [r] at e6
      rw [if_neg (by omega), if_neg (by omega), if_neg (by omega), if_neg (by omega)]
      exact e6
    · obtain ⟨-, r⟩ := sr_allTears hs2 M1.1 W.1.1
      rw [r] at e6
      rw [if_neg (by omega), if_neg (by omega), if_neg (by omega), if_pos (by omega)]
      exact e6
theorem pq_shares : PJ 136 233 2 true := pj_ans ak_shares (fun {G as h h1 h2 v v2} hl hb W C M s1 s2 => by
  obtain ⟨x, y, rfl⟩ := as2 hl
  exact (ca_shares s1 C W).trans (ra_shares s2 M W).symm)
end AA
