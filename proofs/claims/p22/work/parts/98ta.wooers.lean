/-! answers: wooers (made by a program) -/
section AA
variable {h h' : fH} {v x y z w : Int} {G : gS}
theorem ca_wooers (hs : fS 109 [1, x] h v h') (C : CJ G h) (W : GW G) : v = if x < 0 ∨ G.1 0 ≤ x then -1 else btF (fun o => o ≠ x ∧ betE G.1 o x) (G.1 0).toNat := by
  have jm : h 11 1 = G.1 0 := C.1.many
  have jd : h 11 15 = G.1 1 := C.1.day
  have jo : h 11 14 = G.1 2 := C.1.opn
  have hB := W.1.1.1
  have hD := W.1.2
  refine vc_wooers hs (fun v _ => v = if x < 0 ∨ G.1 0 ≤ x then -1 else btF (fun o => o ≠ x ∧ betE G.1 o x) (G.1 0).toNat) ?_
  · refine ⟨fun q1 => fun _ _ _ _ _ _ _ ek => (by rw [if_pos (by omega)]), fun q1 => fun z2 e2 => ⟨fun q2 => fun _ _ _ _ _ _ _ ek => (by rw [if_pos (by omega)]), fun q2 => fun v1 k1 hs1 => ?_⟩⟩
    · obtain ⟨-, r⟩ := sc_wooerBits hs1 C.1 W.1.1 (by omega) (by omega) (by omega)
      rw [if_neg (by omega)]
      exact r
theorem ra_wooers (hs : fS 212 [271, x] h v h') (M : MJ G h) (W : GW G) : v = if x < 0 ∨ G.1 0 ≤ x then -1 else btF (fun o => o ≠ x ∧ betE G.1 o x) (G.1 0).toNat := by
  have hB := W.1.1.1
  have hD := W.1.2
  refine vr_wooers hs (fun v _ => v = if x < 0 ∨ G.1 0 ≤ x then -1 else btF (fun o => o ≠ x ∧ betE G.1 o x) (G.1 0).toNat) ?_
  · intro k1 ek1
    have M1 : MJ G k1 := by
      rw [ek1]
      exact M.up (by omega)
    have jm : k1 271 0 = G.1 0 := M1.1.many
    have jd : k1 271 15 = G.1 1 := M1.1.day
    have jo : k1 271 9 = G.1 2 := M1.1.opn
    refine fun z2 e2 => fun z3 e3 => (have f3 := wr_d e3 (by omega) (by omega); fun z4 e4 => ⟨fun q1 => (have r1 := xl_lt e4 q1; fun _ _ _ _ _ _ _ ek => (by rw [if_pos (by omega)])), fun q1 => (have r1 := xl_ge e4 q1; fun z5 e5 => ⟨fun q2 => (have r2 := xl_gt e5 q2; fun _ _ _ _ _ _ _ ek => (by rw [if_pos (by omega)])), fun q2 => (have r2 := xl_le e5 q2; fun v2 k2 hs2 => ?_)⟩)⟩)
    · obtain ⟨-, r⟩ := sr_wooersOf hs2 M1.1 W.1.1 (by omega) (by omega) (by omega)
      rw [if_neg (by omega)]
      exact r
theorem pq_wooers : PJ 109 212 1 true := pj_ans ak_wooers (fun {G as h h1 h2 v v2} hl hb W C M s1 s2 => by
  obtain ⟨x, rfl⟩ := as1 hl
  exact (ca_wooers s1 C W).trans (ra_wooers s2 M W).symm)
end AA
