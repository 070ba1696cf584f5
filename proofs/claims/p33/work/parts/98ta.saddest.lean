/-! answers: saddest (made by a program) -/
section AA
variable {h h' : fH} {v x y z w : Int} {G : gS}
theorem ca_saddest (hs : fS 138 [1, x] h v h') (C : CJ G h) (W : GW G) : v = if x = 0 then sdF G.1 (G.1 0).toNat else if x = 1 then twN G.1 0 (G.1 0).toNat (G.1 0).toNat else if x = 2 then btF (frF G.1) (G.1 0).toNat else -2 := by
  have jm : h 11 1 = G.1 0 := C.1.many
  have jd : h 11 15 = G.1 1 := C.1.day
  have jo : h 11 14 = G.1 2 := C.1.opn
  have hB := W.1.1.1
  have hD := W.1.2
  refine vc_saddest hs (fun v _ => v = if x = 0 then sdF G.1 (G.1 0).toNat else if x = 1 then twN G.1 0 (G.1 0).toNat (G.1 0).toNat else if x = 2 then btF (frF G.1) (G.1 0).toNat else -2) ?_
  · refine ⟨fun q1 => fun v1 k1 hs1 => ?_, fun q1 => ⟨fun q2 => fun v1 k1 hs1 => ?_, fun q2 => ⟨fun q3 => fun v1 k1 hs1 => ?_, fun q3 => fun _ _ _ _ _ _ _ ek => (by rw [if_neg (by omega), if_neg (by omega), if_neg (by omega)])⟩⟩⟩
    · rw [if_pos (by omega)]
      exact ca_saddest1 hs1 C.1 W.1.1
    · rw [if_neg (by omega), if_pos (by omega)]
      exact ca_twos hs1 C.1 W.1.1 (Or.inl rfl)
    · rw [if_neg (by omega), if_neg (by omega), if_pos (by omega)]
      exact ca_freeBits hs1 C.1 W.1.1
theorem ra_saddest (hs : fS 234 [271, x] h v h') (M : MJ G h) (W : GW G) : v = if x = 0 then sdF G.1 (G.1 0).toNat else if x = 1 then twN G.1 0 (G.1 0).toNat (G.1 0).toNat else if x = 2 then btF (frF G.1) (G.1 0).toNat else -2 := by
  have hB := W.1.1.1
  have hD := W.1.2
  refine vr_saddest hs (fun v _ => v = if x = 0 then sdF G.1 (G.1 0).toNat else if x = 1 then twN G.1 0 (G.1 0).toNat (G.1 0).toNat else if x = 2 then btF (frF G.1) (G.1 0).toNat else -2) ?_
  · intro k1 ek1
    have M1 : MJ G k1 := by
      rw [ek1]
      exact M.up (by omega)
    have jm : k1 271 0 = G.1 0 := M1.1.many
    have jd : k1 271 15 = G.1 1 := M1.1.day
    have jo : k1 271 9 = G.1 2 := M1.1.opn
    refine ⟨fun q1 => fun v2 k2 hs2 => ?_, fun q1 => ⟨fun q2 => fun v2 k2 hs2 => ?_, fun q2 => ⟨fun q3 => fun v2 k2 hs2 => ?_, fun q3 => fun _ _ _ _ _ _ _ ek => (by rw [if_neg (by omega), if_neg (by omega), if_neg (by omega)])⟩⟩⟩
    · rw [if_pos (by omega)]
      exact ra_saddest1 hs2 M1.1 W.1.1
    · rw [if_neg (by omega), if_pos (by omega)]
      exact ra_twos hs2 M1.1 W.1.1 (by omega)
    · rw [if_neg (by omega), if_neg (by omega), if_pos (by omega)]
      exact ra_freeBits hs2 M1.1 W.1.1
theorem pq_saddest : PJ 138 234 1 true := pj_ans ak_saddest (fun {G as h h1 h2 v v2} hl hb W C M s1 s2 => by
  obtain ⟨x, rfl⟩ := as1 hl
  exact (ca_saddest s1 C W).trans (ra_saddest s2 M W).symm)
end AA
