/-! answers: fair (made by a program) -/
section AA
variable {h h' : fH} {v x y z w : Int} {G : gS}
theorem ca_fair (hs : fS 121 [1, x] h v h') (C : CJ G h) (W : GW G) : v = if x < 0 ∨ 1 < x then -2 else if x = 0 then btF (fun w => trF G.1 (G.1 (83 + 5 * w)) (G.1 (85 + 5 * w)) (G.1 (86 + 5 * w)) = trF G.1 (G.1 (84 + 5 * w)) (G.1 (85 + 5 * w)) (G.1 (86 + 5 * w))) (G.1 2).toNat else btF (fun w => ¬ (cmF G.1 (G.1 (85 + 5 * w)) (G.1 1 + G.1 (87 + 5 * w)) ↔ G.1 (86 + 5 * w) = 1)) (G.1 2).toNat := by
  have jm : h 11 1 = G.1 0 := C.1.many
  have jd : h 11 15 = G.1 1 := C.1.day
  have jo : h 11 14 = G.1 2 := C.1.opn
  have hB := W.1.1.1
  have hD := W.1.2
  refine vc_fair hs (fun x0 x1 x2 x3 q => x1 = x ∧ q = h ∧ 0 ≤ x ∧ x ≤ 1 ∧ ∃ k : Nat, x3 = (k : Int) ∧ (k : Int) ≤ G.1 2 ∧ (x = 0 → BT (fun w => trF G.1 (G.1 (83 + 5 * w)) (G.1 (85 + 5 * w)) (G.1 (86 + 5 * w)) = trF G.1 (G.1 (84 + 5 * w)) (G.1 (85 + 5 * w)) (G.1 (86 + 5 * w))) k x2) ∧ (x ≠ 0 → BT (fun w => ¬ (cmF G.1 (G.1 (85 + 5 * w)) (G.1 1 + G.1 (87 + 5 * w)) ↔ G.1 (86 + 5 * w) = 1)) k x2)) (fun v _ => v = if x < 0 ∨ 1 < x then -2 else if x = 0 then btF (fun w => trF G.1 (G.1 (83 + 5 * w)) (G.1 (85 + 5 * w)) (G.1 (86 + 5 * w)) = trF G.1 (G.1 (84 + 5 * w)) (G.1 (85 + 5 * w)) (G.1 (86 + 5 * w))) (G.1 2).toNat else btF (fun w => ¬ (cmF G.1 (G.1 (85 + 5 * w)) (G.1 1 + G.1 (87 + 5 * w)) ↔ G.1 (86 + 5 * w) = 1)) (G.1 2).toNat) ?_ ?_
  · refine ⟨fun q1 => fun _ _ _ _ _ _ _ ek => (by rw [if_pos (by omega)]), fun q1 => ⟨fun q2 => fun _ _ _ _ _ _ _ ek => (by rw [if_pos (by omega)]), fun q2 => ?_⟩⟩
    · exact ⟨rfl, rfl, by omega, by omega, 0, rfl, by omega, fun _ => rfl, fun _ => rfl⟩
  · rintro x0 x1 x2 x3 q ⟨rfl, rfl, i1, i2, k, j1, j2, j3, j4⟩ z4 e4
    rw [jo] at e4
    refine ⟨fun q1 => ?_, fun q1 => ⟨fun q2 v1 k1 hs1 => ?_, fun q2 z5 e5 z6 e6 z7 e7 z8 e8 v1 k1 hs1 z10 e10 z11 e11 z12 e12 v2 k2 hs2 => ?_⟩⟩
    · rw [if_neg (by omega), toN (show G.1 2 = (k : Int) by omega)]
      by_cases hx : x1 = 0
      · rw [if_pos hx]
        exact (j3 hx).eq
      · rw [if_neg hx]
        exact (j4 hx).eq
    · have ww := W.1.1.wag (w := x3) (by omega) (by omega)
      obtain ⟨r0, r1⟩ := sc_isLost hs1 C.1 (by omega) (by omega) (by omega) (by omega) (by omega) (by omega) (by omega) (by omega)
      refine ⟨fun q3 z6 e6 => ?_, fun q3 z6 e6 z7 e7 z8 e8 => ?_⟩
      · have f6 := wr_d e6 (by omega) (by omega)
        exact ⟨rfl, r0, i1, i2, k + 1, by omega, by omega, fun q => absurd q q2, fun _ => (j4 q2).n j1 (r1.f q3)⟩
      · have f8 := wr_d e8 (by omega) (by omega)
        exact ⟨rfl, r0, i1, i2, k + 1, by omega, by omega, fun q => absurd q q2, fun _ => (j4 q2).y j1 (r1.t q3) e6 e7⟩
    · have ww := W.1.1.wag (w := x3) (by omega) (by omega)
      have g0 := C.1.wg (w := x3) (j := 0) (by omega) (by omega) (by omega) (by omega)
      have g1 := C.1.wg (w := x3) (j := 1) (by omega) (by omega) (by omega) (by omega)
      have g2 := C.1.wg (w := x3) (j := 2) (by omega) (by omega) (by omega) (by omega)
      have g3 := C.1.wg (w := x3) (j := 3) (by omega) (by omega) (by omega) (by omega)
      rw [show (11 : Int) + 19 = 30 from rfl, ← e5] at g0 g1 g2 g3
      rw [show 83 + 5 * x3 + 0 = 83 + 5 * x3 by omega] at g0
      rw [show 83 + 5 * x3 + 1 = 84 + 5 * x3 by omega] at g1
      rw [show 83 + 5 * x3 + 2 = 85 + 5 * x3 by omega] at g2
      rw [show 83 + 5 * x3 + 3 = 86 + 5 * x3 by omega] at g3
      rw [e6, e7, e8, g0, g2, g3] at hs1
      obtain ⟨r0, r1⟩ := sc_trust hs1 C.1 W.1.1 (by omega) (by omega) (by omega) (by omega)
      rw [r0] at e10 e11 e12 hs2
      rw [e10, e11, e12, g1, g2, g3] at hs2
      obtain ⟨s0, s1⟩ := sc_trust hs2 C.1 W.1.1 (by omega) (by omega) (by omega) (by omega)
      rw [s0]
      refine ⟨fun q3 z14 e14 => ?_, fun q3 z14 e14 z15 e15 z16 e16 => ?_⟩
      · have f14 := wr_d e14 (by omega) (by omega)
        exact ⟨rfl, rfl, i1, i2, k + 1, by omega, by omega, fun _ => (j3 q2).n j1 (fun q => q3 (r1.trans (q.trans s1.symm))), fun q => absurd q2 q⟩
      · have f16 := wr_d e16 (by omega) (by omega)
        exact ⟨rfl, rfl, i1, i2, k + 1, by omega, by omega, fun _ => (j3 q2).y j1 (r1.symm.trans (q3.trans s1)) e14 e15, fun q => absurd q2 q⟩
theorem ra_fair (hs : fS 221 [271, x] h v h') (M : MJ G h) (W : GW G) : v = if x < 0 ∨ 1 < x then -2 else if x = 0 then btF (fun w => trF G.1 (G.1 (83 + 5 * w)) (G.1 (85 + 5 * w)) (G.1 (86 + 5 * w)) = trF G.1 (G.1 (84 + 5 * w)) (G.1 (85 + 5 * w)) (G.1 (86 + 5 * w))) (G.1 2).toNat else btF (fun w => ¬ (cmF G.1 (G.1 (85 + 5 * w)) (G.1 1 + G.1 (87 + 5 * w)) ↔ G.1 (86 + 5 * w) = 1)) (G.1 2).toNat := by
  have hB := W.1.1.1
  have hD := W.1.2
  refine vr_fair hs (fun x0 x1 x2 x3 x4 q => x0 = 271 ∧ x1 = x ∧ RM q G.1 ∧ 0 ≤ x ∧ x ≤ 1 ∧ ∃ k : Nat, x4 = (k : Int) ∧ (k : Int) ≤ G.1 2 ∧ BT (fun w => trF G.1 (G.1 (83 + 5 * w)) (G.1 (85 + 5 * w)) (G.1 (86 + 5 * w)) = trF G.1 (G.1 (84 + 5 * w)) (G.1 (85 + 5 * w)) (G.1 (86 + 5 * w))) k x2 ∧ BT (fun w => ¬ (cmF G.1 (G.1 (85 + 5 * w)) (G.1 1 + G.1 (87 + 5 * w)) ↔ G.1 (86 + 5 * w) = 1)) k x3) (fun v _ => v = if x < 0 ∨ 1 < x then -2 else if x = 0 then btF (fun w => trF G.1 (G.1 (83 + 5 * w)) (G.1 (85 + 5 * w)) (G.1 (86 + 5 * w)) = trF G.1 (G.1 (84 + 5 * w)) (G.1 (85 + 5 * w)) (G.1 (86 + 5 * w))) (G.1 2).toNat else btF (fun w => ¬ (cmF G.1 (G.1 (85 + 5 * w)) (G.1 1 + G.1 (87 + 5 * w)) ↔ G.1 (86 + 5 * w) = 1)) (G.1 2).toNat) ?_ ?_
  · intro k1 ek1
    have M1 : MJ G k1 := by
      rw [ek1]
      exact M.up (by omega)
    have jm : k1 271 0 = G.1 0 := M1.1.many
    have jd : k1 271 15 = G.1 1 := M1.1.day
    have jo : k1 271 9 = G.1 2 := M1.1.opn
    refine fun z2 e2 => ⟨fun q1 => (have r1 := xl_lt e2 q1; fun _ _ _ _ _ _ _ ek => (by rw [if_pos (by omega)])), fun q1 => (have r1 := xl_ge e2 q1; fun z3 e3 => ⟨fun q2 => (have r2 := xl_gt e3 q2; fun _ _ _ _ _ _ _ ek => (by rw [if_pos (by omega)])), fun q2 => (have r2 := xl_le e3 q2; ?_)⟩)⟩
    · exact ⟨rfl, rfl, M1.1, by omega, by omega, 0, rfl, by omega, rfl, rfl⟩
  · rintro x0 x1 x2 x3 x4 q ⟨rfl, rfl, i0, i1, i2, k, j1, j2, j3, j4⟩ z5 e5
    have e5 := e5.trans i0.opn
    refine ⟨fun q1 => ?_, fun q1 z6 e6 z7 e7 z8 e8 v1 k1 hs1 z10 e10 z11 e11 v2 k2 hs2 => ?_⟩
    · rw [if_neg (by omega), toN (show G.1 2 = (k : Int) by omega)]
      exact ⟨fun q2 => by rw [if_neg q2]; exact j4.eq, fun q2 => by rw [if_pos q2]; exact j3.eq⟩
    · have ww := W.1.1.wag (w := x4) (by omega) (by omega)
      have e6 := e6.trans (i0.w2 (w := x4) (by omega) (by omega))
      have e7 := e7.trans (i0.w0 (w := x4) (by omega) (by omega))
      have e8 := e8.trans (i0.w3 (w := x4) (by omega) (by omega))
      rw [e6, e7, e8] at hs1
      obtain ⟨r0, r1⟩ := sr_trustOf hs1 i0 W.1.1 (by omega) (by omega) (by omega) (by omega)
      rw [r0] at e10 e11 hs2
      have e10 := e10.trans (i0.w1 (w := x4) (by omega) (by omega))
      have e11 := e11.trans (i0.w3 (w := x4) (by omega) (by omega))
      rw [e6, e10, e11] at hs2
      obtain ⟨s0, s1⟩ := sr_trustOf hs2 i0 W.1.1 (by omega) (by omega) (by omega) (by omega)
      rw [s0]
      have los : ∀ {zs zd zt zw v3 : Int} {k3 : fH}, zs = q 283 x4 → zd = q 271 15 → zt = q 284 x4 → zw = wr (zd + zt) → fS 210 [271, z6, zs, zw] q v3 k3 → k3 = q ∧ bR v3 (¬ (cmF G.1 (G.1 (85 + 5 * x4)) (G.1 1 + G.1 (87 + 5 * x4)) ↔ G.1 (86 + 5 * x4) = 1)) := fun {zs zd zt zw v3 k3} es ed et ew hs3 => by
        have es := es.trans (i0.w3 (w := x4) (by omega) (by omega))
        have ed := ed.trans i0.day
        have et := et.trans (i0.w4 (w := x4) (by omega) (by omega))
        have fw := wr_d ew (by omega) (by omega)
        rw [fw, ed, et, es, e6] at hs3
        exact sr_isLost hs3 i0 (by omega) (by omega)
      refine ⟨fun q3 z13 e13 z14 e14 z15 e15 z16 e16 z17 e17 v3 k3 hs3 => ?_, fun q3 z13 e13 z14 e14 z15 e15 z16 e16 z17 e17 z18 e18 v3 k3 hs3 => ?_⟩
      · obtain ⟨t0, t1⟩ := los e14 e15 e16 e17 hs3
        rw [t0]
        have b3 := j3.n0 j1 (fun q => q3 (r1.trans (q.trans s1.symm))) e13
        refine ⟨fun q4 z19 e19 z20 e20 => ?_, fun q4 z19 e19 z20 e20 z21 e21 => ?_⟩
        · have f20 := wr_d e20 (by omega) (by omega)
          exact ⟨rfl, rfl, i0, i1, i2, k + 1, by omega, by omega, b3, j4.n0 j1 (t1.f q4) e19⟩
        · have f21 := wr_d e21 (by omega) (by omega)
          exact ⟨rfl, rfl, i0, i1, i2, k + 1, by omega, by omega, b3, j4.y j1 (t1.t q4) e19 e20⟩
      · obtain ⟨t0, t1⟩ := los e15 e16 e17 e18 hs3
        rw [t0]
        have b3 := j3.y j1 (r1.symm.trans (q3.trans s1)) e13 e14
        refine ⟨fun q4 z20 e20 z21 e21 => ?_, fun q4 z20 e20 z21 e21 z22 e22 => ?_⟩
        · have f21 := wr_d e21 (by omega) (by omega)
          exact ⟨rfl, rfl, i0, i1, i2, k + 1, by omega, by omega, b3, j4.n0 j1 (t1.f q4) e20⟩
        · have f22 := wr_d e22 (by omega) (by omega)
          exact ⟨rfl, rfl, i0, i1, i2, k + 1, by omega, by omega, b3, j4.y j1 (t1.t q4) e20 e21⟩
theorem pq_fair : PJ 121 221 1 true := pj_ans ak_fair (fun {G as h h1 h2 v v2} hl hb W C M s1 s2 => by
  obtain ⟨x, rfl⟩ := as1 hl
  exact (ca_fair s1 C W).trans (ra_fair s2 M W).symm)
end AA
