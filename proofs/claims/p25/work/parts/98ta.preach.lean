/-! answers: preach (made by a program) -/
section AA
variable {h h' : fH} {v x y z w : Int} {G : gS}
noncomputable def prB (g : gV) (e p : Int) : Int := popc (btF (fun o => o ≠ p ∧ betE (gu g (38 + 5 * p + e) (9 - g (38 + 5 * p + e))) o p) (g 0).toNat)
noncomputable def prH (g : gV) (p : Int) : Int := popc (btF (fun o => o ≠ p ∧ betE g o p) (g 0).toNat)
noncomputable def prF (g : gV) (e : Int) : Nat → Int × Int
  | 0 => (-9, 0)
  | p + 1 => if (prF g e p).2 < prB g e (p : Int) ∧ prH g (p : Int) < prB g e (p : Int) then ((p : Int), prB g e (p : Int)) else prF g e p
theorem prF_y {g : gV} {e : Int} {p : Nat} (q : (prF g e p).2 < prB g e (p : Int) ∧ prH g (p : Int) < prB g e (p : Int)) : prF g e (p + 1) = ((p : Int), prB g e (p : Int)) := if_pos q
theorem prF_n {g : gV} {e : Int} {p : Nat} (q : ¬ ((prF g e p).2 < prB g e (p : Int) ∧ prH g (p : Int) < prB g e (p : Int))) : prF g e (p + 1) = prF g e p := if_neg q
theorem ca_preach (hs : fS 119 [1, x] h v h') (C : CJ G h) (W : GW G) : v = if x < 0 ∨ 4 < x then -1 else (prF G.1 x (G.1 0).toNat).1 := by
  have jm : h 11 1 = G.1 0 := C.1.many
  have jd : h 11 15 = G.1 1 := C.1.day
  have jo : h 11 14 = G.1 2 := C.1.opn
  have hB := W.1.1.1
  have hD := W.1.2
  refine vc_preach hs (fun x0 x1 x2 x3 x4 q => x1 = x ∧ SC h q ∧ 0 ≤ x ∧ x < 5 ∧ ∃ k : Nat, x4 = (k : Int) ∧ (k : Int) ≤ G.1 0 ∧ RC q 34 G.1 ∧ x2 = (prF G.1 x k).1 ∧ x3 = (prF G.1 x k).2) (fun v _ => v = if x < 0 ∨ 4 < x then -1 else (prF G.1 x (G.1 0).toNat).1) ?_ ?_
  · refine ⟨fun q1 => fun _ _ _ _ _ _ _ ek => (by rw [if_pos (by omega)]), fun q1 => ⟨fun q2 => fun _ _ _ _ _ _ _ ek => (by rw [if_pos (by omega)]), fun q2 => fun v1 k1 hs1 => ?_⟩⟩
    · obtain ⟨S1, R1⟩ := sm_copy hs1 (SC.rf C.w34) C.1 W.1.1.bg
      exact ⟨rfl, S1, by omega, by omega, 0, rfl, by omega, R1, rfl, rfl⟩
  · rintro x0 x1 x2 x3 x4 q ⟨rfl, i0, i1, i2, k, j1, j2, j3, j4, j5⟩ z5 e5
    have R11 := i0.r11 C.1 W.1.1.bg
    have e5 := e5.trans R11.many
    refine ⟨fun q1 => ?_, fun q1 z6 e6 z7 e7 z8 e8 z9 e9 k1 ek1 v2 k2 hs2 v3 k3 hs3 => ?_⟩
    · rw [if_neg (by omega), toN (show G.1 0 = (k : Int) by omega)]
      exact j4
    · have wb := W.1.1.bel (p := x4) (e := x1) (by omega) (by omega) i1 i2
      have r0 := R11.bel (p := x4) (e := x1) (by omega) (by omega) i1 i2
      rw [show (11 : Int) + 10 + x4 = z7 by omega, ← e8] at r0
      have f9 := wr_d e9 (by omega) (by omega)
      have r1 := j3.u_bel (z := z9) (p := x4) (e := x1) W.1.1.bg (by omega) (by omega) i1 i2
      rw [show (34 : Int) + 10 + x4 = z6 by omega, ← ek1, f9, r0] at r1
      have s1 := i0.up (c := z6) (k := x1) (z := z9) (by omega)
      rw [← ek1] at s1
      have W2 := WF_bel (z := 9 - G.1 (38 + 5 * x4 + x1)) W.1.1 (p := x4) (e := x1) (by omega) (by omega) i1 i2 (by omega) (by omega)
      have d0 : gu G.1 (38 + 5 * x4 + x1) (9 - G.1 (38 + 5 * x4 + x1)) 0 = G.1 0 := gu_n (by omega)
      have d1 : gu G.1 (38 + 5 * x4 + x1) (9 - G.1 (38 + 5 * x4 + x1)) 1 = G.1 1 := gu_n (by omega)
      obtain ⟨u0, u1⟩ := sc_wooerBits hs2 r1 W2 (by omega) (by omega) (by omega)
      rw [d0] at u1
      rw [u0] at hs3
      obtain ⟨b1, b2⟩ := bt_127 (g := G.1) (fun o => o ≠ x4 ∧ betE (gu G.1 (38 + 5 * x4 + x1) (9 - G.1 (38 + 5 * x4 + x1))) o x4) (by omega)
      obtain ⟨w0, w1⟩ := sc_bits hs3 (by omega) (by omega)
      rw [u1] at w1
      have t1 : v3 = prB G.1 x1 (k : Int) := by
        unfold prB
        rw [← j1]
        exact w1
      have R1 := s1.r11 C.1 W.1.1.bg
      have bk : RC (fu k1 (43 + 1 + 1 * x4) x1 (k1 (20 + 1 + 1 * x4) x1)) 34 G.1 ∧ SC h (fu k1 (43 + 1 + 1 * x4) x1 (k1 (20 + 1 + 1 * x4) x1)) := by
        have rb := R1.bel (p := x4) (e := x1) (by omega) (by omega) i1 i2
        rw [show (11 : Int) + 10 + x4 = 20 + 1 + 1 * x4 by omega] at rb
        have r3 := r1.u_bel (z := k1 (20 + 1 + 1 * x4) x1) (p := x4) (e := x1) W2.bg (by omega) (by omega) i1 i2
        rw [gu_gu, rb, gu_self, show (34 : Int) + 10 + x4 = 43 + 1 + 1 * x4 by omega] at r3
        rw [rb]
        exact ⟨r3, s1.up (by omega)⟩
      rw [w0]
      refine ⟨fun q2 z12 e12 z13 e13 z14 e14 k4 ek4 z15 e15 => ?_, fun q2 v4 k4 hs4 v5 k5 hs5 => ?_⟩
      · have f15 := wr_d e15 (by omega) (by omega)
        rw [← e12, ← e13, ← e14, ← ek4] at bk
        have n := prF_n (g := G.1) (e := x1) (p := k) (by omega)
        exact ⟨rfl, bk.2, i1, i2, k + 1, by omega, by omega, bk.1, by rw [n]; exact j4, by rw [n]; exact j5⟩
      · obtain ⟨y0, y1⟩ := sc_wooerBits hs4 R1 W.1.1 (by omega) (by omega) (by omega)
        rw [y0] at hs5
        obtain ⟨c1, c2⟩ := bt_127 (g := G.1) (fun o => o ≠ x4 ∧ betE G.1 o x4) (by omega)
        obtain ⟨l0, l1⟩ := sc_bits hs5 (by omega) (by omega)
        rw [y1] at l1
        have t2 : v5 = prH G.1 (k : Int) := by
          unfold prH
          rw [← j1]
          exact l1
        rw [l0]
        refine ⟨fun q3 z14 e14 z15 e15 z16 e16 k6 ek6 z17 e17 => ?_, fun q3 z14 e14 z15 e15 z16 e16 k6 ek6 z17 e17 => ?_⟩
        · have f17 := wr_d e17 (by omega) (by omega)
          rw [← e14, ← e15, ← e16, ← ek6] at bk
          have n := prF_n (g := G.1) (e := x1) (p := k) (by omega)
          exact ⟨rfl, bk.2, i1, i2, k + 1, by omega, by omega, bk.1, by rw [n]; exact j4, by rw [n]; exact j5⟩
        · have f17 := wr_d e17 (by omega) (by omega)
          rw [← e14, ← e15, ← e16, ← ek6] at bk
          have n := prF_y (g := G.1) (e := x1) (p := k) (by omega)
          exact ⟨rfl, bk.2, i1, i2, k + 1, by omega, by omega, bk.1, by rw [n]; exact j1, by rw [n]; exact t1⟩
theorem ra_preach (hs : fS 220 [271, x] h v h') (M : MJ G h) (W : GW G) : v = if x < 0 ∨ 4 < x then -1 else (prF G.1 x (G.1 0).toNat).1 := by
  have hB := W.1.1.1
  have hD := W.1.2
  refine vr_preach hs (fun x0 x1 x2 x3 x4 q => x0 = 271 ∧ x1 = x ∧ RM q G.1 ∧ 0 ≤ x ∧ x < 5 ∧ ∃ k : Nat, x4 = (k : Int) ∧ (k : Int) ≤ G.1 0 ∧ x2 = (prF G.1 x k).1 ∧ x3 = (prF G.1 x k).2) (fun v _ => v = if x < 0 ∨ 4 < x then -1 else (prF G.1 x (G.1 0).toNat).1) ?_ ?_
  · intro k1 ek1
    have M1 : MJ G k1 := by
      rw [ek1]
      exact M.up (by omega)
    have jm : k1 271 0 = G.1 0 := M1.1.many
    have jd : k1 271 15 = G.1 1 := M1.1.day
    have jo : k1 271 9 = G.1 2 := M1.1.opn
    refine fun z2 e2 => ⟨fun q1 => (have r1 := xl_lt e2 q1; fun _ _ _ _ _ _ _ ek => (by rw [if_pos (by omega)])), fun q1 => (have r1 := xl_ge e2 q1; fun z3 e3 => ⟨fun q2 => (have r2 := xl_gt e3 q2; fun _ _ _ _ _ _ _ ek => (by rw [if_pos (by omega)])), fun q2 => (have r2 := xl_le e3 q2; ?_)⟩)⟩
    · exact ⟨rfl, rfl, M1.1, by omega, by omega, 0, rfl, by omega, rfl, rfl⟩
  · rintro x0 x1 x2 x3 x4 q ⟨rfl, rfl, i0, i1, i2, k, j1, j2, j4, j5⟩ z5 e5
    have e5 := e5.trans i0.many
    refine ⟨fun q1 => ?_, fun q1 v1 k1 hs1 v2 k2 hs2 z8 e8 z9 e9 z10 e10 z11 e11 z12 e12 z13 e13 k3 ek3 v4 k4 hs4 v5 k5 hs5 z16 e16 z17 e17 z18 e18 z19 e19 z20 e20 z21 e21 k6 ek6 => ?_⟩
    · rw [if_neg (by omega), toN (show G.1 0 = (k : Int) by omega)]
      exact j4
    · have wb := W.1.1.bel (p := x4) (e := x1) (by omega) (by omega) i1 i2
      obtain ⟨y0, y1⟩ := sr_wooersOf hs1 i0 W.1.1 (by omega) (by omega) (by omega)
      rw [y0] at hs2
      obtain ⟨c1, c2⟩ := bt_127 (g := G.1) (fun o => o ≠ x4 ∧ betE G.1 o x4) (by omega)
      obtain ⟨l0, l1⟩ := sr_onesOf hs2 (by omega) (by omega)
      rw [y1] at l1
      have t2 : v2 = prH G.1 (k : Int) := by
        unfold prH
        rw [← j1]
        exact l1
      have f8 := wr_d e8 (by omega) (by omega)
      have f9 := wr_d e9 (by omega) (by omega)
      have f10 := wr_d e10 (by omega) (by omega)
      have f11 := wr_d e11 (by omega) (by omega)
      rw [l0] at e12 ek3
      have rb := i0.bel (i := z11) (by omega) (by omega)
      rw [show (38 : Int) + z11 = 38 + 5 * x4 + x1 by omega] at rb
      have e12 := e12.trans rb
      have f13 := wr_d e13 (by omega) (by omega)
      have r1 := i0.u_bel (i := z9) (z := z13) (by omega) (by omega)
      rw [← ek3, show (38 : Int) + z9 = 38 + 5 * x4 + x1 by omega, f13, e12] at r1
      have W2 := WF_bel (z := 9 - G.1 (38 + 5 * x4 + x1)) W.1.1 (p := x4) (e := x1) (by omega) (by omega) i1 i2 (by omega) (by omega)
      have d0 : gu G.1 (38 + 5 * x4 + x1) (9 - G.1 (38 + 5 * x4 + x1)) 0 = G.1 0 := gu_n (by omega)
      have d1 : gu G.1 (38 + 5 * x4 + x1) (9 - G.1 (38 + 5 * x4 + x1)) 1 = G.1 1 := gu_n (by omega)
      obtain ⟨u0, u1⟩ := sr_wooersOf hs4 r1 W2 (by omega) (by omega) (by omega)
      rw [d0] at u1
      rw [u0] at hs5
      obtain ⟨b1, b2⟩ := bt_127 (g := G.1) (fun o => o ≠ x4 ∧ betE (gu G.1 (38 + 5 * x4 + x1) (9 - G.1 (38 + 5 * x4 + x1))) o x4) (by omega)
      obtain ⟨w0, w1⟩ := sr_onesOf hs5 (by omega) (by omega)
      rw [u1] at w1
      have t1 : v5 = prB G.1 x1 (k : Int) := by
        unfold prB
        rw [← j1]
        exact w1
      have f16 := wr_d e16 (by omega) (by omega)
      have f17 := wr_d e17 (by omega) (by omega)
      have f18 := wr_d e18 (by omega) (by omega)
      have f19 := wr_d e19 (by omega) (by omega)
      rw [w0] at e20 ek6
      have rc := r1.bel (i := z19) (by omega) (by omega)
      rw [show (38 : Int) + z19 = 38 + 5 * x4 + x1 by omega, gu_e rfl] at rc
      have e20 := e20.trans rc
      have f21 := wr_d e21 (by omega) (by omega)
      have r6 := r1.u_bel (i := z17) (z := z21) (by omega) (by omega)
      rw [← ek6, show (38 : Int) + z17 = 38 + 5 * x4 + x1 by omega, gu_gu, show z21 = G.1 (38 + 5 * x4 + x1) by omega, gu_self] at r6
      refine ⟨fun q2 => ⟨fun q3 => fun z22 e22 => ?_, fun q3 => ⟨fun q4 => fun z22 e22 => ?_, fun q4 => fun z22 e22 => ?_⟩⟩, fun q2 => ⟨fun q5 => ⟨fun q6 => fun z22 e22 => ?_, fun q6 => ⟨fun q7 => fun z22 e22 => ?_, fun q7 => fun z22 e22 => ?_⟩⟩, fun q5 => ⟨fun q8 => fun z22 e22 => ?_, fun q8 => ⟨fun q9 => fun z22 e22 => ?_, fun q9 => fun z22 e22 => ?_⟩⟩⟩⟩
      · have f22 := wr_d e22 (by omega) (by omega)
        have n := prF_n (g := G.1) (e := x1) (p := k) (by omega)
        exact ⟨rfl, rfl, r6, i1, i2, k + 1, by omega, by omega, by rw [n]; exact j4, by rw [n]; exact j5⟩
      · exfalso
        omega
      · exfalso
        omega
      · exfalso
        omega
      · have f22 := wr_d e22 (by omega) (by omega)
        have n := prF_n (g := G.1) (e := x1) (p := k) (by omega)
        exact ⟨rfl, rfl, r6, i1, i2, k + 1, by omega, by omega, by rw [n]; exact j4, by rw [n]; exact j5⟩
      · exfalso
        omega
      · exfalso
        omega
      · exfalso
        omega
      · have f22 := wr_d e22 (by omega) (by omega)
        have n := prF_y (g := G.1) (e := x1) (p := k) (by omega)
        exact ⟨rfl, rfl, r6, i1, i2, k + 1, by omega, by omega, by rw [n]; exact j1, by rw [n]; exact t1⟩
theorem pq_preach : PJ 119 220 1 true := pj_ans ak_preach (fun {G as h h1 h2 v v2} hl hb W C M s1 s2 => by
  obtain ⟨x, rfl⟩ := as1 hl
  exact (ca_preach s1 C W).trans (ra_preach s2 M W).symm)
end AA
