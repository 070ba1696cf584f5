/-! answers: fix (made by a program) -/
section AA
variable {h h' : fH} {v x y z w : Int} {G : gS}
noncomputable def fxB (g : gV) (n i : Nat) : Int := cN (gu g (74 + 2 * ((i / 9 : Nat) : Int)) ((i % 9 : Nat) : Int)) n
noncomputable def fxF (g : gV) (n : Nat) : Nat → Int × Int
  | 0 => (-9, cN g n)
  | i + 1 => if (fxF g n i).2 < fxB g n i then (10 * ((i / 9 : Nat) : Int) + ((i % 9 : Nat) : Int), fxB g n i) else fxF g n i
theorem fxF_y {g : gV} {n i : Nat} (q : (fxF g n i).2 < fxB g n i) : fxF g n (i + 1) = (10 * ((i / 9 : Nat) : Int) + ((i % 9 : Nat) : Int), fxB g n i) := if_pos q
theorem fxF_n {g : gV} {n i : Nat} (q : ¬ (fxF g n i).2 < fxB g n i) : fxF g n (i + 1) = fxF g n i := if_neg q
theorem ca_fix (hs : fS 118 [1, x] h v h') (C : CJ G h) (W : GW G) : v = if x < 0 then -4 else if 30 < x then -6 else (fxF G.1 x.toNat 45).1 := by
  have jm : h 11 1 = G.1 0 := C.1.many
  have jd : h 11 15 = G.1 1 := C.1.day
  have jo : h 11 14 = G.1 2 := C.1.opn
  have hB := W.1.1.1
  have hD := W.1.2
  refine vc_fix hs (fun x0 x1 x2 x3 x4 q => x1 = x ∧ SC h q ∧ 0 ≤ x ∧ x ≤ 30 ∧ ∃ k : Nat, x4 = (k : Int) ∧ k ≤ 5 ∧ RC q 34 G.1 ∧ x2 = (fxF G.1 x.toNat (9 * k)).1 ∧ x3 = (fxF G.1 x.toNat (9 * k)).2) (fun x0 x1 x2 x3 x4 x5 q => x1 = x ∧ SC h q ∧ 0 ≤ x ∧ x ≤ 30 ∧ ∃ k j : Nat, x4 = (k : Int) ∧ k < 5 ∧ x5 = (j : Int) ∧ j ≤ 9 ∧ (∃ z, RC q 34 (gu G.1 (74 + 2 * x4) z)) ∧ x2 = (fxF G.1 x.toNat (9 * k + j)).1 ∧ x3 = (fxF G.1 x.toNat (9 * k + j)).2) (fun v _ => v = if x < 0 then -4 else if 30 < x then -6 else (fxF G.1 x.toNat 45).1) ?_ ?_ ?_
  · refine ⟨fun q1 => ⟨fun q2 => fun v1 k1 hs1 => fun v2 k2 hs2 => ?_, fun q2 => fun _ _ _ _ _ _ _ ek => (by rw [if_neg (by omega), if_pos (by omega)])⟩, fun q1 => fun _ _ _ _ _ _ _ ek => (by rw [if_pos (by omega)])⟩
    · obtain ⟨S1, R1⟩ := sm_copy hs1 (SC.rf C.w34) C.1 W.1.1.bg
      have R11 := S1.r11 C.1 W.1.1.bg
      obtain ⟨t0, t1⟩ := sc_howMany hs2 R11 W.1.1 (by omega) (by omega) (by omega)
      rw [t0]
      exact ⟨rfl, S1, by omega, by omega, 0, rfl, by omega, R1, rfl, t1⟩
  · rintro x0 x1 x2 x3 x4 q ⟨rfl, i1, i2, i3, k, j1, j2, j3, j4, j5⟩
    refine ⟨fun q1 => ?_, fun q1 => ⟨rfl, i1, i2, i3, k, 0, j1, by omega, rfl, by omega, ⟨G.1 (74 + 2 * x4), by rw [gu_self]; exact j3⟩, j4, j5⟩⟩
    rw [if_neg (by omega), if_neg (by omega), j4, show 9 * k = 45 by omega]
  · rintro x0 x1 x2 x3 x4 x5 q ⟨rfl, i1, i2, i3, k, j, j1, j2, j3, j4, ⟨z0, j5⟩, j6, j7⟩
    have R11 := i1.r11 C.1 W.1.1.bg
    refine ⟨fun q1 z6 e6 k1 ek1 z7 e7 => ?_, fun q1 k1 ek1 v2 k2 hs2 => ?_⟩
    · have e6 := e6.trans (R11.on (e := x4) (by omega) (by omega))
      have f7 := wr_d e7 (by omega) (by omega)
      have r := j5.u_on (z := z6) (e := x4) (BG_on W.1.1.bg (by omega)) (by omega) (by omega)
      rw [show (34 : Int) + 18 = 52 from rfl, gu_gu, e6, gu_self, ← e6, ← ek1] at r
      have s := i1.up (c := 52) (k := x4) (z := z6) (by omega)
      rw [← ek1] at s
      rw [show 9 * k + j = 9 * (k + 1) by omega] at j6 j7
      exact ⟨rfl, s, i2, i3, k + 1, by omega, by omega, r, j6, j7⟩
    · have r := j5.u_on (z := x5) (e := x4) (BG_on W.1.1.bg (by omega)) (by omega) (by omega)
      rw [show (34 : Int) + 18 = 52 from rfl, gu_gu, ← ek1] at r
      have s := i1.up (c := 52) (k := x4) (z := x5) (by omega)
      rw [← ek1] at s
      have W2 := WF_on (e := x4) (o := x5) W.1.1 (by omega) (by omega) (by omega) (by omega)
      have d1 : gu G.1 (74 + 2 * x4) x5 1 = G.1 1 := gu_n (by omega)
      obtain ⟨t0, t1⟩ := sc_howMany hs2 r W2 (by omega) (by omega) (by omega)
      rw [t0]
      have t2 : v2 = fxB G.1 x1.toNat (9 * k + j) := by
        unfold fxB
        rw [show (9 * k + j) / 9 = k by omega, show (9 * k + j) % 9 = j by omega, ← j1, ← j3]
        exact t1
      refine ⟨fun q2 z7 e7 => ?_, fun q2 z7 e7 z8 e8 z9 e9 => ?_⟩
      · have f7 := wr_d e7 (by omega) (by omega)
        have n := fxF_n (g := G.1) (n := x1.toNat) (i := 9 * k + j) (by omega)
        exact ⟨rfl, s, i2, i3, k, j + 1, j1, j2, by omega, by omega, ⟨x5, r⟩, by rw [show 9 * k + (j + 1) = 9 * k + j + 1 by omega, n]; exact j6, by rw [show 9 * k + (j + 1) = 9 * k + j + 1 by omega, n]; exact j7⟩
      · have f7 := wr_d e7 (by omega) (by omega)
        have f8 := wr_d e8 (by omega) (by omega)
        have f9 := wr_d e9 (by omega) (by omega)
        have n := fxF_y (g := G.1) (n := x1.toNat) (i := 9 * k + j) (by omega)
        refine ⟨rfl, s, i2, i3, k, j + 1, j1, j2, by omega, by omega, ⟨x5, r⟩, ?_, ?_⟩
        · rw [show 9 * k + (j + 1) = 9 * k + j + 1 by omega, n]
          show z8 = 10 * (((9 * k + j) / 9 : Nat) : Int) + (((9 * k + j) % 9 : Nat) : Int)
          omega
        · rw [show 9 * k + (j + 1) = 9 * k + j + 1 by omega, n]
          exact t2
theorem ra_fix (hs : fS 219 [271, x] h v h') (M : MJ G h) (W : GW G) : v = if x < 0 then -4 else if 30 < x then -6 else (fxF G.1 x.toNat 45).1 := by
  have hB := W.1.1.1
  have hD := W.1.2
  refine vr_fix hs (fun x0 x1 x3 x4 x5 q => x0 = 271 ∧ x1 = x ∧ 0 ≤ x ∧ x ≤ 30 ∧ ∃ k : Nat, x5 = (k : Int) ∧ k ≤ 45 ∧ RM q G.1 ∧ (∀ i, 0 ≤ i → i < 113 → q 290 i = G.1 i) ∧ x3 = (fxF G.1 x.toNat k).1 ∧ x4 = (fxF G.1 x.toNat k).2) (fun v _ => v = if x < 0 then -4 else if 30 < x then -6 else (fxF G.1 x.toNat 45).1) ?_ ?_
  · intro k1 ek1
    have M1 : MJ G k1 := by
      rw [ek1]
      exact M.up (by omega)
    have jm : k1 271 0 = G.1 0 := M1.1.many
    have jd : k1 271 15 = G.1 1 := M1.1.day
    have jo : k1 271 9 = G.1 2 := M1.1.opn
    refine ⟨fun q1 => ⟨fun q2 => fun v2 k2 hs2 => fun v3 k3 hs3 => ?_, fun q2 => fun _ _ _ _ _ _ _ ek => (by rw [if_neg (by omega), if_pos (by omega)])⟩, fun q1 => fun _ _ _ _ _ _ _ ek => (by rw [if_pos (by omega)])⟩
    · obtain ⟨a1, a2, a3⟩ := sr_down hs2 M1.1 (by omega)
      obtain ⟨b1, b2, b3, b4⟩ := sr_wedThen (g := G.1) hs3 a1 a2 W.1.1 (by omega) (by omega) (by omega)
      exact ⟨rfl, rfl, by omega, by omega, 0, rfl, by omega, b2, b3, rfl, b1⟩
  · rintro x0 x1 x3 x4 x5 q ⟨rfl, rfl, i1, i2, k, j1, j2, j3, j4, j5, j6⟩
    refine ⟨fun q1 => ?_, fun q1 z5 e5 z6 e6 k1 ek1 v2 k2 hs2 => ?_⟩
    · rw [if_neg (by omega), if_neg (by omega), j5, show k = 45 by omega]
    · have d5 : xdiv x5 9 = ((k / 9 : Nat) : Int) := by
        rw [xdiv_nn (by omega) (by omega) (by omega)]
        omega
      have d6 : xrem x5 9 = ((k % 9 : Nat) : Int) := by
        rw [xrem_nn (by omega) (by omega) (by omega)]
        omega
      rw [d5] at e5
      rw [d6] at e6
      have r := j3.u_on (z := z6) (e := z5) (by omega) (by omega)
      rw [← ek1] at r
      have W2 := WF_on (e := z5) (o := z6) W.1.1 (by omega) (by omega) (by omega) (by omega)
      have d1 : gu G.1 (74 + 2 * z5) z6 1 = G.1 1 := gu_n (by omega)
      obtain ⟨b1, b2, b3, b4⟩ := sr_wedThen (g := G.1) hs2 r (fun i u1 u2 => by rw [ek1, fu_c (by omega)]; exact j4 i u1 u2) W2 (by omega) (by omega) (by omega)
      have t2 : v2 = fxB G.1 x1.toNat k := by
        unfold fxB
        rw [← e5, ← e6]
        exact b1
      refine ⟨fun q2 => ⟨fun q3 z8 e8 => ?_, fun q3 => absurd q3 (by omega)⟩, fun q2 z8 e8 z9 e9 z10 e10 z11 e11 => ⟨fun q3 => absurd q3 (by omega), fun q3 z12 e12 => ?_⟩⟩
      · have f8 := wr_d e8 (by omega) (by omega)
        have n := fxF_n (g := G.1) (n := x1.toNat) (i := k) (by omega)
        exact ⟨rfl, rfl, i1, i2, k + 1, by omega, by omega, b2, b3, by rw [n]; exact j5, by rw [n]; exact j6⟩
      · rw [d5] at e8
        rw [d6] at e10
        have f9 := wr_d e9 (by omega) (by omega)
        have f11 := wr_d e11 (by omega) (by omega)
        have f12 := wr_d e12 (by omega) (by omega)
        have n := fxF_y (g := G.1) (n := x1.toNat) (i := k) (by omega)
        refine ⟨rfl, rfl, i1, i2, k + 1, by omega, by omega, b2, b3, ?_, ?_⟩
        · rw [n]
          show z11 = 10 * ((k / 9 : Nat) : Int) + ((k % 9 : Nat) : Int)
          omega
        · rw [n]
          exact t2
theorem pq_fix : PJ 118 219 1 true := pj_ans ak_fix (fun {G as h h1 h2 v v2} hl hb W C M s1 s2 => by
  obtain ⟨x, rfl⟩ := as1 hl
  exact (ca_fix s1 C W).trans (ra_fix s2 M W).symm)
end AA
