/-! answers: left (made by a program) -/
section AA
variable {h h' : fH} {v x y z w : Int} {G : gS}
noncomputable def mxF (f : Int → Int) : Nat → Int
  | 0 => 0
  | k + 1 => xmax (mxF f k) (f (k : Int))
noncomputable def chF (g : gV) : Nat → Int × Int
  | 0 => (0, 0)
  | k + 1 => if cN g k < cN g (k + 1) then (xmax (chF g k).1 0, 0) else (xmax (chF g k).1 ((chF g k).2 + 1), (chF g k).2 + 1)
theorem chF_y {g : gV} {k : Nat} (q : cN g k < cN g (k + 1)) : chF g (k + 1) = (xmax (chF g k).1 0, 0) := if_pos q
theorem chF_n {g : gV} {k : Nat} (q : ¬ cN g k < cN g (k + 1)) : chF g (k + 1) = (xmax (chF g k).1 ((chF g k).2 + 1), (chF g k).2 + 1) := if_neg q
theorem ct_mono {P P' : Int → Prop} : ∀ n : Nat, (∀ i, 0 ≤ i → i < (n : Int) → P i → P' i) → ctF P n ≤ ctF P' n ∧ (ctF P' n ≤ ctF P n → btF P' n = btF P n)
  | 0, _ => ⟨Int.le_refl 0, fun _ => rfl⟩
  | n + 1, hm => by
    obtain ⟨i1, i2⟩ := ct_mono (P := P) (P' := P') n (fun i a b => hm i a (by omega))
    have hn := hm (n : Int) (by omega) (by omega)
    have c1 : ctF P (n + 1) = ctF P n + bI (P (n : Int)) := rfl
    have c2 : ctF P' (n + 1) = ctF P' n + bI (P' (n : Int)) := rfl
    by_cases q : P (n : Int)
    · have b1 : btF P (n + 1) = xor' (btF P n) (xshl 1 (n : Int)) := if_pos q
      have b2 : btF P' (n + 1) = xor' (btF P' n) (xshl 1 (n : Int)) := if_pos (hn q)
      rw [c1, c2, b1, b2, bI_t q, bI_t (hn q)]
      exact ⟨by omega, fun u => by rw [i2 (by omega)]⟩
    · have b1 : btF P (n + 1) = btF P n := if_neg q
      by_cases q' : P' (n : Int)
      · rw [c1, c2, bI_f q, bI_t q']
        exact ⟨by omega, fun u => by omega⟩
      · have b2 : btF P' (n + 1) = btF P' n := if_neg q'
        rw [c1, c2, b1, b2, bI_f q, bI_f q']
        exact ⟨by omega, fun u => i2 (by omega)⟩
theorem bits_iff {g : gV} (W : WF g) (k : Nat) (hk : g 1 + ((k + 1 : Nat) : Int) ≤ 5000) : btF (fun p => dayN (k + 1) g (7 + 5 * p) ≠ 0) (g 0).toNat = btF (fun p => dayN k g (7 + 5 * p) ≠ 0) (g 0).toNat ↔ ¬ (cN g k < cN g (k + 1)) := by
  have hB := W.1
  obtain ⟨i1, i2⟩ := ct_mono (P := fun p => dayN k g (7 + 5 * p) ≠ 0) (P' := fun p => dayN (k + 1) g (7 + 5 * p) ≠ 0) (g 0).toNat (fun p p0 p1 hp => by
    show dayN (k + 1) g (7 + 5 * p) ≠ 0
    rw [(wed_mono (m := k) (k := 1) W p0 (by omega) hk hp).1]
    exact hp)
  obtain ⟨a1, -⟩ := pop_bt (P := fun p => dayN k g (7 + 5 * p) ≠ 0) (g 0).toNat (by omega)
  obtain ⟨b1, -⟩ := pop_bt (P := fun p => dayN (k + 1) g (7 + 5 * p) ≠ 0) (g 0).toNat (by omega)
  unfold cN
  refine ⟨fun q => ?_, fun q => i2 (by omega)⟩
  rw [← a1, ← b1, q]
  omega
section LF
variable {g : gV}
theorem ca_lastD (hs : fS 145 [1] h v h') (R : RC h 11 g) (W : WF g) : v = mxF (fun w => g (87 + 5 * w)) (g 2).toNat := by
  have hB := W.1
  have jo : h 11 14 = g 2 := R.opn
  refine vc_daysOfLastWager hs (fun x0 x1 x2 q => q = h ∧ ∃ k : Nat, x2 = (k : Int) ∧ (k : Int) ≤ g 2 ∧ x1 = mxF (fun w => g (87 + 5 * w)) k) (fun v _ => v = mxF (fun w => g (87 + 5 * w)) (g 2).toNat) ?_ ?_
  · exact ⟨rfl, 0, rfl, by omega, rfl⟩
  · rintro x0 x1 x2 q ⟨rfl, k, j1, j2, j3⟩ z3 e3
    rw [jo] at e3
    refine ⟨fun q1 => ?_, fun q1 z4 e4 z5 e5 z6 e6 z7 e7 => ?_⟩
    · rw [toN (show g 2 = (k : Int) by omega)]
      exact j3
    · have r := R.wg (w := x2) (j := 4) (by omega) (by omega) (by omega) (by omega)
      rw [show (11 : Int) + 19 = 30 from rfl, ← e4, ← e5, show 83 + 5 * x2 + 4 = 87 + 5 * (k : Int) by omega] at r
      have f7 := wr_d e7 (by omega) (by omega)
      refine ⟨rfl, k + 1, by omega, by omega, ?_⟩
      rw [e6, j3, r]
      rfl
theorem ra_lastD (hs : fS 243 [271] h v h') (R : RM h g) (W : WF g) : v = mxF (fun w => g (87 + 5 * w)) (g 2).toNat := by
  have hB := W.1
  have jo : h 271 9 = g 2 := R.opn
  refine vr_lastDays hs (fun x0 x1 x2 q => x0 = 271 ∧ q = h ∧ ∃ k : Nat, x2 = (k : Int) ∧ (k : Int) ≤ g 2 ∧ x1 = mxF (fun w => g (87 + 5 * w)) k) (fun v _ => v = mxF (fun w => g (87 + 5 * w)) (g 2).toNat) ?_ ?_
  · exact ⟨rfl, rfl, 0, rfl, by omega, rfl⟩
  · rintro x0 x1 x2 q ⟨rfl, rfl, k, j1, j2, j3⟩ z3 e3
    rw [jo] at e3
    have r := fun (a : 0 ≤ x2) (b : x2 < 6) => R.w4 (w := x2) a b
    have st : mxF (fun w => g (87 + 5 * w)) (k + 1) = xmax x1 (g (87 + 5 * x2)) := by
      rw [j3, j1]
      rfl
    refine ⟨fun q1 => ?_, fun q1 z4 e4 => ⟨fun q2 z5 e5 => ?_, fun q2 z5 e5 z6 e6 => ?_⟩⟩
    · rw [toN (show g 2 = (k : Int) by omega)]
      exact j3
    · have e4 := e4.trans (r (by omega) (by omega))
      have f5 := wr_d e5 (by omega) (by omega)
      refine ⟨rfl, rfl, k + 1, by omega, by omega, ?_⟩
      rw [st]
      unfold xmax
      rw [if_neg (by omega)]
    · have e4 := e4.trans (r (by omega) (by omega))
      have e5 := e5.trans (r (by omega) (by omega))
      have f6 := wr_d e6 (by omega) (by omega)
      refine ⟨rfl, rfl, k + 1, by omega, by omega, ?_⟩
      rw [st]
      unfold xmax
      rw [if_pos (by omega)]
      exact e5
theorem ca_odd (hs : fS 147 [1] h v h') (R : RC h 11 g) : v = btF (fun e => cmF g e (g 1)) 5 := by
  have jd : h 11 15 = g 1 := R.day
  refine vc_eventsToday hs (fun x0 x1 x2 q => q = h ∧ ∃ k : Nat, x2 = (k : Int) ∧ k ≤ 5 ∧ BT (fun e => cmF g e (g 1)) k x1) (fun v _ => v = btF (fun e => cmF g e (g 1)) 5) ?_ ?_
  · exact ⟨rfl, 0, rfl, by omega, rfl⟩
  · rintro x0 x1 x2 q ⟨rfl, k, j1, j2, j3⟩
    refine ⟨fun q1 => ?_, fun q1 z3 e3 z4 e4 z5 e5 z6 e6 z7 e7 => ?_⟩
    · have hk : k = 5 := by omega
      subst hk
      exact j3.eq
    · have e4 := e4.trans (R.on (e := x2) (by omega) (by omega))
      have e6 := e6.trans (R.ev (e := x2) (by omega) (by omega))
      rw [e5, e3, jd, e4, e6] at e7
      refine ⟨fun q2 z8 e8 => ?_, fun q2 z8 e8 z9 e9 z10 e10 => ?_⟩
      · have f8 := wr_d e8 (by omega) (by omega)
        exact ⟨rfl, k + 1, by omega, by omega, j3.n j1 (fun q => q2 (e7.trans q))⟩
      · have f10 := wr_d e10 (by omega) (by omega)
        exact ⟨rfl, k + 1, by omega, by omega, j3.y j1 (e7.symm.trans q2) e8 e9⟩
theorem ra_odd (hs : fS 245 [271] h v h') (R : RM h g) : v = btF (fun e => cmF g e (g 1)) 5 := by
  have jd : h 271 15 = g 1 := R.day
  refine vr_oddBits hs (fun x0 x1 x2 q => x0 = 271 ∧ q = h ∧ ∃ k : Nat, x2 = (k : Int) ∧ k ≤ 5 ∧ BT (fun e => cmF g e (g 1)) k x1) (fun v _ => v = btF (fun e => cmF g e (g 1)) 5) ?_ ?_
  · exact ⟨rfl, rfl, 0, rfl, by omega, rfl⟩
  · rintro x0 x1 x2 q ⟨rfl, rfl, k, j1, j2, j3⟩
    refine ⟨fun q1 => ?_, fun q1 z3 e3 z4 e4 z5 e5 z6 e6 z7 e7 => ?_⟩
    · have hk : k = 5 := by omega
      subst hk
      exact j3.eq
    · have e4 := e4.trans (R.on (e := x2) (by omega) (by omega))
      have e6 := e6.trans (R.ev (e := x2) (by omega) (by omega))
      rw [e5, e3, jd, e4, e6] at e7
      refine ⟨fun q2 z8 e8 z9 e9 => ?_, fun q2 z8 e8 z9 e9 z10 e10 => ?_⟩
      · have f9 := wr_d e9 (by omega) (by omega)
        exact ⟨rfl, rfl, k + 1, by omega, by omega, j3.n0 j1 (fun q => q2 (e7.trans q)) e8⟩
      · have f10 := wr_d e10 (by omega) (by omega)
        exact ⟨rfl, rfl, k + 1, by omega, by omega, j3.y j1 (e7.symm.trans q2) e8 e9⟩
theorem ca_chaste (hs : fS 146 [1] h v h') (R : RC h 11 g) (W : WF g) (hd : g 1 ≤ 999) : v = (chF g 60).1 := by
  refine vc_longestChasteRun hs (fun x0 x1 x2 x3 q => q = h ∧ ∃ k : Nat, x3 = (k : Int) + 1 ∧ k ≤ 60 ∧ x1 = (chF g k).1 ∧ x2 = (chF g k).2 ∧ 0 ≤ x2 ∧ x2 ≤ (k : Int)) (fun v _ => v = (chF g 60).1) ?_ ?_
  · exact ⟨rfl, 0, rfl, by omega, rfl, rfl, by omega, by omega⟩
  · rintro x0 x1 x2 x3 q ⟨rfl, k, j1, j2, j3, j4, j5, j6⟩
    refine ⟨fun q1 => ?_, fun q1 v1 k1 hs1 z5 e5 v2 k2 hs2 => ?_⟩
    · have hk : k = 60 := by omega
      subst hk
      exact j3
    · have f5 := wr_d e5 (by omega) (by omega)
      obtain ⟨t0, t1⟩ := sc_howMany hs1 R W (by omega) (by omega) (by omega)
      rw [t0] at hs2
      obtain ⟨u0, u1⟩ := sc_howMany hs2 R W (by omega) (by omega) (by omega)
      rw [u0]
      rw [show x3.toNat = k + 1 by omega] at t1
      rw [show z5.toNat = k by omega] at u1
      have t1 : v1 = cN g (k + 1) := t1
      have u1 : v2 = cN g k := u1
      refine ⟨fun q2 z7 e7 z8 e8 z9 e9 => ?_, fun q2 z7 e7 z8 e8 => ?_⟩
      · have f7 := wr_d e7 (by omega) (by omega)
        have f9 := wr_d e9 (by omega) (by omega)
        refine ⟨rfl, k + 1, by omega, by omega, ?_, ?_, by omega, by omega⟩
        · rw [chF_n (by omega), e8, f7, j3, j4]
        · rw [chF_n (by omega), f7, j4]
      · have f8 := wr_d e8 (by omega) (by omega)
        refine ⟨rfl, k + 1, by omega, by omega, ?_, ?_, by omega, by omega⟩
        · rw [chF_y (by omega), e7, j3]
        · rw [chF_y (by omega)]
theorem ra_chaste (hs : fS 244 [271] h v h') (R : RM h g) (W : WF g) (hd : g 1 ≤ 999) : v = (chF g 60).1 := by
  refine vr_chasteRun hs (fun x0 x1 x2 x3 q => x0 = 271 ∧ ∃ k : Nat, x3 = (k : Int) ∧ k ≤ 60 ∧ RM q (dayN k g) ∧ x1 = (chF g k).1 ∧ x2 = (chF g k).2 ∧ 0 ≤ x2 ∧ x2 ≤ (k : Int)) (fun v _ => v = (chF g 60).1) ?_ ?_
  · intro v1 k1 hs1
    obtain ⟨a1, a2, a3⟩ := sr_down hs1 R (by omega)
    exact ⟨rfl, 0, rfl, by omega, a1, rfl, rfl, by omega, by omega⟩
  · rintro x0 x1 x2 x3 q ⟨rfl, k, j1, j2, j3, j4, j5, j6, j7⟩
    refine ⟨fun q1 v1 k1 hs1 => ?_, fun q1 v1 k1 hs1 v2 k2 hs2 v3 k3 hs3 => ?_⟩
    · have hk : k = 60 := by omega
      subst hk
      exact j4
    · obtain ⟨w1, w2, w3⟩ := dayN_ok W k (by omega)
      obtain ⟨y1, y2, y3⟩ := dayN_ok W (k + 1) (by omega)
      obtain ⟨t0, t1⟩ := sr_wedBits hs1 j3 w1
      rw [t0] at hs2
      obtain ⟨r1, r2⟩ := sr_day0 hs2 j3 w1 (by omega)
      have r1 : RM k2 (dayN (k + 1) g) := r1
      obtain ⟨u0, u1⟩ := sr_wedBits hs3 r1 y1
      rw [w2] at t1
      rw [y2] at u1
      rw [u0]
      have be : v3 = v1 ↔ ¬ (cN g k < cN g (k + 1)) := by
        rw [t1, u1]
        exact bits_iff W k (by omega)
      refine ⟨fun q2 => ?_, fun q2 z7 e7 => ?_⟩
      · have hy : cN g k < cN g (k + 1) := Classical.byContradiction (fun n => q2 (be.mpr n))
        refine ⟨fun q3 z7 e7 => ?_, fun q3 z7 e7 => ?_⟩
        · have f7 := wr_d e7 (by omega) (by omega)
          refine ⟨rfl, k + 1, by omega, by omega, r1, ?_, by rw [chF_y hy], by omega, by omega⟩
          rw [chF_y hy, ← j4]
          unfold xmax
          rw [if_neg (by omega)]
        · have f7 := wr_d e7 (by omega) (by omega)
          refine ⟨rfl, k + 1, by omega, by omega, r1, ?_, by rw [chF_y hy], by omega, by omega⟩
          rw [chF_y hy, ← j4]
          unfold xmax
          rw [if_pos (by omega)]
      · have hn := be.mp q2
        have f7 := wr_d e7 (by omega) (by omega)
        refine ⟨fun q3 z8 e8 => ?_, fun q3 z8 e8 => ?_⟩
        · have f8 := wr_d e8 (by omega) (by omega)
          refine ⟨rfl, k + 1, by omega, by omega, r1, ?_, by rw [chF_n hn, f7, j5], by omega, by omega⟩
          rw [chF_n hn, ← j4, ← j5]
          unfold xmax
          rw [if_neg (by omega)]
        · have f8 := wr_d e8 (by omega) (by omega)
          refine ⟨rfl, k + 1, by omega, by omega, r1, ?_, by rw [chF_n hn, f7, j5], by omega, by omega⟩
          rw [chF_n hn, ← j4, ← j5]
          unfold xmax
          rw [if_pos (by omega)]
          exact f7
end LF
theorem ca_left (hs : fS 144 [1, x] h v h') (C : CJ G h) (W : GW G) : v = if x = 0 then mxF (fun w => G.1 (87 + 5 * w)) (G.1 2).toNat else if x = 1 then (chF G.1 60).1 else if x = 2 then btF (fun e => cmF G.1 e (G.1 1)) 5 else if x = 3 then twN G.1 1 (G.1 0).toNat (G.1 0).toNat else if x = 4 then twN G.1 2 (G.1 0).toNat (G.1 0).toNat else -2 := by
  have jm : h 11 1 = G.1 0 := C.1.many
  have jd : h 11 15 = G.1 1 := C.1.day
  have jo : h 11 14 = G.1 2 := C.1.opn
  have hB := W.1.1.1
  have hD := W.1.2
  refine vc_left hs (fun v _ => v = if x = 0 then mxF (fun w => G.1 (87 + 5 * w)) (G.1 2).toNat else if x = 1 then (chF G.1 60).1 else if x = 2 then btF (fun e => cmF G.1 e (G.1 1)) 5 else if x = 3 then twN G.1 1 (G.1 0).toNat (G.1 0).toNat else if x = 4 then twN G.1 2 (G.1 0).toNat (G.1 0).toNat else -2) ?_
  · refine ⟨fun q1 => fun v1 k1 hs1 => ?_, fun q1 => ⟨fun q2 => fun v1 k1 hs1 => ?_, fun q2 => ⟨fun q3 => fun v1 k1 hs1 => ?_, fun q3 => ⟨fun q4 => fun v1 k1 hs1 => ?_, fun q4 => ⟨fun q5 => fun v1 k1 hs1 => ?_, fun q5 => fun _ _ _ _ _ _ _ ek => (by rw [if_neg (by omega), if_neg (by omega), if_neg (by omega), if_neg (by omega), if_neg (by omega)])⟩⟩⟩⟩⟩
    · rw [if_pos (by omega)]
      exact ca_lastD hs1 C.1 W.1.1
    · rw [if_neg (by omega), if_pos (by omega)]
      exact ca_chaste hs1 C.1 W.1.1 (by omega)
    · rw [if_neg (by omega), if_neg (by omega), if_pos (by omega)]
      exact ca_odd hs1 C.1
    · rw [if_neg (by omega), if_neg (by omega), if_neg (by omega), if_pos (by omega)]
      exact ca_twos hs1 C.1 W.1.1 (Or.inr rfl)
    · rw [if_neg (by omega), if_neg (by omega), if_neg (by omega), if_neg (by omega), if_pos (by omega)]
      exact ca_rivals hs1 C.1 W.1.1
theorem ra_left (hs : fS 242 [271, x] h v h') (M : MJ G h) (W : GW G) : v = if x = 0 then mxF (fun w => G.1 (87 + 5 * w)) (G.1 2).toNat else if x = 1 then (chF G.1 60).1 else if x = 2 then btF (fun e => cmF G.1 e (G.1 1)) 5 else if x = 3 then twN G.1 1 (G.1 0).toNat (G.1 0).toNat else if x = 4 then twN G.1 2 (G.1 0).toNat (G.1 0).toNat else -2 := by
  have hB := W.1.1.1
  have hD := W.1.2
  refine vr_left hs (fun v _ => v = if x = 0 then mxF (fun w => G.1 (87 + 5 * w)) (G.1 2).toNat else if x = 1 then (chF G.1 60).1 else if x = 2 then btF (fun e => cmF G.1 e (G.1 1)) 5 else if x = 3 then twN G.1 1 (G.1 0).toNat (G.1 0).toNat else if x = 4 then twN G.1 2 (G.1 0).toNat (G.1 0).toNat else -2) ?_
  · intro k1 ek1
    have M1 : MJ G k1 := by
      rw [ek1]
      exact M.up (by omega)
    have jm : k1 271 0 = G.1 0 := M1.1.many
    have jd : k1 271 15 = G.1 1 := M1.1.day
    have jo : k1 271 9 = G.1 2 := M1.1.opn
    refine ⟨fun q1 => fun v2 k2 hs2 => ?_, fun q1 => ⟨fun q2 => fun v2 k2 hs2 => ?_, fun q2 => ⟨fun q3 => fun v2 k2 hs2 => ?_, fun q3 => ⟨fun q4 => fun v2 k2 hs2 => ?_, fun q4 => ⟨fun q5 => fun v2 k2 hs2 => ?_, fun q5 => fun _ _ _ _ _ _ _ ek => (by rw [if_neg (by omega), if_neg (by omega), if_neg (by omega), if_neg (by omega), if_neg (by omega)])⟩⟩⟩⟩⟩
    · rw [if_pos (by omega)]
      exact ra_lastD hs2 M1.1 W.1.1
    · rw [if_neg (by omega), if_pos (by omega)]
      exact ra_chaste hs2 M1.1 W.1.1 (by omega)
    · rw [if_neg (by omega), if_neg (by omega), if_pos (by omega)]
      exact ra_odd hs2 M1.1
    · rw [if_neg (by omega), if_neg (by omega), if_neg (by omega), if_pos (by omega)]
      exact ra_twos hs2 M1.1 W.1.1 (by omega)
    · rw [if_neg (by omega), if_neg (by omega), if_neg (by omega), if_neg (by omega), if_pos (by omega)]
      exact ra_twos hs2 M1.1 W.1.1 (by omega)
theorem pq_left : PJ 144 242 1 true := pj_ans ak_left (fun {G as h h1 h2 v v2} hl hb W C M s1 s2 => by
  obtain ⟨x, rfl⟩ := as1 hl
  exact (ca_left s1 C W).trans (ra_left s2 M W).symm)
end AA
