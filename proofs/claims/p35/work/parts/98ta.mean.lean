/-! answers: mean (made by a program) -/
section AA
variable {h h' : fH} {v x y z w : Int} {G : gS}
noncomputable def comF (s m : Int) : Nat → Int
  | 0 => 1
  | k + 1 => if s % ((k : Int) + 2) = 0 ∧ m % ((k : Int) + 2) = 0 then (k : Int) + 2 else comF s m k
noncomputable def meF (s m y : Int) : Int := if s = 0 then y else if y = 0 then xldiv s ((Nat.gcd s.toNat m.toNat : Nat) : Int) else xldiv m ((Nat.gcd s.toNat m.toNat : Nat) : Int)
set_option maxRecDepth 100000 in
theorem mean_kk : (List.range 64).all (fun s => (List.range 7).all (fun k => decide (xdiv (s : Int) (comF (s : Int) ((k + 1 : Nat) : Int) k) = meF (s : Int) ((k + 1 : Nat) : Int) 0) && decide (xdiv ((k + 1 : Nat) : Int) (comF (s : Int) ((k + 1 : Nat) : Int) k) = meF (s : Int) ((k + 1 : Nat) : Int) 1))) = true := by decide +kernel
theorem mean_c {s m : Int} {k : Nat} (s0 : 0 ≤ s) (s1 : s < 64) (m0 : m = (k : Int) + 1) (m1 : m < 8) : xdiv s (comF s m k) = meF s m 0 ∧ xdiv m (comF s m k) = meF s m 1 := by
  obtain ⟨a, rfl⟩ := Int.eq_ofNat_of_zero_le s0
  have e : m = ((k + 1 : Nat) : Int) := by omega
  subst e
  have h := List.all_eq_true.mp mean_kk a (List.mem_range.mpr (by omega))
  have h := List.all_eq_true.mp h k (List.mem_range.mpr (by omega))
  simp only [Bool.and_eq_true, decide_eq_true_eq] at h
  exact h
theorem comF_y {s m z : Int} {k : Nat} (h1 : s % z = 0) (h2 : m % z = 0) (hz : z = (k : Int) + 2) : comF s m (k + 1) = z := by
  subst hz
  exact if_pos ⟨h1, h2⟩
theorem comF_n {s m z : Int} {k : Nat} (h : ¬ (s % z = 0 ∧ m % z = 0)) (hz : z = (k : Int) + 2) : comF s m (k + 1) = comF s m k := by
  subst hz
  exact if_neg h
theorem wl_id {z : Int} (h1 : -9223372036854775808 ≤ z) (h2 : z ≤ 9223372036854775807) : wl z = z := Int.bmod_eq_of_le (by omega) (by omega)
theorem xlrem_nn {a c : Int} (h1 : 0 ≤ a) (h2 : a ≤ 2147483647) (h3 : 0 < c) : xlrem a c = a % c := by
  unfold xlrem
  rw [Int.tdiv_eq_ediv_of_nonneg h1]
  have h4 : a / c ≤ a := Int.ediv_le_self c h1
  have h5 : 0 ≤ a / c := Int.ediv_nonneg h1 (by omega)
  rw [wl_id (z := a / c) (by omega) (by omega)]
  have h6 : a / c * c + a % c = a := Int.ediv_mul_add_emod a c
  have h7 : 0 ≤ a % c := Int.emod_nonneg a (by omega)
  have h8 : 0 ≤ a / c * c := Int.mul_nonneg h5 (by omega)
  rw [wl_id (z := a / c * c) (by omega) (by omega), wl_id (by omega) (by omega)]
  omega
theorem gcd_step (a b : Nat) : Nat.gcd b (a % b) = Nat.gcd a b := by
  rw [Nat.gcd_comm b (a % b), ← Nat.gcd_rec, Nat.gcd_comm]
theorem sr_divisor {a m : Int} (hs : fS 232 [a, m] h v h') (a0 : 0 ≤ a) (a1 : a ≤ 63) (m0 : 0 ≤ m) (m1 : m ≤ 63) : h' = h ∧ v = ((Nat.gcd a.toNat m.toNat : Nat) : Int) := by
  refine vr_divisor hs (fun x4 x6 q => q = h ∧ 0 ≤ x4 ∧ x4 ≤ 63 ∧ 0 ≤ x6 ∧ x6 ≤ 63 ∧ Nat.gcd x4.toNat x6.toNat = Nat.gcd a.toNat m.toNat) (fun v h' => h' = h ∧ v = ((Nat.gcd a.toNat m.toNat : Nat) : Int)) ?_ ?_
  · exact ⟨rfl, a0, a1, m0, m1, rfl⟩
  · rintro x4 x6 q ⟨rfl, i1, i2, i3, i4, i5⟩ z2 e2
    have c := xlcmp_f e2
    refine ⟨fun q1 => ⟨rfl, ?_⟩, fun q1 z3 e3 => ?_⟩
    · rw [← i5, show x6.toNat = 0 by omega, Nat.gcd_zero_right]
      omega
    · rw [xlrem_nn i1 (by omega) (by omega)] at e3
      have b1 := Int.emod_nonneg x4 (b := x6) (by omega)
      have b2 := Int.emod_lt_of_pos x4 (b := x6) (by omega)
      refine ⟨rfl, i3, i4, by omega, by omega, ?_⟩
      rw [e3, Int.toNat_emod i1 i3, gcd_step]
      exact i5
theorem sr_partOf {a m : Int} (hs : fS 231 [a, m, y] h v h') (a0 : 0 ≤ a) (a1 : a ≤ 63) (m0 : 0 ≤ m) (m1 : m ≤ 63) : h' = h ∧ v = meF a m y := by
  refine vr_partOf hs (fun v h' => h' = h ∧ v = meF a m y) ?_
  intro z3 e3
  have c := xlcmp_f e3
  unfold meF
  refine ⟨fun q1 v1 k1 hs1 => ?_, fun q1 => ⟨rfl, ?_⟩⟩
  · obtain ⟨rfl, r⟩ := sr_divisor hs1 a0 a1 m0 m1
    rw [if_neg (by omega), ← r]
    refine ⟨fun q2 z5 e5 => ⟨rfl, ?_⟩, fun q2 z5 e5 => ⟨rfl, ?_⟩⟩
    · rw [if_neg q2]
      exact e5
    · rw [if_pos q2]
      exact e5
  · rw [if_pos (by omega)]
theorem ca_mean (hs : fS 135 [1, x, y] h v h') (C : CJ G h) (W : GW G) : v = if x < 0 ∨ 4 < x then wl (4000000000000000000 - (-1)) else if y < 0 ∨ 1 < y then wl (4000000000000000000 - (-2)) else meF (sumF (fun p => G.1 (38 + 5 * p + x)) (G.1 0).toNat) (G.1 0) y := by
  have jm : h 11 1 = G.1 0 := C.1.many
  have jd : h 11 15 = G.1 1 := C.1.day
  have jo : h 11 14 = G.1 2 := C.1.opn
  have hB := W.1.1.1
  have hD := W.1.2
  refine vc_mean hs (fun x0 x1 x2 x3 x4 q => x1 = x ∧ x2 = y ∧ q = h ∧ 0 ≤ x ∧ x ≤ 4 ∧ 0 ≤ y ∧ y ≤ 1 ∧ G.1 0 ≠ 0 ∧ ∃ k : Nat, x4 = (k : Int) ∧ (k : Int) ≤ G.1 0 ∧ x3 = sumF (fun p => G.1 (38 + 5 * p + x)) k) (fun x0 x2 x3 x4 x5 q => x2 = y ∧ q = h ∧ 0 ≤ x ∧ x ≤ 4 ∧ 0 ≤ y ∧ y ≤ 1 ∧ 0 ≤ x3 ∧ x3 < 64 ∧ x3 = sumF (fun p => G.1 (38 + 5 * p + x)) (G.1 0).toNat ∧ ∃ k : Nat, x5 = (k : Int) + 2 ∧ (k : Int) + 1 ≤ G.1 0 ∧ x4 = comF x3 (G.1 0) k) (fun v _ => v = if x < 0 ∨ 4 < x then wl (4000000000000000000 - (-1)) else if y < 0 ∨ 1 < y then wl (4000000000000000000 - (-2)) else meF (sumF (fun p => G.1 (38 + 5 * p + x)) (G.1 0).toNat) (G.1 0) y) ?_ ?_ ?_
  · refine ⟨fun q1 => fun _ _ _ _ _ _ _ ek _ el => (el.trans (by rw [if_pos (by omega)])), fun q1 => ⟨fun q2 => fun _ _ _ _ _ _ _ ek _ el => (el.trans (by rw [if_pos (by omega)])), fun q2 => ⟨fun q3 => fun _ _ _ _ _ _ _ ek _ el => (el.trans (by rw [if_neg (by omega), if_pos (by omega)])), fun q3 => ⟨fun q4 => fun _ _ _ _ _ _ _ ek _ el => (el.trans (by rw [if_neg (by omega), if_pos (by omega)])), fun q4 => fun z3 e3 => ⟨fun q5 => ?_, fun q5 => ?_⟩⟩⟩⟩⟩
    · exact ⟨rfl, rfl, rfl, by omega, by omega, by omega, by omega, by omega, 0, rfl, by omega, rfl⟩
    · rw [if_neg (by omega), if_neg (by omega), toN (show G.1 0 = ((0 : Nat) : Int) by omega)]
      exact Eq.symm (if_pos rfl)
  · rintro x0 x1 x2 x3 x4 q ⟨rfl, rfl, rfl, i1, i2, i3, i4, i5, k, j1, j2, j3⟩ z5 e5
    rw [jm] at e5
    have sb := sum_b (f := fun p => G.1 (38 + 5 * p + x1)) (c := 9) (k := k) (fun i u1 u2 => W.1.1.bel (p := i) (e := x1) u1 (by omega) i1 (by omega))
    refine ⟨fun q1 => ⟨rfl, rfl, i1, i2, i3, i4, by omega, by omega, ?_, 0, rfl, by omega, rfl⟩, fun q1 z6 e6 z7 e7 z8 e8 z9 e9 => ?_⟩
    · rw [toN (show G.1 0 = (k : Int) by omega)]
      exact j3
    · have r := C.1.bel (p := x4) (e := x1) (by omega) (by omega) i1 (by omega)
      rw [show (11 : Int) + 10 + x4 = z6 by omega, ← e7] at r
      have t1 := W.1.1.bel (p := x4) (e := x1) (by omega) (by omega) i1 (by omega)
      have f8 := wr_d e8 (by omega) (by omega)
      have f9 := wr_d e9 (by omega) (by omega)
      refine ⟨rfl, rfl, rfl, i1, i2, i3, i4, i5, k + 1, by omega, by omega, ?_⟩
      show z8 = sumF (fun p => G.1 (38 + 5 * p + x1)) k + G.1 (38 + 5 * (k : Int) + x1)
      rw [f8, j3, r, j1]
  · rintro x0 x2 x3 x4 x5 q ⟨rfl, rfl, i1, i2, i3, i4, i5, i6, i7, k, j1, j2, j3⟩ z5 e5
    rw [jm] at e5
    refine ⟨fun q1 => ⟨fun q2 z6 e6 z7 e7 => ?_, fun q2 z6 e6 => ?_⟩, fun q1 z6 e6 => ⟨fun q2 z7 e7 => ?_, fun q2 z7 e7 z8 e8 => ⟨fun q3 z9 e9 => ?_, fun q3 z9 e9 => ?_⟩⟩⟩
    · have mc := (mean_c i5 i6 (show G.1 0 = (k : Int) + 1 by omega) (by omega)).2
      rw [if_neg (by omega), if_neg (by omega), show x2 = 1 by omega, ← i7, e7, e6, jm, j3]
      exact mc
    · have mc := (mean_c i5 i6 (show G.1 0 = (k : Int) + 1 by omega) (by omega)).1
      rw [if_neg (by omega), if_neg (by omega), q2, ← i7, e6, j3]
      exact mc
    · rw [xrem_nn i5 (by omega) (by omega)] at e6
      have f7 := wr_d e7 (by omega) (by omega)
      refine ⟨rfl, rfl, i1, i2, i3, i4, i5, i6, i7, k + 1, by omega, by omega, ?_⟩
      rw [j3]
      exact (comF_n (fun u => q2 (e6.trans u.1)) j1).symm
    · rw [xrem_nn i5 (by omega) (by omega)] at e6
      rw [e7, jm, xrem_nn (by omega) (by omega) (by omega)] at e8
      have f9 := wr_d e9 (by omega) (by omega)
      refine ⟨rfl, rfl, i1, i2, i3, i4, i5, i6, i7, k + 1, by omega, by omega, ?_⟩
      rw [j3]
      exact (comF_n (fun u => q3 (e8.trans u.2)) j1).symm
    · rw [xrem_nn i5 (by omega) (by omega)] at e6
      rw [e7, jm, xrem_nn (by omega) (by omega) (by omega)] at e8
      have f9 := wr_d e9 (by omega) (by omega)
      refine ⟨rfl, rfl, i1, i2, i3, i4, i5, i6, i7, k + 1, by omega, by omega, ?_⟩
      exact (comF_y (e6.symm.trans q2) (e8.symm.trans q3) j1).symm
theorem ra_mean (hs : fS 240 [271, x, y] h v h') (M : MJ G h) (W : GW G) : v = if x < 0 ∨ 4 < x then wl (4000000000000000000 - (-1)) else if y < 0 ∨ 1 < y then wl (4000000000000000000 - (-2)) else meF (sumF (fun p => G.1 (38 + 5 * p + x)) (G.1 0).toNat) (G.1 0) y := by
  have hB := W.1.1.1
  have hD := W.1.2
  refine vr_mean hs (fun x0 x1 x2 x4 x6 q => x0 = 271 ∧ x1 = x ∧ x2 = y ∧ MJ G q ∧ 0 ≤ x ∧ x ≤ 4 ∧ 0 ≤ y ∧ y ≤ 1 ∧ ∃ k : Nat, x6 = (k : Int) ∧ (k : Int) ≤ G.1 0 ∧ x4 = sumF (fun p => G.1 (38 + 5 * p + x)) k) (fun v _ => v = if x < 0 ∨ 4 < x then wl (4000000000000000000 - (-1)) else if y < 0 ∨ 1 < y then wl (4000000000000000000 - (-2)) else meF (sumF (fun p => G.1 (38 + 5 * p + x)) (G.1 0).toNat) (G.1 0) y) ?_ ?_
  · intro k1 ek1
    have M1 : MJ G k1 := by
      rw [ek1]
      exact M.up (by omega)
    have jm : k1 271 0 = G.1 0 := M1.1.many
    have jd : k1 271 15 = G.1 1 := M1.1.day
    have jo : k1 271 9 = G.1 2 := M1.1.opn
    refine fun z3 e3 => ⟨fun q1 => (have r1 := xl_lt e3 q1; fun _ _ _ _ _ _ _ ek _ el => (el.trans (by rw [if_pos (by omega)]))), fun q1 => (have r1 := xl_ge e3 q1; fun z4 e4 => ⟨fun q2 => (have r2 := xl_gt e4 q2; fun _ _ _ _ _ _ _ ek _ el => (el.trans (by rw [if_pos (by omega)]))), fun q2 => (have r2 := xl_le e4 q2; fun z5 e5 => ⟨fun q3 => (have r3 := xl_lt e5 q3; fun _ _ _ _ _ _ _ ek _ el => (el.trans (by rw [if_neg (by omega), if_pos (by omega)]))), fun q3 => (have r3 := xl_ge e5 q3; fun z6 e6 => ⟨fun q4 => (have r4 := xl_gt e6 q4; fun _ _ _ _ _ _ _ ek _ el => (el.trans (by rw [if_neg (by omega), if_pos (by omega)]))), fun q4 => (have r4 := xl_le e6 q4; ?_)⟩)⟩)⟩)⟩
    · exact ⟨rfl, rfl, rfl, M1, by omega, by omega, by omega, by omega, 0, rfl, by omega, rfl⟩
  · rintro x0 x1 x2 x4 x6 q ⟨rfl, rfl, rfl, i0, i1, i2, i3, i4, k, j1, j2, j3⟩ z5 e5
    have e5 := e5.trans i0.1.many
    have sb := sum_b (f := fun p => G.1 (38 + 5 * p + x1)) (c := 9) (k := k) (fun i u1 u2 => W.1.1.bel (p := i) (e := x1) u1 (by omega) i1 (by omega))
    refine ⟨fun q1 z6 e6 v1 k1 hs1 => ?_, fun q1 z6 e6 z7 e7 z8 e8 z9 e9 z10 e10 => ?_⟩
    · have e6 := e6.trans i0.1.many
      rw [e6] at hs1
      obtain ⟨-, r⟩ := sr_partOf hs1 (by omega) (by omega) (by omega) (by omega)
      rw [if_neg (by omega), if_neg (by omega), r, j3, toN (show G.1 0 = (k : Int) by omega)]
    · have f6 := wr_d e6 (by omega) (by omega)
      have f7 := wr_d e7 (by omega) (by omega)
      have r := i0.1.bel (i := z7) (by omega) (by omega)
      rw [show (38 : Int) + z7 = 38 + 5 * x6 + x1 by omega] at r
      have e8 := e8.trans r
      have t1 := W.1.1.bel (p := x6) (e := x1) (by omega) (by omega) i1 (by omega)
      rw [wl_id (by omega) (by omega)] at e9
      have f10 := wr_d e10 (by omega) (by omega)
      refine ⟨rfl, rfl, rfl, i0, i1, i2, i3, i4, k + 1, by omega, by omega, ?_⟩
      show z9 = sumF (fun p => G.1 (38 + 5 * p + x1)) k + G.1 (38 + 5 * (k : Int) + x1)
      rw [e9, j3, e8, j1]
theorem pq_mean : PJ 135 240 2 true := pj_ans ak_mean (fun {G as h h1 h2 v v2} hl hb W C M s1 s2 => by
  obtain ⟨x, y, rfl⟩ := as2 hl
  exact (ca_mean s1 C W).trans (ra_mean s2 M W).symm)
end AA
