/-! answers: wedWhen (made by a program) -/
section AA
variable {h h' : fH} {v x y z w : Int} {G : gS}
theorem fnd_b (g : gV) (p : Int) : ∀ f k : Nat, fndF g p f k = -9 ∨ (0 ≤ fndF g p f k ∧ fndF g p f k < ((k + f : Nat) : Int))
  | 0, k => Or.inl rfl
  | f + 1, k => by
    have := fnd_b g p f (k + 1)
    show (if dayN k g (7 + 5 * p) ≠ 0 then (k : Int) else fndF g p f (k + 1)) = -9 ∨ (0 ≤ (if dayN k g (7 + 5 * p) ≠ 0 then (k : Int) else fndF g p f (k + 1)) ∧ (if dayN k g (7 + 5 * p) ≠ 0 then (k : Int) else fndF g p f (k + 1)) < ((k + (f + 1) : Nat) : Int))
    split
    · omega
    · omega
theorem dw_b (g : gV) (p : Int) : dwF g p = -9 ∨ (0 ≤ dwF g p ∧ dwF g p ≤ 60) := by
  have := fnd_b g p 61 0
  unfold dwF
  omega
theorem dw_0 (g : gV) (p : Int) : dwF g p = 0 ↔ g (7 + 5 * p) ≠ 0 := by
  have e : dwF g p = if dayN 0 g (7 + 5 * p) ≠ 0 then ((0 : Nat) : Int) else fndF g p 60 1 := rfl
  by_cases h : g (7 + 5 * p) ≠ 0
  · rw [e, if_pos (show dayN 0 g (7 + 5 * p) ≠ 0 from h)]
    exact ⟨fun _ => h, fun _ => rfl⟩
  · rw [e, if_neg (show ¬ dayN 0 g (7 + 5 * p) ≠ 0 from h)]
    refine ⟨fun q => ?_, fun q => absurd q h⟩
    exfalso
    have f1 : ∀ f k : Nat, 1 ≤ k → fndF g p f k ≠ 0 := by
      intro f
      induction f with
      | zero => intro k _ q; exact absurd (show (-9 : Int) = 0 from q) (by decide)
      | succ f ih =>
        intro k hk q
        have q : (if dayN k g (7 + 5 * p) ≠ 0 then (k : Int) else fndF g p f (k + 1)) = 0 := q
        split at q
        · omega
        · exact ih (k + 1) (by omega) q
    exact f1 60 1 (by omega) q
theorem ff_b (g : gV) : ∀ k : Nat, 0 ≤ (ffF g k).2 ∧ (ffF g k).2 ≤ 61
  | 0 => ⟨by show (0 : Int) ≤ 61; omega, by show (61 : Int) ≤ 61; omega⟩
  | k + 1 => by
    have := ff_b g k
    have := dw_b g (k : Int)
    show 0 ≤ (if 0 < dwF g (k : Int) ∧ dwF g (k : Int) < (ffF g k).2 then ((k : Int), dwF g (k : Int)) else ffF g k).2 ∧ (if 0 < dwF g (k : Int) ∧ dwF g (k : Int) < (ffF g k).2 then ((k : Int), dwF g (k : Int)) else ffF g k).2 ≤ 61
    split
    · dsimp only
      omega
    · omega
theorem ca_firstToWed (hs : fS 104 [1] h v h') (C : CJ G h) (W : GW G) : v = (ffF G.1 (G.1 0).toNat).1 := by
  have hB := W.1.1.1
  have hD := W.1.2
  have jm : h 11 1 = G.1 0 := C.1.many
  refine vc_firstToWed hs (fun x0 x1 x2 x3 q => x0 = 1 ∧ q = h ∧ ∃ k : Nat, x3 = (k : Int) ∧ (k : Int) ≤ G.1 0 ∧ (x1, x2) = ffF G.1 k) (fun v _ => v = (ffF G.1 (G.1 0).toNat).1) ?_ ?_
  · exact ⟨rfl, rfl, 0, rfl, by omega, rfl⟩
  · rintro x0 x1 x2 x3 q ⟨rfl, rfl, k, j1, j2, j3⟩ z4 e4
    rw [jm] at e4
    refine ⟨fun q1 => ?_, fun q1 v1 k1 hs1 => ?_⟩
    · rw [toN (show G.1 0 = (k : Int) by omega), ← j3]
    · obtain ⟨r0, r⟩ := sc_dtw hs1 C.1 W.1.1 (by omega) (by omega) (by omega)
      have r := r.eq (by omega)
      have hs : ffF G.1 (k + 1) = if 0 < v1 ∧ v1 < x2 then (x3, v1) else (x1, x2) := by
        show (if 0 < dwF G.1 (k : Int) ∧ dwF G.1 (k : Int) < (ffF G.1 k).2 then ((k : Int), dwF G.1 (k : Int)) else ffF G.1 k) = _
        rw [← j3, ← j1, ← r]
      refine ⟨fun q2 z6 e6 => ?_, fun q2 => ⟨fun q3 z6 e6 => ?_, fun q3 z6 e6 => ?_⟩⟩
      · have f6 := wr_d e6 (by omega) (by omega)
        refine ⟨rfl, r0, k + 1, by omega, by omega, ?_⟩
        rw [hs, if_neg (by omega)]
      · have f6 := wr_d e6 (by omega) (by omega)
        refine ⟨rfl, r0, k + 1, by omega, by omega, ?_⟩
        rw [hs, if_neg (by omega)]
      · have f6 := wr_d e6 (by omega) (by omega)
        refine ⟨rfl, r0, k + 1, by omega, by omega, ?_⟩
        rw [hs, if_pos (by omega)]
theorem ca_wedWhen (hs : fS 103 [1, x] h v h') (C : CJ G h) (W : GW G) : v = if x < -1 ∨ G.1 0 ≤ x then -1 else if x = -1 then (ffF G.1 (G.1 0).toNat).1 else dwF G.1 x := by
  have jm : h 11 1 = G.1 0 := C.1.many
  have jd : h 11 15 = G.1 1 := C.1.day
  have jo : h 11 14 = G.1 2 := C.1.opn
  have hB := W.1.1.1
  have hD := W.1.2
  refine vc_wedWhen hs (fun v _ => v = if x < -1 ∨ G.1 0 ≤ x then -1 else if x = -1 then (ffF G.1 (G.1 0).toNat).1 else dwF G.1 x) ?_
  · refine ⟨fun q1 => ⟨fun q2 => fun _ _ _ _ _ _ _ ek => (by rw [if_pos (by omega)]), fun q2 => fun z2 e2 => ⟨fun q3 => fun _ _ _ _ _ _ _ ek => (by rw [if_pos (by omega)]), fun q3 => fun v1 k1 hs1 => ?_⟩⟩, fun q1 => fun v1 k1 hs1 => ?_⟩
    · obtain ⟨-, r⟩ := sc_dtw hs1 C.1 W.1.1 (by omega) (by omega) (by omega)
      rw [if_neg (by omega), if_neg (by omega)]
      exact r.eq (by omega)
    · have r := ca_firstToWed hs1 C W
      rw [if_neg (by omega), if_pos (by omega)]
      exact r
theorem ra_wedWhen (hs : fS 205 [271, x] h v h') (M : MJ G h) (W : GW G) : v = if x < -1 ∨ G.1 0 ≤ x then -1 else if x = -1 then (ffF G.1 (G.1 0).toNat).1 else dwF G.1 x := by
  have hB := W.1.1.1
  have hD := W.1.2
  refine vr_wedWhen hs (fun x0 x2 x3 x4 q => x0 = 271 ∧ x = -1 ∧ RM q G.1 ∧ ∃ k : Nat, x4 = (k : Int) ∧ (k : Int) ≤ G.1 0 ∧ (x2, x3) = ffF G.1 k) (fun v _ => v = if x < -1 ∨ G.1 0 ≤ x then -1 else if x = -1 then (ffF G.1 (G.1 0).toNat).1 else dwF G.1 x) ?_ ?_
  · intro k1 ek1
    have M1 : MJ G k1 := by
      rw [ek1]
      exact M.up (by omega)
    have jm : k1 271 0 = G.1 0 := M1.1.many
    have jd : k1 271 15 = G.1 1 := M1.1.day
    have jo : k1 271 9 = G.1 2 := M1.1.opn
    refine fun z2 e2 => fun z3 e3 => (have f3 := wr_d e3 (by omega) (by omega); fun z4 e4 => ⟨fun q1 => (have r1 := xl_lt e4 q1; fun _ _ _ _ _ _ _ ek => (by rw [if_pos (by omega)])), fun q1 => (have r1 := xl_ge e4 q1; fun z5 e5 => ⟨fun q2 => (have r2 := xl_gt e5 q2; fun _ _ _ _ _ _ _ ek => (by rw [if_pos (by omega)])), fun q2 => (have r2 := xl_le e5 q2; ⟨fun q3 => ?_, fun q3 => fun v2 k2 hs2 => ⟨fun q4 => ?_, fun q4 => ?_⟩⟩)⟩)⟩)
    · exact ⟨rfl, by omega, M1.1, 0, rfl, by omega, rfl⟩
    · obtain ⟨r, -⟩ := sr_wedSoon hs2 M1.1 W.1.1 (by omega) (by omega) (by omega)
      rw [if_neg (by omega), if_neg (by omega)]
      by_cases hq : dwF G.1 x = -9
      · rw [if_pos hq] at r
        omega
      · rw [if_neg hq] at r
        exact r
    · obtain ⟨r, -⟩ := sr_wedSoon hs2 M1.1 W.1.1 (by omega) (by omega) (by omega)
      have db := dw_b G.1 x
      rw [if_neg (by omega), if_neg (by omega)]
      by_cases hq : dwF G.1 x = -9
      · exact hq.symm
      · rw [if_neg hq] at r
        omega
  · rintro x0 x2 x3 x4 q ⟨rfl, i1, i2, k, j1, j2, j3⟩ z4 e4
    have e4 := e4.trans i2.many
    have fb := ff_b G.1 k
    rw [← j3] at fb
    dsimp only at fb
    have hs : ∀ {d : Int}, dwF G.1 x4 = d → ffF G.1 (k + 1) = if 0 < d ∧ d < x3 then (x4, d) else (x2, x3) := fun e => by
      show (if 0 < dwF G.1 (k : Int) ∧ dwF G.1 (k : Int) < (ffF G.1 k).2 then ((k : Int), dwF G.1 (k : Int)) else ffF G.1 k) = _
      rw [← j3, ← j1, e]
    refine ⟨fun q1 => ?_, fun q1 z5 e5 => ?_⟩
    · rw [if_neg (by omega), if_pos i1, toN (show G.1 0 = (k : Int) by omega), ← j3]
    · have e5 := e5.trans (i2.wed (p := x4) (by omega) (by omega))
      have wp := W.1.1.per (p := x4) (by omega) (by omega)
      have d0 := dw_0 G.1 x4
      have db := dw_b G.1 x4
      refine ⟨fun q2 v1 k1 hs1 => ?_, fun q2 => ?_⟩
      · obtain ⟨r, r0⟩ := sr_wedSoon hs1 i2 W.1.1 (by omega) (by omega) (by omega)
        have nz : dwF G.1 x4 ≠ 0 := fun q => d0.mp q (by omega)
        have kp : x3 ≤ v1 → ∀ {z7 : Int}, z7 = wr (x4 + 1) → (271 : Int) = 271 ∧ x = -1 ∧ RM k1 G.1 ∧ ∃ k : Nat, z7 = (k : Int) ∧ (k : Int) ≤ G.1 0 ∧ (x2, x3) = ffF G.1 k := fun q3 {z7} e7 => by
          have f7 := wr_d e7 (by omega) (by omega)
          refine ⟨rfl, i1, r0, k + 1, by omega, by omega, ?_⟩
          rw [hs rfl]
          by_cases hq : dwF G.1 x4 = -9
          · rw [if_neg (by omega)]
          · rw [if_neg hq] at r
            rw [if_neg (by omega)]
        have up : v1 < x3 → ∀ {z7 : Int}, z7 = wr (x4 + 1) → (271 : Int) = 271 ∧ x = -1 ∧ RM k1 G.1 ∧ ∃ k : Nat, z7 = (k : Int) ∧ (k : Int) ≤ G.1 0 ∧ (x4, v1) = ffF G.1 k := fun q3 {z7} e7 => by
          have f7 := wr_d e7 (by omega) (by omega)
          refine ⟨rfl, i1, r0, k + 1, by omega, by omega, ?_⟩
          by_cases hq : dwF G.1 x4 = -9
          · rw [if_pos hq] at r
            omega
          · rw [if_neg hq] at r
            rw [hs r.symm, if_pos (by omega)]
        exact ⟨fun q3 => ⟨fun _ z7 e7 => kp q3 e7, fun q4 => absurd q3 (by omega)⟩, fun q3 => ⟨fun q4 => absurd q3 (by omega), fun _ z7 e7 => up q3 e7⟩⟩
      · have zz : dwF G.1 x4 = 0 := d0.mpr (by omega)
        refine ⟨fun q3 => ⟨fun _ z6 e6 => ?_, fun q4 => by omega⟩, fun q3 => by omega⟩
        have f6 := wr_d e6 (by omega) (by omega)
        refine ⟨rfl, i1, i2, k + 1, by omega, by omega, ?_⟩
        rw [hs zz, if_neg (by omega)]
theorem pq_wedWhen : PJ 103 205 1 true := pj_ans ak_wedWhen (fun {G as h h1 h2 v v2} hl hb W C M s1 s2 => by
  obtain ⟨x, rfl⟩ := as1 hl
  exact (ca_wedWhen s1 C W).trans (ra_wedWhen s2 M W).symm)
end AA
