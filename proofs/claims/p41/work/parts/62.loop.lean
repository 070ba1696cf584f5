/-! feed, the law's loop, its switch, its start -/
def l_an (n : Int) (j : Nat) (p : Int) : Int := match j with
  | 0 => p
  | _ => n + p
theorem l_fd {c : tCon} {key i j : Nat} {n p q lo hi : Int} {z : Int32} {cs cs' : zz_W} {v : Option Value} (hj : j = 0 ∨ j = 2) (hPre : c.2.2.1 = [(key, lo, hi)]) (hO : c.2.2.2.2.2.1 = [(some (.inl (j, p, p)), [(key, .inl (2, q, q))])]) (hn : t_inP cs [(key, n, n)]) (hP : t_Pst c (t_r0 c [.ref i, .int z] cs) cs v cs') : (∃ w : Int32, v = some (.int w) ∧ w.toInt = l_an n j p) ∧ t_inP cs' [(key, n + q, n + q)] := by
  obtain ⟨-, -, ⟨a, h1, h2, h3⟩, -⟩ := hP
  rw [hO] at h1
  have h1 : a = (some (.inl (j, p, p)), [(key, .inl (2, q, q))]) := by simpa using h1
  subst h1
  obtain ⟨-, x, hx, hx1, hx2⟩ := hn _ List.mem_cons_self
  have hpv : t_pv cs key = n := by
    rw [t_pv_of hx]
    dsimp only at hx1 hx2
    omega
  have e0 : t_r0 c [.ref i, .int z] cs = [z.toInt, n] := by
    unfold t_r0 t_pvs
    rw [hPre]
    show [z.toInt] ++ [t_pv cs key] = _
    rw [hpv]
    rfl
  rw [e0] at h2 h3
  refine ⟨?_, ?_⟩
  · obtain ⟨u, rfl, w, rfl, y, hy, g1, g2⟩ := h2
    refine ⟨w, rfl, ?_⟩
    dsimp only at hy g1 g2
    rcases hj with rfl | rfl
    · cases hy
      show w.toInt = p
      omega
    · cases hy
      show w.toInt = n + p
      omega
  · obtain ⟨s1, u, s2, w, rfl, y, hy, g1, g2⟩ := h3 _ List.mem_cons_self
    dsimp only at s1 s2 hy g1 g2
    cases hy
    intro r hr
    have hr : r = (key, n + q, n + q) := by simpa using hr
    subst hr
    exact ⟨s1, w, s2, g1, g2⟩
section LS1
variable {a b lo hi p q n m : Int} {j : Nat} {c : tCon} {z : Int32} {cs : zz_W}
theorem l_fin {r i : Nat} {A : List ta} (hA : A = [.inr (.inr (.inl r)), .inl (0, a, b)]) (hi : t_rl[i]? = some r) (hz : a ≤ z.toInt ∧ z.toInt ≤ b) : t_inA A [.ref i, .int z] := by
  subst hA
  exact ⟨⟨i, rfl, hi⟩, ⟨z, rfl, hz.1, hz.2⟩, trivial⟩
theorem l_fx (hk : t_Con c) (h0 : c.1 = 127) (hA : c.2.1 = [.inr (.inr (.inl 0)), .inl (0, a, b)]) (hPre : c.2.2.1 = [(l_kL, lo, hi)]) (hO : c.2.2.2.2.2.1 = [(some (.inl (j, p, p)), [(l_kL, .inl (2, q, q))])]) (hf : l_fst [(l_kL, lo, hi)] c = true) (hM : t_keep c.2.2.2.2.1 l_kM = true) (hj : j = 0 ∨ j = 2) (hz : a ≤ z.toInt ∧ z.toInt ≤ b) (hn : lo ≤ n ∧ n ≤ hi) (hJ : l_J n m cs) : tr_run zm_127 (0, zz_ent zm_127.2.2.1 [.ref 1, .int z], [], cs, 0, 0) (fun v cs' => (∃ w : Int32, v = some (.int w) ∧ w.toInt = l_an n j p) ∧ l_J (n + q) m cs') := by
  refine tr_mono (l_stay hk (X := [(l_kL, lo, hi)]) hf (by rw [h0]; rfl) hJ.1 (l_fX hJ.2.1 hn) (l_fin hA (by decide +kernel) hz)) ?_
  rintro v cs' ⟨h1, h2⟩
  obtain ⟨h3, h4⟩ := l_fd hj hPre hO hJ.2.1 h2
  exact ⟨h3, h1, h4, l_kone hM hJ.ty h2.2.1 hJ.2.2⟩
theorem l_fm (hk : t_Con c) (h0 : c.1 = 247) (hA : c.2.1 = [.inr (.inr (.inl 77)), .inl (0, a, b)]) (hPre : c.2.2.1 = [(l_kM, lo, hi)]) (hO : c.2.2.2.2.2.1 = [(some (.inl (j, p, p)), [(l_kM, .inl (2, q, q))])]) (hf : l_fst [(l_kM, lo, hi)] c = true) (hM : t_keep c.2.2.2.2.1 l_kL = true) (hj : j = 0 ∨ j = 2) (hz : a ≤ z.toInt ∧ z.toInt ≤ b) (hn : lo ≤ m ∧ m ≤ hi) (hJ : l_J n m cs) : tr_run zm_247 (0, zz_ent zm_247.2.2.1 [.ref 271, .int z], [], cs, 0, 0) (fun v cs' => (∃ w : Int32, v = some (.int w) ∧ w.toInt = l_an m j p) ∧ l_J n (m + q) cs') := by
  refine tr_mono (l_stay hk (X := [(l_kM, lo, hi)]) hf (by rw [h0]; rfl) hJ.1 (l_fX hJ.2.2 hn) (l_fin hA (by decide +kernel) hz)) ?_
  rintro v cs' ⟨h1, h2⟩
  obtain ⟨h3, h4⟩ := l_fd hj hPre hO hJ.2.2 h2
  exact ⟨h3, h1, l_kone hM hJ.ty h2.2.1 hJ.2.1, h4⟩
end LS1
section LS2
variable {g : zz_G} {p : Program} {l : Launch} {e : Env} {s : State} {m : MethodId} {below : List Frame} {meth : Method} {c : Code} {b L0 : Nat} {xs : Nat → Int32} {cu su : Nat} {cs : zz_W} {i : Int32}
theorem lw_f0 (X : zz_X g p room_1 s m meth c zz_law) (hX : va_X b L0 xs s s.heap) (hg : g.2.1 = b ∧ b ≤ g.1) (hB : cu ≤ 600000 ∧ su ≤ 7302250) (hi : 0 ≤ i.toInt ∧ i.toInt + 6 ≤ (L0 : Int) ∧ L0 ≤ 3072) {n n' r : Int} (hJ : l_J n n cs) (h1 : tr_run zm_127 (0, zz_ent zm_127.2.2.1 [.ref 1, .int (lw_x xs i 1)], [], cs, 0, 0) (fun v cs' => (∃ w : Int32, v = some (.int w) ∧ w.toInt = r) ∧ l_J n' n cs')) (h2 : ∀ cs', l_J n' n cs' → tr_run zm_247 (0, zz_ent zm_247.2.2.1 [.ref 271, .int (lw_x xs i 1)], [], cs', 0, 0) (fun v cs' => (∃ w : Int32, v = some (.int w) ∧ w.toInt = r) ∧ l_J n' n' cs')) (out : ∀ cs', l_J n' n' cs' → zz_LZ g p l e s m below meth c b 1536 (lw_L i) [] cs' cu su) : zz_LZ g p l e s m below meth c b 1395 (lw_L i) [] cs cu su := lw_two X hX hg hB hi (q := 1395) (jc := 127) (jm := 247) (js := [1]) (lg := false) (n' := n') (by decide +kernel) (mc := zm_127) (mm := zm_247) rfl rfl (by decide +kernel) (by decide +kernel) hJ (tr_mono h1 (fun v cs' h => ⟨⟨_, h.1.choose_spec.1⟩, h.2⟩)) (fun cs' hJ' => tr_mono (h2 cs' hJ') (fun v cs' h => ⟨⟨_, h.1.choose_spec.1⟩, h.2⟩)) out
theorem lw_c37 (X : zz_X g p room_1 s m meth c zz_law) (hX : va_X b L0 xs s s.heap) (hg : g.2.1 = b ∧ b ≤ g.1) (hB : cu ≤ 600000 ∧ su ≤ 7302250) (hi : 0 ≤ i.toInt ∧ i.toInt + 6 ≤ (L0 : Int) ∧ L0 ≤ 3072) (hJ : l_JJ cs) (out : ∀ cs', l_JJ cs' → zz_LZ g p l e s m below meth c b 1536 (lw_L i) [] cs' cu su) : zz_LZ g p l e s m below meth c b 1395 (lw_L i) [] cs cu su := by
  obtain ⟨n, hn1, hn2, hJ⟩ := hJ
  have hz1 := (lw_x xs i 1).le_toInt
  have hz2 := (lw_x xs i 1).toInt_lt
  by_cases h1 : (lw_x xs i 1).toInt < 0
  · have hz : Int.negSucc 2147483647 ≤ (lw_x xs i 1).toInt ∧ (lw_x xs i 1).toInt ≤ Int.negSucc 0 := ⟨by rw [Int.negSucc_eq]; omega, by rw [Int.negSucc_eq]; omega⟩
    exact lw_f0 X hX hg hB hi (n := n) (n' := n + .ofNat 0) (r := l_an n 0 (.negSucc 3)) hJ (l_fx k_256 rfl rfl rfl rfl (by decide +kernel) (by decide +kernel) (Or.inl rfl) hz ⟨hn1, hn2⟩ hJ) (fun cs' hJ' => l_fm k_260 rfl rfl rfl rfl (by decide +kernel) (by decide +kernel) (Or.inl rfl) hz ⟨hn1, hn2⟩ hJ') (fun cs' hJ' => out cs' ⟨_, by show 0 ≤ n + 0; omega, by show n + 0 ≤ 12; omega, hJ'⟩)
  · by_cases h2 : 99 < (lw_x xs i 1).toInt
    · have hz : Int.ofNat 100 ≤ (lw_x xs i 1).toInt ∧ (lw_x xs i 1).toInt ≤ Int.ofNat 2147483647 := ⟨by rw [Int.ofNat_eq_natCast]; omega, by rw [Int.ofNat_eq_natCast]; omega⟩
      exact lw_f0 X hX hg hB hi (n := n) (n' := n + .ofNat 0) (r := l_an n 0 (.negSucc 5)) hJ (l_fx k_257 rfl rfl rfl rfl (by decide +kernel) (by decide +kernel) (Or.inl rfl) hz ⟨hn1, hn2⟩ hJ) (fun cs' hJ' => l_fm k_261 rfl rfl rfl rfl (by decide +kernel) (by decide +kernel) (Or.inl rfl) hz ⟨hn1, hn2⟩ hJ') (fun cs' hJ' => out cs' ⟨_, by show 0 ≤ n + 0; omega, by show n + 0 ≤ 12; omega, hJ'⟩)
    · have hz : Int.ofNat 0 ≤ (lw_x xs i 1).toInt ∧ (lw_x xs i 1).toInt ≤ Int.ofNat 99 := ⟨by rw [Int.ofNat_eq_natCast]; omega, by rw [Int.ofNat_eq_natCast]; omega⟩
      by_cases h3 : n = 12
      · have hn : Int.ofNat 12 ≤ n ∧ n ≤ Int.ofNat 12 := ⟨by rw [Int.ofNat_eq_natCast]; omega, by rw [Int.ofNat_eq_natCast]; omega⟩
        exact lw_f0 X hX hg hB hi (n := n) (n' := n + .ofNat 0) (r := l_an n 0 (.negSucc 5)) hJ (l_fx k_258 rfl rfl rfl rfl (by decide +kernel) (by decide +kernel) (Or.inl rfl) hz hn hJ) (fun cs' hJ' => l_fm k_262 rfl rfl rfl rfl (by decide +kernel) (by decide +kernel) (Or.inl rfl) hz hn hJ') (fun cs' hJ' => out cs' ⟨_, by show 0 ≤ n + 0; omega, by show n + 0 ≤ 12; omega, hJ'⟩)
      · have hn : Int.ofNat 0 ≤ n ∧ n ≤ Int.ofNat 11 := ⟨by rw [Int.ofNat_eq_natCast]; omega, by rw [Int.ofNat_eq_natCast]; omega⟩
        exact lw_f0 X hX hg hB hi (n := n) (n' := n + .ofNat 1) (r := l_an n 2 (.ofNat 1)) hJ (l_fx k_259 rfl rfl rfl rfl (by decide +kernel) (by decide +kernel) (Or.inr rfl) hz hn hJ) (fun cs' hJ' => l_fm k_263 rfl rfl rfl rfl (by decide +kernel) (by decide +kernel) (Or.inr rfl) hz hn hJ') (fun cs' hJ' => out cs' ⟨_, by show 0 ≤ n + 1; omega, by show n + 1 ≤ 12; omega, hJ'⟩)
theorem l_fd1 {c : tCon} {key i : Nat} {n lo hi : Int} {cs cs' : zz_W} {v : Option Value} (hPre : c.2.2.1 = [(key, lo, hi)]) (hO : ∀ a ∈ c.2.2.2.2.2.1, a.1 = some (.inl (1, .ofNat 0, .ofNat 0))) (hn : t_inP cs [(key, n, n)]) (hP : t_Pst c (t_r0 c [.ref i] cs) cs v cs') : ∃ w : Int32, v = some (.int w) ∧ w.toInt = n := by
  obtain ⟨-, -, ⟨a, h1, h2, h3⟩, -⟩ := hP
  rw [hO a h1] at h2
  obtain ⟨-, x, hx, hx1, hx2⟩ := hn _ List.mem_cons_self
  have hpv : t_pv cs key = n := by
    rw [t_pv_of hx]
    dsimp only at hx1 hx2
    omega
  have e0 : t_r0 c [.ref i] cs = [n] := by
    unfold t_r0 t_pvs
    rw [hPre]
    show [] ++ [t_pv cs key] = _
    rw [hpv]
    rfl
  rw [e0] at h2
  obtain ⟨u, rfl, w, rfl, y, hy, g1, g2⟩ := h2
  dsimp only at hy g1 g2
  cases hy
  refine ⟨w, rfl, ?_⟩
  have g1 : n + 0 ≤ w.toInt := g1
  have g2 : w.toInt ≤ n + 0 := g2
  omega
theorem lw_c39 (X : zz_X g p room_1 s m meth c zz_law) (hX : va_X b L0 xs s s.heap) (hg : g.2.1 = b ∧ b ≤ g.1) (hB : cu ≤ 600000 ∧ su ≤ 7302250) (hi : 0 ≤ i.toInt ∧ i.toInt + 6 ≤ (L0 : Int) ∧ L0 ≤ 3072) (hJ : l_JJ cs) (out : ∀ cs', l_JJ cs' → zz_LZ g p l e s m below meth c b 1536 (lw_L i) [] cs' cu su) : zz_LZ g p l e s m below meth c b 1431 (lw_L i) [] cs cu su := by
  obtain ⟨n, hn1, hn2, hJ⟩ := hJ
  have none1 : ∀ u ∈ ([] : List Value), ∃ z : Int32, u = .int z := fun u hu => by cases hu
  have h1 : tr_run zm_128 (0, zz_ent zm_128.2.2.1 [.ref 1], [], cs, 0, 0) (fun v cs' => (∃ w : Int32, v = some (.int w) ∧ w.toInt = n) ∧ l_J 0 n cs') := by
    refine tr_mono (l_stay k_266 (X := [(l_kL, .ofNat 0, .ofNat 12)]) (by decide +kernel) rfl hJ.1 (l_fX hJ.2.1 ⟨hn1, hn2⟩) (l_ar_ok (k := 0) rfl (by decide +kernel) rfl none1)) ?_
    rintro v cs' ⟨h1, h2⟩
    exact ⟨l_fd1 rfl (by decide +kernel) hJ.2.1 h2, h1, l_zero (by decide +kernel) h2, l_kone (by decide +kernel) hJ.ty h2.2.1 hJ.2.2⟩
  refine lw_st X hB (ins := .aload_n 1) (by decide +kernel) rfl ?_
  refine lw_call (k := 128) (ci := 0) (i := 1) (mj := zm_128) (us := []) (rest := []) X hB (by decide +kernel) rfl (by decide +kernel) none1 (l_c1 hJ.ty) (Nat.zero_le _) h1 ?_
  rintro v cs1 ⟨⟨w, rfl, hw⟩, hJ1⟩
  have h2 : tr_run zm_249 (0, zz_ent zm_249.2.2.1 [.ref 271], [], cs1, 0, 0) (fun v cs' => (∃ w : Int32, v = some (.int w) ∧ w.toInt = n) ∧ l_J 0 0 cs') := by
    refine tr_mono (l_stay k_267 (X := [(l_kM, .ofNat 0, .ofNat 12)]) (by decide +kernel) rfl hJ1.1 (l_fX hJ1.2.2 ⟨hn1, hn2⟩) (l_ar_ok (k := 0) rfl (by decide +kernel) rfl none1)) ?_
    rintro v cs' ⟨h1, h2⟩
    exact ⟨l_fd1 rfl (by decide +kernel) hJ1.2.2 h2, h1, l_kone (by decide +kernel) hJ1.ty h2.2.1 hJ1.2.1, l_zero (by decide +kernel) h2⟩
  refine lw_st X hB (ins := .aload_n 2) (by decide +kernel) rfl ?_
  refine lw_call (k := 249) (ci := 12) (i := 271) (mj := zm_249) (us := []) (rest := [.int w]) X hB (by decide +kernel) rfl (by decide +kernel) none1 (l_c2 hJ1.ty) (by show 1 ≤ 8; omega) h2 ?_
  rintro v2 cs2 ⟨⟨w2, rfl, hw2⟩, hJ2⟩
  have hww : w = w2 := Int32.toInt_inj.mp (by rw [hw, hw2])
  subst hww
  refine lw_st X hB (ins := .if_icmp .eq 97) (pc' := 1536) (L' := lw_L i) (st' := []) (by decide +kernel) ?_ (out cs2 ⟨0, Int.le_refl _, by decide, hJ2⟩)
  show zz_da (.if_icmp .eq 97) 1439 (lw_L i) [.int w, .int w] = _
  simp only [zz_da, zz_ic]
  rw [decide_eq_true trivial]
  rfl
def lw_offs : Array Int := #[191, 214, 227, 260, 293, 326, 359, 392, 425, 468, 511, 574, 597, 610, 653, 696, 719, 742, 775, 808, 851, 874, 897, 920, 943, 966, 999, 1032, 1065, 1108, 1161, 1194, 1217, 1240, 1273, 1296, 1319, 1362, 1385, 1398, 1411, 1454, 1467, 1480]
theorem lw_tsw {x : Int32} {L : List (Option Value)} {r : List Value} {k : Nat} (hc : ¬ (x.toInt < 0 ∨ 43 < x.toInt)) (hk : (x.toInt - 0).toNat = k) : zz_da (.tableswitch 1503 0 43 lw_offs) 33 L (.int x :: r) = match lw_offs[k]? with
    | some off => zz_go L r (zz_tg 33 off)
    | none => none := by
  simp only [zz_da]
  rw [if_neg hc, hk]
  rfl
set_option maxRecDepth 100000 in
theorem lw_sw (X : zz_X g p room_1 s m meth c zz_law) (hX : va_X b L0 xs s s.heap) (hg : g.2.1 = b ∧ b ≤ g.1) (hB : cu ≤ 600000 ∧ su ≤ 7302250) (hi : 0 ≤ i.toInt ∧ i.toInt + 6 ≤ (L0 : Int) ∧ L0 ≤ 3072) (hJ : l_JJ cs) (out : ∀ cs', l_JJ cs' → zz_LZ g p l e s m below meth c b 1536 (lw_L i) [] cs' cu su) {x : Int32} : zz_LZ g p l e s m below meth c b 33 (lw_L i) [.int x] cs cu su := by
  have hsw : lw_is 33 (.tableswitch 1503 0 43 lw_offs) = true := by decide +kernel
  by_cases hc : x.toInt < 0 ∨ 43 < x.toInt
  · refine lw_st X hB hsw (pc' := 1536) (L' := lw_L i) (st' := []) ?_ (out cs hJ)
    simp only [zz_da]
    rw [if_pos hc]
    rfl
  · obtain ⟨k, hk⟩ : ∃ k, (x.toInt - 0).toNat = k := ⟨_, rfl⟩
    have hk2 : k < 44 := by omega
    have hd := lw_tsw (L := lw_L i) (r := []) hc hk
    match k, hk2, hd with
    | 0, _, hd => exact lw_st X hB hsw (pc' := 224) (L' := lw_L i) (st' := []) (hd.trans rfl) (lw_c0 X hX hg hB hi hJ out)
    | 1, _, hd => exact lw_st X hB hsw (pc' := 247) (L' := lw_L i) (st' := []) (hd.trans rfl) (lw_c1 X hX hg hB hi hJ out)
    | 2, _, hd => exact lw_st X hB hsw (pc' := 260) (L' := lw_L i) (st' := []) (hd.trans rfl) (lw_c2 X hX hg hB hi hJ out)
    | 3, _, hd => exact lw_st X hB hsw (pc' := 293) (L' := lw_L i) (st' := []) (hd.trans rfl) (lw_c3 X hX hg hB hi hJ out)
    | 4, _, hd => exact lw_st X hB hsw (pc' := 326) (L' := lw_L i) (st' := []) (hd.trans rfl) (lw_c4 X hX hg hB hi hJ out)
    | 5, _, hd => exact lw_st X hB hsw (pc' := 359) (L' := lw_L i) (st' := []) (hd.trans rfl) (lw_c5 X hX hg hB hi hJ out)
    | 6, _, hd => exact lw_st X hB hsw (pc' := 392) (L' := lw_L i) (st' := []) (hd.trans rfl) (lw_c6 X hX hg hB hi hJ out)
    | 7, _, hd => exact lw_st X hB hsw (pc' := 425) (L' := lw_L i) (st' := []) (hd.trans rfl) (lw_c7 X hX hg hB hi hJ out)
    | 8, _, hd => exact lw_st X hB hsw (pc' := 458) (L' := lw_L i) (st' := []) (hd.trans rfl) (lw_c8 X hX hg hB hi hJ out)
    | 9, _, hd => exact lw_st X hB hsw (pc' := 501) (L' := lw_L i) (st' := []) (hd.trans rfl) (lw_c9 X hX hg hB hi hJ out)
    | 10, _, hd => exact lw_st X hB hsw (pc' := 544) (L' := lw_L i) (st' := []) (hd.trans rfl) (lw_c10 X hX hg hB hi hJ out)
    | 11, _, hd => exact lw_st X hB hsw (pc' := 607) (L' := lw_L i) (st' := []) (hd.trans rfl) (lw_c11 X hX hg hB hi hJ out)
    | 12, _, hd => exact lw_st X hB hsw (pc' := 630) (L' := lw_L i) (st' := []) (hd.trans rfl) (lw_c12 X hX hg hB hi hJ out)
    | 13, _, hd => exact lw_st X hB hsw (pc' := 643) (L' := lw_L i) (st' := []) (hd.trans rfl) (lw_c13 X hX hg hB hi hJ out)
    | 14, _, hd => exact lw_st X hB hsw (pc' := 686) (L' := lw_L i) (st' := []) (hd.trans rfl) (lw_c14 X hX hg hB hi hJ out)
    | 15, _, hd => exact lw_st X hB hsw (pc' := 729) (L' := lw_L i) (st' := []) (hd.trans rfl) (lw_c15 X hX hg hB hi hJ out)
    | 16, _, hd => exact lw_st X hB hsw (pc' := 752) (L' := lw_L i) (st' := []) (hd.trans rfl) (lw_c16 X hX hg hB hi hJ out)
    | 17, _, hd => exact lw_st X hB hsw (pc' := 775) (L' := lw_L i) (st' := []) (hd.trans rfl) (lw_c17 X hX hg hB hi hJ out)
    | 18, _, hd => exact lw_st X hB hsw (pc' := 808) (L' := lw_L i) (st' := []) (hd.trans rfl) (lw_c18 X hX hg hB hi hJ out)
    | 19, _, hd => exact lw_st X hB hsw (pc' := 841) (L' := lw_L i) (st' := []) (hd.trans rfl) (lw_c19 X hX hg hB hi hJ out)
    | 20, _, hd => exact lw_st X hB hsw (pc' := 884) (L' := lw_L i) (st' := []) (hd.trans rfl) (lw_c20 X hX hg hB hi hJ out)
    | 21, _, hd => exact lw_st X hB hsw (pc' := 907) (L' := lw_L i) (st' := []) (hd.trans rfl) (lw_c21 X hX hg hB hi hJ out)
    | 22, _, hd => exact lw_st X hB hsw (pc' := 930) (L' := lw_L i) (st' := []) (hd.trans rfl) (lw_c22 X hX hg hB hi hJ out)
    | 23, _, hd => exact lw_st X hB hsw (pc' := 953) (L' := lw_L i) (st' := []) (hd.trans rfl) (lw_c23 X hX hg hB hi hJ out)
    | 24, _, hd => exact lw_st X hB hsw (pc' := 976) (L' := lw_L i) (st' := []) (hd.trans rfl) (lw_c24 X hX hg hB hi hJ out)
    | 25, _, hd => exact lw_st X hB hsw (pc' := 999) (L' := lw_L i) (st' := []) (hd.trans rfl) (lw_c25 X hX hg hB hi hJ out)
    | 26, _, hd => exact lw_st X hB hsw (pc' := 1032) (L' := lw_L i) (st' := []) (hd.trans rfl) (lw_c26 X hX hg hB hi hJ out)
    | 27, _, hd => exact lw_st X hB hsw (pc' := 1065) (L' := lw_L i) (st' := []) (hd.trans rfl) (lw_c27 X hX hg hB hi hJ out)
    | 28, _, hd => exact lw_st X hB hsw (pc' := 1098) (L' := lw_L i) (st' := []) (hd.trans rfl) (lw_c28 X hX hg hB hi hJ out)
    | 29, _, hd => exact lw_st X hB hsw (pc' := 1141) (L' := lw_L i) (st' := []) (hd.trans rfl) (lw_c29 X hX hg hB hi hJ out)
    | 30, _, hd => exact lw_st X hB hsw (pc' := 1194) (L' := lw_L i) (st' := []) (hd.trans rfl) (lw_c30 X hX hg hB hi hJ out)
    | 31, _, hd => exact lw_st X hB hsw (pc' := 1227) (L' := lw_L i) (st' := []) (hd.trans rfl) (lw_c31 X hX hg hB hi hJ out)
    | 32, _, hd => exact lw_st X hB hsw (pc' := 1250) (L' := lw_L i) (st' := []) (hd.trans rfl) (lw_c32 X hX hg hB hi hJ out)
    | 33, _, hd => exact lw_st X hB hsw (pc' := 1273) (L' := lw_L i) (st' := []) (hd.trans rfl) (lw_c33 X hX hg hB hi hJ out)
    | 34, _, hd => exact lw_st X hB hsw (pc' := 1306) (L' := lw_L i) (st' := []) (hd.trans rfl) (lw_c34 X hX hg hB hi hJ out)
    | 35, _, hd => exact lw_st X hB hsw (pc' := 1329) (L' := lw_L i) (st' := []) (hd.trans rfl) (lw_c35 X hX hg hB hi hJ out)
    | 36, _, hd => exact lw_st X hB hsw (pc' := 1352) (L' := lw_L i) (st' := []) (hd.trans rfl) (lw_c36 X hX hg hB hi hJ out)
    | 37, _, hd => exact lw_st X hB hsw (pc' := 1395) (L' := lw_L i) (st' := []) (hd.trans rfl) (lw_c37 X hX hg hB hi hJ out)
    | 38, _, hd => exact lw_st X hB hsw (pc' := 1418) (L' := lw_L i) (st' := []) (hd.trans rfl) (lw_c38 X hX hg hB hi hJ out)
    | 39, _, hd => exact lw_st X hB hsw (pc' := 1431) (L' := lw_L i) (st' := []) (hd.trans rfl) (lw_c39 X hX hg hB hi hJ out)
    | 40, _, hd => exact lw_st X hB hsw (pc' := 1444) (L' := lw_L i) (st' := []) (hd.trans rfl) (lw_c40 X hX hg hB hi hJ out)
    | 41, _, hd => exact lw_st X hB hsw (pc' := 1487) (L' := lw_L i) (st' := []) (hd.trans rfl) (lw_c41 X hX hg hB hi hJ out)
    | 42, _, hd => exact lw_st X hB hsw (pc' := 1500) (L' := lw_L i) (st' := []) (hd.trans rfl) (lw_c42 X hX hg hB hi hJ out)
    | 43, _, hd => exact lw_st X hB hsw (pc' := 1513) (L' := lw_L i) (st' := []) (hd.trans rfl) (lw_c43 X hX hg hB hi hJ out)
    | n + 44, hk2, _ => exact absurd hk2 (by omega)
theorem lw_ret1 (X : zz_X g p room_1 s m meth c zz_law) (hr : meth.sig.returnType = ret) (hlk : meth.locks = false) (hsz : s.heap.size = g.1 + 1) (hB : cu ≤ 600000 ∧ su ≤ 7302250) : zz_LZ g p l e s m below meth c b 1542 (lw_L i) [] cs cu su := by
  refine lw_st X hB (ins := .iconst 1) (pc' := 1543) (L' := lw_L i) (st' := [.int 1]) (by decide +kernel) rfl ?_
  exact zz_lend X hr hlk hsz hB (lw_d1 (by decide +kernel) rfl)
theorem lw_cond (X : zz_X g p room_1 s m meth c zz_law) (hX : va_X b L0 xs s s.heap) (hg : g.2.1 = b ∧ b ≤ g.1) (hB : cu ≤ 600000 ∧ su ≤ 7302250) {t : Nat} (hb : zz_br (zz_ic .gt i (Int32.ofNat L0 - (Int8.ofInt 6).toInt32)) 24 1518 = some t) (kk : zz_LZ g p l e s m below meth c b t (lw_L i) [] cs cu su) : zz_LZ g p l e s m below meth c b 18 (lw_L i) [] cs cu su := by
  refine lw_st X hB (ins := .iload_n 3) (by decide +kernel) rfl ?_
  refine lw_st X hB (ins := .aload_n 0) (by decide +kernel) rfl ?_
  refine zz_slen X hX hg (lw_d1 (by decide +kernel) rfl) ?_
  refine lw_st X hB (ins := .bipush 6) (by decide +kernel) rfl ?_
  refine lw_st X hB (ins := .isub) (by decide +kernel) rfl ?_
  refine lw_st X hB (ins := .if_icmp .gt 1518) (pc' := t) (L' := lw_L i) (st' := []) (by decide +kernel) ?_ kk
  simp only [zz_da]
  rw [hb]
  rfl
theorem lw_loop (X : zz_X g p room_1 s m meth c zz_law) (hX : va_X b L0 xs s s.heap) (hL : L0 ≤ 3072) (hg : g.2.1 = b ∧ b ≤ g.1) (hr : meth.sig.returnType = ret) (hlk : meth.locks = false) (hsz : s.heap.size = g.1 + 1) (hB : cu ≤ 600000 ∧ su ≤ 7302250) : ∀ (k : Nat) (i : Int32) (cs : zz_W), 0 ≤ i.toInt → i.toInt ≤ (L0 : Int) → (L0 : Int) - i.toInt < 6 * (k : Int) → l_JJ cs → zz_LZ g p l e s m below meth c b 18 (lw_L i) [] cs cu su := by
  intro k
  induction k with
  | zero => intro i cs h1 h2 h3; exact absurd h3 (by omega)
  | succ k ih =>
    intro i cs h1 h2 h3 hJ
    have e1 : (Int32.ofNat L0 - (Int8.ofInt 6).toInt32).toInt = (L0 : Int) - 6 := by
      have e2 : (Int32.ofNat L0).toInt = (L0 : Int) := Int32.toInt_ofNat_of_lt (by omega)
      rw [Int32.toInt_sub, e2, show (Int8.ofInt 6).toInt32.toInt = 6 from by decide]
      exact Int.bmod_eq_of_le_mul_two (by omega) (by omega)
    by_cases h4 : (L0 : Int) - 6 < i.toInt
    · refine lw_cond X hX hg hB (t := 1542) ?_ (lw_ret1 X hr hlk hsz hB)
      rw [t_ic_rel, e1]
      show zz_br (decide ((L0 : Int) - 6 < i.toInt)) 24 1518 = _
      rw [decide_eq_true h4]
      rfl
    · refine lw_cond X hX hg hB (t := 27) ?_ ?_
      · rw [t_ic_rel, e1]
        show zz_br (decide ((L0 : Int) - 6 < i.toInt)) 24 1518 = _
        rw [decide_eq_false h4]
        rfl
      · refine lw_st X hB (ins := .aload_n 0) (by decide +kernel) rfl ?_
        refine lw_st X hB (ins := .iload_n 3) (by decide +kernel) rfl ?_
        refine zz_sld X hX hg (j := i) (v := xs i.toNatClampNeg) ?_ rfl (lw_d1 (by decide +kernel) rfl) ?_
        · unfold vp_in
          rintro (q | q)
          · rw [Int32.lt_iff_toInt_lt] at q
            have h0 : (0 : Int32).toInt = 0 := rfl
            omega
          · have h0 : ((i.toNatClampNeg : Nat) : Int) = i.toInt := by
              show ((i.toInt.toNat : Nat) : Int) = _
              rw [Int.toNat_of_nonneg h1]
            omega
        · refine lw_st X hB (ins := .bipush 63) (by decide +kernel) rfl ?_
          refine lw_st X hB (ins := .iand) (by decide +kernel) rfl ?_
          refine lw_sw X hX hg hB ⟨h1, by omega, hL⟩ hJ (fun cs' hJ' => ?_)
          refine lw_st X hB (ins := .iinc 3 6) (pc' := 1539) (L' := lw_L (i + Int32.ofInt 6)) (st' := []) (by decide +kernel) rfl ?_
          refine lw_st X hB (ins := .goto (-1521)) (pc' := 18) (L' := lw_L (i + Int32.ofInt 6)) (st' := []) (by decide +kernel) rfl ?_
          have e3 : (i + Int32.ofInt 6).toInt = i.toInt + 6 := by
            rw [Int32.toInt_add, show (Int32.ofInt 6).toInt = 6 from by decide]
            exact Int.bmod_eq_of_le_mul_two (by omega) (by omega)
          exact ih _ cs' (by omega) (by omega) (by omega) hJ'
end LS2
