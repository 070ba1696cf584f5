/-! the greatest divisor, by hand -/
theorem j_rem (v w : Int64) (hw : w ≠ 0) : (v - v / w * w).toInt.natAbs < w.toInt.natAbs := by
  have hw0 : w.toInt ≠ 0 := fun q => hw (Int64.toInt_inj.mp q)
  have h2 := Int.tmod_add_tdiv_mul v.toInt w.toInt
  have h7 := w.toInt_lt
  have h8 := w.le_toInt
  have h9 : (v.toInt.tmod w.toInt).natAbs < w.toInt.natAbs := by
    rw [Int.natAbs_tmod]
    exact Nat.mod_lt _ (by omega)
  have e : (v - v / w * w).toInt = v.toInt.tmod w.toInt := by
    rw [Int64.toInt_sub, Int64.toInt_mul, Int64.toInt_div, Int.bmod_mul_bmod, Int.sub_bmod_bmod, show v.toInt - v.toInt.tdiv w.toInt * w.toInt = v.toInt.tmod w.toInt by omega]
    exact Int.bmod_eq_of_le_mul_two (by omega) (by omega)
  rw [e]
  exact h9
noncomputable def j_L (a b x y : Int64) (o : Option Value) : List (Option Value) := [some (.long a), none, some (.long b), none, some (.long x), none, some (.long y), none, o, none]
theorem j_z (y : Int64) : zz_if .eq (lg_cmp y (Int64.ofNat (0 : Nat))) = decide (y = 0) := by
  rw [t_cmp_rel]
  show decide (y.toInt = (Int64.ofNat 0).toInt) = _
  exact decide_eq_decide.mpr ⟨fun q => Int64.toInt_inj.mp q, fun q => by rw [q]; rfl⟩
noncomputable def j_P (cs : zz_W) (v : Option Value) (cs' : zz_W) : Prop := cs' = cs ∧ ∃ z : Int64, v = some (.long z) ∧ z ≠ 0
theorem j_loop (cs : zz_W) (a b : Int64) : ∀ (m : Nat) (x y : Int64) (o : Option Value), y.toInt.natAbs < m → (x ≠ 0 ∨ y ≠ 0) → tr_run zm_232 (6, j_L a b x y o, [], cs, 0, 0) (j_P cs) := by
  intro m
  induction m with
  | zero => intro x y o h; exact absurd h (Nat.not_lt_zero _)
  | succ m ih =>
    intro x y o hm hxy
    refine tr_one (e := (6, .lload 6, 2, [], .null)) rfl (σ' := (8, j_L a b x y o, [.long y], cs, 0, 0)) rfl ?_
    refine tr_one (e := (8, .lconst 0, 1, [], .null)) rfl (σ' := (9, j_L a b x y o, [.long (Int64.ofNat (0 : Nat)), .long y], cs, 0, 0)) rfl ?_
    refine tr_one (e := (9, .lcmp, 1, [], .null)) rfl (σ' := (10, j_L a b x y o, [.int (lg_cmp y (Int64.ofNat (0 : Nat)))], cs, 0, 0)) rfl ?_
    by_cases hy : y = 0
    · refine tr_one (e := (10, .ifCond .eq 21, 3, [], .null)) rfl (σ' := (31, j_L a b x y o, [], cs, 0, 0)) ?_ ?_
      · simp only [zz_one, zz_da]
        rw [j_z, decide_eq_true hy]
        rfl
      · refine tr_one (e := (31, .lload 4, 2, [], .null)) rfl (σ' := (33, j_L a b x y o, [.long x], cs, 0, 0)) rfl ?_
        refine tr_ret (e := (33, .lreturn, 1, [], .null)) rfl rfl (v := some (.long x)) rfl ⟨rfl, x, rfl, ?_⟩
        rcases hxy with q | q
        · exact q
        · exact absurd hy q
    · refine tr_one (e := (10, .ifCond .eq 21, 3, [], .null)) rfl (σ' := (13, j_L a b x y o, [], cs, 0, 0)) ?_ ?_
      · simp only [zz_one, zz_da]
        rw [j_z, decide_eq_false hy]
        rfl
      · refine tr_one (e := (13, .lload 4, 2, [], .null)) rfl (σ' := (15, j_L a b x y o, [.long x], cs, 0, 0)) rfl ?_
        refine tr_one (e := (15, .lload 6, 2, [], .null)) rfl (σ' := (17, j_L a b x y o, [.long y, .long x], cs, 0, 0)) rfl ?_
        refine tr_one (e := (17, .lrem, 1, [], .null)) rfl (σ' := (18, j_L a b x y o, [.long (x - x / y * y)], cs, 0, 0)) ?_ ?_
        · simp only [zz_one, zz_da, zz_l2n]
          rw [if_neg hy]
        · have hr := j_rem x y hy
          generalize x - x / y * y = r at hr ⊢
          refine tr_one (e := (18, .lstore 8, 2, [], .null)) rfl (σ' := (20, j_L a b x y (some (.long r)), [], cs, 0, 0)) rfl ?_
          refine tr_one (e := (20, .lload 6, 2, [], .null)) rfl (σ' := (22, j_L a b x y (some (.long r)), [.long y], cs, 0, 0)) rfl ?_
          refine tr_one (e := (22, .lstore 4, 2, [], .null)) rfl (σ' := (24, j_L a b y y (some (.long r)), [], cs, 0, 0)) rfl ?_
          refine tr_one (e := (24, .lload 8, 2, [], .null)) rfl (σ' := (26, j_L a b y y (some (.long r)), [.long r], cs, 0, 0)) rfl ?_
          refine tr_one (e := (26, .lstore 6, 2, [], .null)) rfl (σ' := (28, j_L a b y r (some (.long r)), [], cs, 0, 0)) rfl ?_
          refine tr_one (e := (28, .goto (-22), 3, [], .null)) rfl (σ' := (6, j_L a b y r (some (.long r)), [], cs, 0, 0)) rfl ?_
          exact ih y r _ (by omega) (Or.inl hy)
theorem j_div (cs : zz_W) (a b : Int64) (ha : a ≠ 0) : tr_run zm_232 (0, zz_ent 10 [.long a, .long b], [], cs, 0, 0) (j_P cs) := by
  refine tr_one (e := (0, .lload_n 0, 1, [], .null)) rfl (σ' := (1, [some (.long a), none, some (.long b), none, none, none, none, none, none, none], [.long a], cs, 0, 0)) rfl ?_
  refine tr_one (e := (1, .lstore 4, 2, [], .null)) rfl (σ' := (3, [some (.long a), none, some (.long b), none, some (.long a), none, none, none, none, none], [], cs, 0, 0)) rfl ?_
  refine tr_one (e := (3, .lload_n 2, 1, [], .null)) rfl (σ' := (4, [some (.long a), none, some (.long b), none, some (.long a), none, none, none, none, none], [.long b], cs, 0, 0)) rfl ?_
  refine tr_one (e := (4, .lstore 6, 2, [], .null)) rfl (σ' := (6, j_L a b a b none, [], cs, 0, 0)) rfl ?_
  exact j_loop cs a b (b.toInt.natAbs + 1) a b none (Nat.lt_succ_self _) (Or.inl ha)
theorem j_jz (y : Int64) : zz_if .ne (lg_cmp y (Int64.ofNat (0 : Nat))) = !decide (y = 0) := by
  rw [t_cmp_rel]
  show (!decide (y.toInt = (Int64.ofNat 0).toInt)) = _
  rw [decide_eq_decide.mpr (show y.toInt = (Int64.ofNat 0).toInt ↔ y = 0 from ⟨fun q => Int64.toInt_inj.mp q, fun q => by rw [q]; rfl⟩)]
noncomputable def j_M (a b : Int64) (p : Int32) (o : Option Value) : List (Option Value) := [some (.long a), none, some (.long b), none, some (.int p), o, none]
theorem k_0 : t_Con c_0 := by
  refine ⟨by decide +kernel, fun mi hmi us cs hT hin hP hK => ?_⟩
  obtain rfl : zm_231 = mi := Option.some.inj ((show zz_mts[231]? = some zm_231 from rfl).symm.trans hmi)
  match us, hin with
  | [u1, u2, u3], ⟨⟨a, h1, _⟩, ⟨b, h2, _⟩, ⟨p, h3, _⟩, _⟩ =>
    subst h1
    subst h2
    subst h3
    have fin : ∀ z : Int64, t_Pst c_0 (t_r0 c_0 [.long a, .long b, .int p] cs) cs (some (.long z)) cs := fun z => ⟨hT, t_frm_rf _ cs, ⟨_, List.mem_cons_self, ⟨.long z, rfl, z, rfl, tg_J z⟩, fun e he => by cases he⟩, fun i hi => by cases hi⟩
    refine tr_one (e := (0, .lload_n 0, 1, [], .null)) rfl (σ' := (1, j_M a b p none, [.long a], cs, 0, 0)) rfl ?_
    refine tr_one (e := (1, .lconst 0, 1, [], .null)) rfl (σ' := (2, j_M a b p none, [.long (Int64.ofNat (0 : Nat)), .long a], cs, 0, 0)) rfl ?_
    refine tr_one (e := (2, .lcmp, 1, [], .null)) rfl (σ' := (3, j_M a b p none, [.int (lg_cmp a (Int64.ofNat (0 : Nat)))], cs, 0, 0)) rfl ?_
    by_cases ha : a = 0
    · refine tr_one (e := (3, .ifCond .ne 7, 3, [], .null)) rfl (σ' := (6, j_M a b p none, [], cs, 0, 0)) ?_ ?_
      · simp only [zz_one, zz_da]
        rw [j_jz, decide_eq_true ha]
        rfl
      · refine tr_one (e := (6, .iload 4, 2, [], .null)) rfl (σ' := (8, j_M a b p none, [.int p], cs, 0, 0)) rfl ?_
        refine tr_one (e := (8, .i2l, 1, [], .null)) rfl (σ' := (9, j_M a b p none, [.long p.toInt64], cs, 0, 0)) rfl ?_
        exact tr_ret (e := (9, .lreturn, 1, [], .null)) rfl rfl (v := some (.long p.toInt64)) rfl (fin _)
    · refine tr_one (e := (3, .ifCond .ne 7, 3, [], .null)) rfl (σ' := (10, j_M a b p none, [], cs, 0, 0)) ?_ ?_
      · simp only [zz_one, zz_da]
        rw [j_jz, decide_eq_false ha]
        rfl
      · refine tr_one (e := (10, .lload_n 0, 1, [], .null)) rfl (σ' := (11, j_M a b p none, [.long a], cs, 0, 0)) rfl ?_
        refine tr_one (e := (11, .lload_n 2, 1, [], .null)) rfl (σ' := (12, j_M a b p none, [.long b, .long a], cs, 0, 0)) rfl ?_
        refine tr_call (e := (12, .invokestatic 314, 3, [3, 232, 1374], .null)) (mj := zm_232) rfl rfl rfl rfl rfl ⟨rfl, rfl⟩ (j_div cs a b ha) ?_
        rintro v cs' ⟨rfl, d, rfl, hd⟩
        refine tr_one (e := (15, .lstore 5, 2, [], .null)) rfl (σ' := (17, j_M a b p (some (.long d)), [], cs', 0, 0)) rfl ?_
        refine tr_one (e := (17, .iload 4, 2, [], .null)) rfl (σ' := (19, j_M a b p (some (.long d)), [.int p], cs', 0, 0)) rfl ?_
        cases hb : zz_if .ne p with
        | false =>
          refine tr_one (e := (19, .ifCond .ne 10, 3, [], .null)) rfl (σ' := (22, j_M a b p (some (.long d)), [], cs', 0, 0)) ?_ ?_
          · simp only [zz_one, zz_da]
            rw [hb]
            rfl
          · refine tr_one (e := (22, .lload_n 0, 1, [], .null)) rfl (σ' := (23, j_M a b p (some (.long d)), [.long a], cs', 0, 0)) rfl ?_
            refine tr_one (e := (23, .lload 5, 2, [], .null)) rfl (σ' := (25, j_M a b p (some (.long d)), [.long d, .long a], cs', 0, 0)) rfl ?_
            refine tr_one (e := (25, .ldiv, 1, [], .null)) rfl (σ' := (26, j_M a b p (some (.long d)), [.long (a / d)], cs', 0, 0)) ?_ ?_
            · simp only [zz_one, zz_da, zz_l2n]
              rw [if_neg hd]
            · refine tr_one (e := (26, .goto 7, 3, [], .null)) rfl (σ' := (33, j_M a b p (some (.long d)), [.long (a / d)], cs', 0, 0)) rfl ?_
              exact tr_ret (e := (33, .lreturn, 1, [], .null)) rfl rfl (v := some (.long (a / d))) rfl (fin _)
        | true =>
          refine tr_one (e := (19, .ifCond .ne 10, 3, [], .null)) rfl (σ' := (29, j_M a b p (some (.long d)), [], cs', 0, 0)) ?_ ?_
          · simp only [zz_one, zz_da]
            rw [hb]
            rfl
          · refine tr_one (e := (29, .lload_n 2, 1, [], .null)) rfl (σ' := (30, j_M a b p (some (.long d)), [.long b], cs', 0, 0)) rfl ?_
            refine tr_one (e := (30, .lload 5, 2, [], .null)) rfl (σ' := (32, j_M a b p (some (.long d)), [.long d, .long b], cs', 0, 0)) rfl ?_
            refine tr_one (e := (32, .ldiv, 1, [], .null)) rfl (σ' := (33, j_M a b p (some (.long d)), [.long (b / d)], cs', 0, 0)) ?_ ?_
            · simp only [zz_one, zz_da, zz_l2n]
              rw [if_neg hd]
            · exact tr_ret (e := (33, .lreturn, 1, [], .null)) rfl rfl (v := some (.long (b / d))) rfl (fin _)
