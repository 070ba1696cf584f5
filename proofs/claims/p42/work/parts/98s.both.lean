/-! the typed contracts and the functional view together; one case of the law -/
theorem fs_run {j : Nat} {mi : zz_Mi} {us : List Value} {cs : zz_W} {K : Option Value → zz_W → Prop} (hm : zz_mts[j]? = some mi) (ho : f_ok j = true) (hF : fFX cs) (ht : xTs ((f_tags[j]?).getD []) us) (hr : tr_run mi (0, zz_ent mi.2.2.1 us, [], cs, 0, 0) K) : tr_run mi (0, zz_ent mi.2.2.1 us, [], cs, 0, 0) (fun v cs' => K v cs' ∧ fFX cs' ∧ fS j (us.map fv) (fh cs) (fvo v) (fh cs')) := by
  obtain ⟨n, v, cs', h1, h2⟩ := hr
  exact ⟨n, v, cs', h1, h2, fx_ev n mi _ _ _ cs 0 0 v cs' (f_okm hm ho) hF h1, ⟨mi, n, us, cs, v, cs', hm, ho, hF, h1, ht, rfl, rfl, rfl, rfl⟩⟩
theorem xTs_c1 : ∀ {us : List Value}, (∀ u ∈ us, u.category = 1) → xTs (List.replicate us.length 0) us
  | [], _ => trivial
  | u :: us, h => ⟨(List.forall_mem_cons.mp h).1, xTs_c1 (List.forall_mem_cons.mp h).2⟩
noncomputable def l_JJ (cs : zz_W) : Prop := (∃ n : Int, 0 ≤ n ∧ n ≤ 12 ∧ l_J n n cs) ∧ fFX cs ∧ SJ (fh cs)
theorem l_JJ.ty {cs : zz_W} (h : l_JJ cs) : t_ty cs := by
  obtain ⟨⟨n, -, -, h1⟩, -⟩ := h
  exact h1.ty
/-- one call on both sides: what holds between two calls holds behind it; where they are compared, the answers are alike -/
noncomputable def PJ (jc jm n : Nat) (cmp : Bool) : Prop := ∀ (as : List Int) (h h1 h2 : fH) (v v2 : Int), as.length = n → (∀ a ∈ as, -2147483648 ≤ a ∧ a ≤ 2147483647) → SJ h → fS jc (1 :: as) h v h1 → fS jm (271 :: as) h1 v2 h2 → SJ h2 ∧ (cmp = true → v = v2)
theorem PJ.f {jc jm n : Nat} {b : Bool} (h : PJ jc jm n b) : PJ jc jm n false := fun as h0 h1 h2 v v2 a1 a2 a3 a4 a5 => ⟨(h as h0 h1 h2 v v2 a1 a2 a3 a4 a5).1, fun q => by cases q⟩
noncomputable def l_XK (lg : Bool) (n : Nat) (mc mm : zz_Mi) : Prop := ∀ (us : List Value) (cs : zz_W) (n0 : Int), us.length = n → (∀ u ∈ us, ∃ z : Int32, u = .int z) → 0 ≤ n0 → n0 ≤ 12 → l_J n0 n0 cs → ∃ n', 0 ≤ n' ∧ n' ≤ 12 ∧ tr_run mc (0, zz_ent mc.2.2.1 (.ref 1 :: us), [], cs, 0, 0) (fun v cs' => l_k lg v ∧ l_J n' n0 cs') ∧ ∀ cs', l_J n' n0 cs' → tr_run mm (0, zz_ent mm.2.2.1 (.ref 271 :: us), [], cs', 0, 0) (fun v cs' => l_k lg v ∧ l_J n' n' cs')
theorem l_fv : ∀ {us : List Value}, (∀ u ∈ us, ∃ z : Int32, u = .int z) → (∀ u ∈ us, u.category = 1) ∧ ∀ a ∈ us.map fv, -2147483648 ≤ a ∧ a ≤ 2147483647
  | [], _ => ⟨fun u h => (by cases h), fun u h => (by cases h)⟩
  | u :: us, h => by
    rw [List.forall_mem_cons] at h
    obtain ⟨⟨z, rfl⟩, h2⟩ := h
    obtain ⟨i1, i2⟩ := l_fv h2
    refine ⟨List.forall_mem_cons.mpr ⟨rfl, i1⟩, ?_⟩
    rw [List.map_cons, List.forall_mem_cons]
    have z1 := z.le_toInt
    have z2 := z.toInt_lt
    refine ⟨?_, i2⟩
    show -2147483648 ≤ z.toInt ∧ z.toInt ≤ 2147483647
    omega
theorem l_step2 {jc jm n : Nat} {lg cmp : Bool} {mc mm : zz_Mi} {us : List Value} {cs : zz_W} (hc : zz_mts[jc]? = some mc) (hm : zz_mts[jm]? = some mm) (ho : (f_ok jc && f_ok jm) = true) (t1 : (f_tags[jc]?).getD [] = List.replicate (n + 1) 0) (t2 : (f_tags[jm]?).getD [] = List.replicate (n + 1) 0) (hX : l_XK lg n mc mm) (hP : PJ jc jm n cmp) (hl : us.length = n) (hu : ∀ u ∈ us, ∃ z : Int32, u = .int z) (hJ : l_JJ cs) : ∃ A : Option Value → zz_W → Prop, (∀ v cs', A v cs' → l_k lg v ∧ t_ty cs') ∧ tr_run mc (0, zz_ent mc.2.2.1 (.ref 1 :: us), [], cs, 0, 0) A ∧ ∀ v cs', A v cs' → tr_run mm (0, zz_ent mm.2.2.1 (.ref 271 :: us), [], cs', 0, 0) (fun v2 cs2 => l_k lg v2 ∧ l_JJ cs2 ∧ (cmp = true → fvo v = fvo v2)) := by
  obtain ⟨⟨n0, b1, b2, hJ0⟩, hF, hS⟩ := hJ
  obtain ⟨n', c1, c2, c3, c4⟩ := hX us cs n0 hl hu b1 b2 hJ0
  obtain ⟨u1, u2⟩ := l_fv hu
  rw [Bool.and_eq_true] at ho
  have tg : ∀ (i : Nat) (j : Nat), (f_tags[j]?).getD [] = List.replicate (n + 1) 0 → xTs ((f_tags[j]?).getD []) (.ref i :: us) := fun i j e => by
    rw [e, ← hl]
    exact ⟨rfl, xTs_c1 u1⟩
  refine ⟨fun v cs' => l_k lg v ∧ l_J n' n0 cs' ∧ fFX cs' ∧ fS jc (1 :: us.map fv) (fh cs) (fvo v) (fh cs'), fun v cs' a => ⟨a.1, a.2.1.ty⟩, tr_mono (fs_run hc ho.1 hF (tg 1 jc t1) c3) (fun v cs' a => ⟨a.1.1, a.1.2, a.2.1, a.2.2⟩), fun v cs' a => ?_⟩
  obtain ⟨a1, a2, a3, a4⟩ := a
  refine tr_mono (fs_run hm ho.2 a3 (tg 271 jm t2) (c4 cs' a2)) (fun v2 cs2 d => ?_)
  obtain ⟨⟨d1, d2⟩, d3, d4⟩ := d
  obtain ⟨e1, e2⟩ := hP (us.map fv) _ _ _ _ _ (by rw [List.length_map]; exact hl) u2 hS a4 d4
  exact ⟨d1, ⟨⟨n', c1, c2, d2⟩, d3, e1⟩, e2⟩
section SB
variable {g : zz_G} {p : Program} {l : Launch} {e : Env} {s : State} {m : MethodId} {below : List Frame} {meth : Method} {c : Code} {b L0 : Nat} {xs : Nat → Int32} {cu su : Nat} {cs : zz_W} {i : Int32}
theorem lw_pair (X : zz_X g p room_1 s m meth c zz_law) (hX : va_X b L0 xs s s.heap) (hg : g.2.1 = b ∧ b ≤ g.1) (hB : cu ≤ 600000 ∧ su ≤ 7302250) (hi : 0 ≤ i.toInt ∧ i.toInt + 6 ≤ (L0 : Int) ∧ L0 ≤ 3072) {q jc jm : Nat} {js : List Nat} {lg : Bool} (hcc : lw_cc q js jc jm lg = true) {mc mm : zz_Mi} (hc : zz_mts[jc]? = some mc) (hm : zz_mts[jm]? = some mm) (hrc : lw_rm mc js.length = true) (hrm : lw_rm mm js.length = true) (hT : t_ty cs) {A : Option Value → zz_W → Prop} {D : zz_W → Prop} (hA : ∀ v cs', A v cs' → l_k lg v ∧ t_ty cs') (hGc : tr_run mc (0, zz_ent mc.2.2.1 (.ref 1 :: lw_us xs i js), [], cs, 0, 0) A) (hGm : ∀ v cs', A v cs' → tr_run mm (0, zz_ent mm.2.2.1 (.ref 271 :: lw_us xs i js), [], cs', 0, 0) (fun v2 cs2 => l_k lg v2 ∧ D cs2)) (out : ∀ cs', D cs' → zz_LZ g p l e s m below meth c b 1536 (lw_L i) [] cs' cu su) : zz_LZ g p l e s m below meth c b q (lw_L i) [] cs cu su := by
  simp only [lw_cc, Bool.and_eq_true] at hcc
  obtain ⟨c1, c2, c3, c4, c5, c6, c7, c8, c9⟩ := hcc
  refine lw_st X hB c1 rfl ?_
  refine lw_args X hX hg hB hi js (q + 1) _ c2 ?_
  refine lw_call (rest := []) X hB c3 hc (by rw [lw_us_len]; exact hrc) lw_us_int (l_c1 hT) (Nat.zero_le _) hGc ?_
  intro v cs1 ha
  obtain ⟨hv, hT1⟩ := hA v cs1 ha
  rw [show q + 1 + 5 * js.length + 3 = q + 4 + 5 * js.length by omega]
  refine lw_pop X hB hv c4 ?_
  rw [show q + 4 + 5 * js.length + 1 = q + 5 + 5 * js.length by omega]
  refine lw_st X hB c5 rfl ?_
  rw [show q + 5 + 5 * js.length + 1 = q + 6 + 5 * js.length by omega]
  refine lw_args X hX hg hB hi js (q + 6 + 5 * js.length) _ c6 ?_
  rw [show q + 6 + 5 * js.length + 5 * js.length = q + 6 + 10 * js.length by omega]
  refine lw_call (rest := []) X hB c7 hm (by rw [lw_us_len]; exact hrm) lw_us_int (l_c2 hT1) (Nat.zero_le _) (hGm v cs1 ha) ?_
  rintro v2 cs2 ⟨hv2, hD⟩
  rw [show q + 6 + 10 * js.length + 3 = q + 9 + 10 * js.length by omega]
  refine lw_pop X hB hv2 c8 ?_
  rw [show q + 9 + 10 * js.length + 1 = q + 10 + 10 * js.length by omega]
  refine lw_st X hB c9 (pc' := 1536) (L' := lw_L i) (st' := []) ?_ (out cs2 hD)
  simp only [zz_da, zz_tg]
  rw [show ((q + 10 + 10 * js.length : Nat) : Int) + (1536 - ((q + 10 + 10 * js.length : Nat) : Int)) = Int.ofNat 1536 by rw [Int.ofNat_eq_natCast]; omega]
  rfl
/-- a case whose answers are compared -/
noncomputable def lw_cq (q : Nat) (js : List Nat) (jc jm : Nat) : Bool := lw_is q (.aload_n 1) && (lw_cas (q + 1) js && (lw_ck (q + 1 + 5 * js.length) jc 0 && (lw_is (q + 4 + 5 * js.length) (.aload_n 2) && (lw_cas (q + 5 + 5 * js.length) js && (lw_ck (q + 5 + 10 * js.length) jm 12 && lw_is (q + 8 + 10 * js.length) (.if_icmp .eq (1536 - ((q + 8 + 10 * js.length : Nat) : Int))))))))
theorem lw_cmp (X : zz_X g p room_1 s m meth c zz_law) (hX : va_X b L0 xs s s.heap) (hg : g.2.1 = b ∧ b ≤ g.1) (hB : cu ≤ 600000 ∧ su ≤ 7302250) (hi : 0 ≤ i.toInt ∧ i.toInt + 6 ≤ (L0 : Int) ∧ L0 ≤ 3072) {q jc jm : Nat} {js : List Nat} (hcc : lw_cq q js jc jm = true) {mc mm : zz_Mi} (hc : zz_mts[jc]? = some mc) (hm : zz_mts[jm]? = some mm) (hrc : lw_rm mc js.length = true) (hrm : lw_rm mm js.length = true) (hT : t_ty cs) {A : Option Value → zz_W → Prop} {D : zz_W → Prop} (hA : ∀ v cs', A v cs' → l_k false v ∧ t_ty cs') (hGc : tr_run mc (0, zz_ent mc.2.2.1 (.ref 1 :: lw_us xs i js), [], cs, 0, 0) A) (hGm : ∀ v cs', A v cs' → tr_run mm (0, zz_ent mm.2.2.1 (.ref 271 :: lw_us xs i js), [], cs', 0, 0) (fun v2 cs2 => l_k false v2 ∧ D cs2 ∧ fvo v = fvo v2)) (out : ∀ cs', D cs' → zz_LZ g p l e s m below meth c b 1536 (lw_L i) [] cs' cu su) : zz_LZ g p l e s m below meth c b q (lw_L i) [] cs cu su := by
  simp only [lw_cq, Bool.and_eq_true] at hcc
  obtain ⟨c1, c2, c3, c5, c6, c7, c9⟩ := hcc
  refine lw_st X hB c1 rfl ?_
  refine lw_args X hX hg hB hi js (q + 1) _ c2 ?_
  refine lw_call (rest := []) X hB c3 hc (by rw [lw_us_len]; exact hrc) lw_us_int (l_c1 hT) (Nat.zero_le _) hGc ?_
  intro v cs1 ha
  obtain ⟨⟨w, hv⟩, hT1⟩ := hA v cs1 ha
  subst hv
  rw [show q + 1 + 5 * js.length + 3 = q + 4 + 5 * js.length by omega]
  refine lw_st X hB c5 (st' := [.ref 271, .int w]) rfl ?_
  rw [show q + 4 + 5 * js.length + 1 = q + 5 + 5 * js.length by omega]
  refine lw_args X hX hg hB hi js (q + 5 + 5 * js.length) _ c6 ?_
  rw [show q + 5 + 5 * js.length + 5 * js.length = q + 5 + 10 * js.length by omega]
  refine lw_call (rest := [.int w]) X hB c7 hm (by rw [lw_us_len]; exact hrm) lw_us_int (l_c2 hT1) (by show 1 ≤ 8; omega) (hGm _ cs1 ha) ?_
  rintro v2 cs2 ⟨⟨w2, rfl⟩, hD, hE⟩
  have hww : w = w2 := Int32.toInt_inj.mp hE
  subst hww
  rw [show q + 5 + 10 * js.length + 3 = q + 8 + 10 * js.length by omega]
  refine lw_st X hB c9 (pc' := 1536) (L' := lw_L i) (st' := []) ?_ (out cs2 hD)
  show zz_da (.if_icmp .eq (1536 - ((q + 8 + 10 * js.length : Nat) : Int))) (q + 8 + 10 * js.length) (lw_L i) [.int w, .int w] = _
  simp only [zz_da, zz_ic]
  rw [decide_eq_true trivial]
  simp only [zz_br, zz_tg]
  rw [show ((q + 8 + 10 * js.length : Nat) : Int) + (1536 - ((q + 8 + 10 * js.length : Nat) : Int)) = Int.ofNat 1536 by rw [Int.ofNat_eq_natCast]; omega]
  rfl
theorem lw_go (X : zz_X g p room_1 s m meth c zz_law) (hX : va_X b L0 xs s s.heap) (hg : g.2.1 = b ∧ b ≤ g.1) (hB : cu ≤ 600000 ∧ su ≤ 7302250) (hi : 0 ≤ i.toInt ∧ i.toInt + 6 ≤ (L0 : Int) ∧ L0 ≤ 3072) {q jc jm : Nat} {js : List Nat} {lg cmp : Bool} (hcc : lw_cc q js jc jm lg = true) {mc mm : zz_Mi} (hc : zz_mts[jc]? = some mc) (hm : zz_mts[jm]? = some mm) (hrc : lw_rm mc js.length = true) (hrm : lw_rm mm js.length = true) (ho : (f_ok jc && f_ok jm) = true) (t1 : (f_tags[jc]?).getD [] = List.replicate (js.length + 1) 0) (t2 : (f_tags[jm]?).getD [] = List.replicate (js.length + 1) 0) (hK : l_XK lg js.length mc mm) (hP : PJ jc jm js.length cmp) (hJ : l_JJ cs) (out : ∀ cs', l_JJ cs' → zz_LZ g p l e s m below meth c b 1536 (lw_L i) [] cs' cu su) : zz_LZ g p l e s m below meth c b q (lw_L i) [] cs cu su := by
  obtain ⟨A, h1, h2, h3⟩ := l_step2 hc hm ho t1 t2 hK hP lw_us_len (lw_us_int (xs := xs) (i := i)) hJ
  exact lw_pair X hX hg hB hi hcc hc hm hrc hrm hJ.ty h1 h2 (fun v cs' a => tr_mono (h3 v cs' a) (fun v2 cs2 d => ⟨d.1, d.2.1⟩)) out
theorem lw_gc (X : zz_X g p room_1 s m meth c zz_law) (hX : va_X b L0 xs s s.heap) (hg : g.2.1 = b ∧ b ≤ g.1) (hB : cu ≤ 600000 ∧ su ≤ 7302250) (hi : 0 ≤ i.toInt ∧ i.toInt + 6 ≤ (L0 : Int) ∧ L0 ≤ 3072) {q jc jm : Nat} {js : List Nat} (hcc : lw_cq q js jc jm = true) {mc mm : zz_Mi} (hc : zz_mts[jc]? = some mc) (hm : zz_mts[jm]? = some mm) (hrc : lw_rm mc js.length = true) (hrm : lw_rm mm js.length = true) (ho : (f_ok jc && f_ok jm) = true) (t1 : (f_tags[jc]?).getD [] = List.replicate (js.length + 1) 0) (t2 : (f_tags[jm]?).getD [] = List.replicate (js.length + 1) 0) (hK : l_XK false js.length mc mm) (hP : PJ jc jm js.length true) (hJ : l_JJ cs) (out : ∀ cs', l_JJ cs' → zz_LZ g p l e s m below meth c b 1536 (lw_L i) [] cs' cu su) : zz_LZ g p l e s m below meth c b q (lw_L i) [] cs cu su := by
  obtain ⟨A, h1, h2, h3⟩ := l_step2 hc hm ho t1 t2 hK hP lw_us_len (lw_us_int (xs := xs) (i := i)) hJ
  exact lw_cmp X hX hg hB hi hcc hc hm hrc hrm hJ.ty h1 h2 (fun v cs' a => tr_mono (h3 v cs' a) (fun v2 cs2 d => ⟨d.1, d.2.1, d.2.2 rfl⟩)) out
end SB
