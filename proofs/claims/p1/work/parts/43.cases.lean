/-! the law's cases -/
theorem zs_ch_ok2 {ρ : Nat → Int} {fin : zv} {f : zs_R → zv → Bool} : ∀ {l : List (Nat × Int × Bool × zv)} {rs : zs_R}, zs_ch l fin rs f = true → zs_ok ρ rs → ∃ rs' a, f rs' a = true ∧ zs_ok ρ rs' ∧ (a = fin ∨ ∃ en ∈ l, a = en.2.2.2)
  | [], rs, h, hr => ⟨rs, fin, h, hr, Or.inl rfl⟩
  | (j, t, b, a) :: l, rs, h, hr => by
    have up : (∃ rs' a, f rs' a = true ∧ zs_ok ρ rs' ∧ (a = fin ∨ ∃ en ∈ l, a = en.2.2.2)) → ∃ rs' a', f rs' a' = true ∧ zs_ok ρ rs' ∧ (a' = fin ∨ ∃ en ∈ (j, t, b, a) :: l, a' = en.2.2.2) := by
      rintro ⟨r, a', q1, q2, q3 | ⟨en, q3, q4⟩⟩
      · exact ⟨r, a', q1, q2, Or.inl q3⟩
      · exact ⟨r, a', q1, q2, Or.inr ⟨en, List.mem_cons_of_mem _ q3, q4⟩⟩
    cases b with
    | true =>
      replace h : zs_cut2 rs j t (fun r => f r a) (fun r => zs_ch l fin r f) = true := h
      rcases zs_cut2_ok h hr with ⟨r, h1, h2⟩ | ⟨r, h1, h2⟩
      · exact ⟨r, a, h1, h2, Or.inr ⟨_, List.mem_cons_self, rfl⟩⟩
      · exact up (zs_ch_ok2 h1 h2)
    | false =>
      replace h : zs_cut2 rs j t (fun r => zs_ch l fin r f) (fun r => f r a) = true := h
      rcases zs_cut2_ok h hr with ⟨r, h1, h2⟩ | ⟨r, h1, h2⟩
      · exact up (zs_ch_ok2 h1 h2)
      · exact ⟨r, a, h1, h2, Or.inr ⟨_, List.mem_cons_self, rfl⟩⟩
theorem zs_pair2 {Ka : zv → zs_K} {V : (Nat → Int) → zv → Value} (HK : ∀ a rs v w ρ u, Ka a rs v w = true → zs_ok ρ rs → zs_go ρ v u → u = some (V ρ a)) {kd : zv → Bool} {P : Value → Prop} (HV : ∀ ρ a, kd a = true → P (V ρ a)) {n jc jm : Nat} {mc mm : zz_Mi} (hc : zz_mts[jc]? = some mc) (hm : zz_mts[jm]? = some mm) {xs : List zv} (hlc : zs_css xs + 1 ≤ mc.2.2.1) (hlm : zs_css xs + 1 ≤ mm.2.2.1) {l : List (Nat × Int × Bool × zv)} {fin : zv} (h : zs_ch l fin zs_r0 (zs_two Ka n mc mm xs) = true) (hkd : (l.all (fun en => kd en.2.2.2) && kd fin) = true) {ρ : Nat → Int} (hr : zs_ok ρ zs_r0) {us : List Value} (ha : zs_rS ρ xs us) : ∃ v, P v ∧ zz_Gm mc (.ref 1 :: us) zx_c (fun u cs' => u = some v ∧ cs'.length = 298) ∧ zz_Gm mm (.ref 271 :: us) zy_1 (fun u cs' => u = some v ∧ cs'.length = 298) := by
  obtain ⟨rs, a, h1, h2, h9⟩ := zs_ch_ok2 h hr
  unfold zs_two at h1
  obtain ⟨h1, h3⟩ := zs_bool h1
  have hka : kd a = true := by
    rw [Bool.and_eq_true] at hkd
    rcases h9 with rfl | ⟨en, q1, rfl⟩
    · exact hkd.2
    · exact List.all_eq_true.mp hkd.1 en q1
  exact ⟨V ρ a, HV ρ a hka, zs_con zs_og_ok hc h1 (show Nat.succ (zs_css xs) ≤ _ from hlc) h2 (zs_rS_mk rfl ha) (zs_qW_ok zs_wc1 zs_wc2) (fun rs' v w' u cs' q1 q2 q3 q4 => ⟨HK a rs' v w' ρ u q1 q2 q3, q4.1⟩), zs_con zs_og_ok hm h3 (show Nat.succ (zs_css xs) ≤ _ from hlm) h2 (zs_rS_mk rfl ha) (zs_qW_ok zs_wm1 zs_wm2) (fun rs' v w' u cs' q1 q2 q3 q4 => ⟨HK a rs' v w' ρ u q1 q2 q3, q4.1⟩)⟩
def zs_kI (a : zv) : Bool := match a with
  | .inl _ => true
  | .inr (.inl _) => true
  | _ => false
theorem zs_kI_ok (ρ : Nat → Int) (a : zv) (h : zs_kI a = true) : ∃ x, zs_val ρ a = .int x := by
  unfold zs_kI at h
  split at h
  · exact ⟨_, rfl⟩
  · exact ⟨_, rfl⟩
  · cases h
theorem zs_kJ_ok (ρ : Nat → Int) (a : zv) (h : zs_isJ a = true) : ∃ x, zs_val ρ a = .long x := by
  unfold zs_isJ at h
  split at h
  · exact ⟨_, rfl⟩
  · exact ⟨_, rfl⟩
  · cases h
theorem zs_kH_ok (ρ : Nat → Int) (a : zv) (h : zs_isI a = true) : ∃ x, zs_v17 ρ a = .int x := by
  unfold zs_isI at h
  split at h
  · exact ⟨_, rfl⟩
  · exact ⟨_, rfl⟩
  · exact ⟨_, rfl⟩
  · cases h
section LW3
variable {xs : Nat → Int32}
def lw_ρ (xs : Nat → Int32) : Nat → Int := fun j => (xs j).toInt
theorem lw_ok : zs_ok (lw_ρ xs) zs_r0 := by
  intro j a b h
  have h1 := Int32.le_toInt (xs j)
  have h2 := Int32.toInt_lt (xs j)
  have h3 : (a, b) ∈ zs_r0 := List.mem_of_getElem? h
  have h4 : (a, b) = (.negSucc 2147483647, .ofNat 2147483647) := by
    simpa [zs_r0] using h3
  cases h4
  show _ ≤ (xs j).toInt ∧ (xs j).toInt ≤ _
  rw [Int.negSucc_eq, Int.ofNat_eq_natCast]
  omega
theorem lw_ag : ∀ js : List Nat, zs_rS (lw_ρ xs) (js.map (fun j => (Sum.inr (Sum.inl (j, Int.ofNat 0)) : zv))) (js.map (fun j => Value.int (xs j)))
  | [] => trivial
  | j :: js => by
    refine ⟨?_, lw_ag js⟩
    show Value.int _ = Value.int (Int32.ofInt ((xs j).toInt + 0))
    rw [Int.add_zero, Int32.ofInt_toInt]
end LW3
section LW4
variable {g : zz_G} {p : Program} {l : Launch} {e : Env} {s : State} {m : MethodId} {below : List Frame} {meth : Method} {c : Code} {b : Nat} {xs : Nat → Int32} {cu su : Nat} {cs : zz_W}
set_option maxRecDepth 100000 in
theorem lw_c0 (X : zz_X g p room_1 s m meth c zz_law) (hX : va_X b 6 xs s s.heap) (hg : g.2.1 = b ∧ b ≤ g.1) (hB : cu ≤ 600000 ∧ su ≤ 7302250) (h1 : zz_le zx_c cs) (h2 : zz_le zy_1 cs) (out : ∀ cs', zz_LZ g p l e s m below meth c b 1538 (lw_L 0) [] cs' cu su) : zz_LZ g p l e s m below meth c b 224 (lw_L 0) [] cs cu su :=
  lw_int X hX hg hB h1 h2 (q := 224) (js := [1]) (jc := 12) (jm := 150) (mc := zm_12) (mm := zm_150) (by decide +kernel) rfl rfl (by decide +kernel) (by decide +kernel) (by decide +kernel) (zs_pair2 (jc := 12) (jm := 150) zs_ka_ok (kd := zs_kI) zs_kI_ok rfl rfl (by decide +kernel) (by decide +kernel) zo_t0 (by decide +kernel) lw_ok (lw_ag [1])) out
set_option maxRecDepth 100000 in
theorem lw_c1 (X : zz_X g p room_1 s m meth c zz_law) (hX : va_X b 6 xs s s.heap) (hg : g.2.1 = b ∧ b ≤ g.1) (hB : cu ≤ 600000 ∧ su ≤ 7302250) (h1 : zz_le zx_c cs) (h2 : zz_le zy_1 cs) (out : ∀ cs', zz_LZ g p l e s m below meth c b 1538 (lw_L 0) [] cs' cu su) : zz_LZ g p l e s m below meth c b 247 (lw_L 0) [] cs cu su :=
  lw_int X hX hg hB h1 h2 (q := 247) (js := []) (jc := 16) (jm := 152) (mc := zm_16) (mm := zm_152) (by decide +kernel) rfl rfl (by decide +kernel) (by decide +kernel) (by decide +kernel) (zs_pair2 (jc := 16) (jm := 152) zs_ka_ok (kd := zs_kI) zs_kI_ok rfl rfl (by decide +kernel) (by decide +kernel) zo_t1 (by decide +kernel) lw_ok (lw_ag [])) out
set_option maxRecDepth 100000 in
theorem lw_c2 (X : zz_X g p room_1 s m meth c zz_law) (hX : va_X b 6 xs s s.heap) (hg : g.2.1 = b ∧ b ≤ g.1) (hB : cu ≤ 600000 ∧ su ≤ 7302250) (h1 : zz_le zx_c cs) (h2 : zz_le zy_1 cs) (out : ∀ cs', zz_LZ g p l e s m below meth c b 1538 (lw_L 0) [] cs' cu su) : zz_LZ g p l e s m below meth c b 260 (lw_L 0) [] cs cu su :=
  lw_int X hX hg hB h1 h2 (q := 260) (js := [1, 2]) (jc := 74) (jm := 184) (mc := zm_74) (mm := zm_184) (by decide +kernel) rfl rfl (by decide +kernel) (by decide +kernel) (by decide +kernel) (zs_pair2 (jc := 74) (jm := 184) zs_ka_ok (kd := zs_kI) zs_kI_ok rfl rfl (by decide +kernel) (by decide +kernel) zo_t2 (by decide +kernel) lw_ok (lw_ag [1, 2])) out
set_option maxRecDepth 100000 in
theorem lw_c3 (X : zz_X g p room_1 s m meth c zz_law) (hX : va_X b 6 xs s s.heap) (hg : g.2.1 = b ∧ b ≤ g.1) (hB : cu ≤ 600000 ∧ su ≤ 7302250) (h1 : zz_le zx_c cs) (h2 : zz_le zy_1 cs) (out : ∀ cs', zz_LZ g p l e s m below meth c b 1538 (lw_L 0) [] cs' cu su) : zz_LZ g p l e s m below meth c b 293 (lw_L 0) [] cs cu su :=
  lw_int X hX hg hB h1 h2 (q := 293) (js := [1, 2]) (jc := 75) (jm := 185) (mc := zm_75) (mm := zm_185) (by decide +kernel) rfl rfl (by decide +kernel) (by decide +kernel) (by decide +kernel) (zs_pair2 (jc := 75) (jm := 185) zs_ka_ok (kd := zs_kI) zs_kI_ok rfl rfl (by decide +kernel) (by decide +kernel) zo_t3 (by decide +kernel) lw_ok (lw_ag [1, 2])) out
set_option maxRecDepth 100000 in
theorem lw_c4 (X : zz_X g p room_1 s m meth c zz_law) (hX : va_X b 6 xs s s.heap) (hg : g.2.1 = b ∧ b ≤ g.1) (hB : cu ≤ 600000 ∧ su ≤ 7302250) (h1 : zz_le zx_c cs) (h2 : zz_le zy_1 cs) (out : ∀ cs', zz_LZ g p l e s m below meth c b 1538 (lw_L 0) [] cs' cu su) : zz_LZ g p l e s m below meth c b 326 (lw_L 0) [] cs cu su :=
  lw_int X hX hg hB h1 h2 (q := 326) (js := [1, 2]) (jc := 76) (jm := 186) (mc := zm_76) (mm := zm_186) (by decide +kernel) rfl rfl (by decide +kernel) (by decide +kernel) (by decide +kernel) (zs_pair2 (jc := 76) (jm := 186) zs_ka_ok (kd := zs_kI) zs_kI_ok rfl rfl (by decide +kernel) (by decide +kernel) zo_t4 (by decide +kernel) lw_ok (lw_ag [1, 2])) out
set_option maxRecDepth 100000 in
theorem lw_c5 (X : zz_X g p room_1 s m meth c zz_law) (hX : va_X b 6 xs s s.heap) (hg : g.2.1 = b ∧ b ≤ g.1) (hB : cu ≤ 600000 ∧ su ≤ 7302250) (h1 : zz_le zx_c cs) (h2 : zz_le zy_1 cs) (out : ∀ cs', zz_LZ g p l e s m below meth c b 1538 (lw_L 0) [] cs' cu su) : zz_LZ g p l e s m below meth c b 359 (lw_L 0) [] cs cu su :=
  lw_int X hX hg hB h1 h2 (q := 359) (js := [1, 2]) (jc := 77) (jm := 187) (mc := zm_77) (mm := zm_187) (by decide +kernel) rfl rfl (by decide +kernel) (by decide +kernel) (by decide +kernel) (zs_pair2 (jc := 77) (jm := 187) zs_ka_ok (kd := zs_kI) zs_kI_ok rfl rfl (by decide +kernel) (by decide +kernel) zo_t5 (by decide +kernel) lw_ok (lw_ag [1, 2])) out
set_option maxRecDepth 100000 in
theorem lw_c6 (X : zz_X g p room_1 s m meth c zz_law) (hX : va_X b 6 xs s s.heap) (hg : g.2.1 = b ∧ b ≤ g.1) (hB : cu ≤ 600000 ∧ su ≤ 7302250) (h1 : zz_le zx_c cs) (h2 : zz_le zy_1 cs) (out : ∀ cs', zz_LZ g p l e s m below meth c b 1538 (lw_L 0) [] cs' cu su) : zz_LZ g p l e s m below meth c b 392 (lw_L 0) [] cs cu su :=
  lw_int X hX hg hB h1 h2 (q := 392) (js := [1, 2]) (jc := 84) (jm := 188) (mc := zm_84) (mm := zm_188) (by decide +kernel) rfl rfl (by decide +kernel) (by decide +kernel) (by decide +kernel) (zs_pair2 (jc := 84) (jm := 188) zs_ka_ok (kd := zs_kI) zs_kI_ok rfl rfl (by decide +kernel) (by decide +kernel) zo_t6 (by decide +kernel) lw_ok (lw_ag [1, 2])) out
set_option maxRecDepth 100000 in
theorem lw_c7 (X : zz_X g p room_1 s m meth c zz_law) (hX : va_X b 6 xs s s.heap) (hg : g.2.1 = b ∧ b ≤ g.1) (hB : cu ≤ 600000 ∧ su ≤ 7302250) (h1 : zz_le zx_c cs) (h2 : zz_le zy_1 cs) (out : ∀ cs', zz_LZ g p l e s m below meth c b 1538 (lw_L 0) [] cs' cu su) : zz_LZ g p l e s m below meth c b 425 (lw_L 0) [] cs cu su :=
  lw_int X hX hg hB h1 h2 (q := 425) (js := [1, 2]) (jc := 85) (jm := 190) (mc := zm_85) (mm := zm_190) (by decide +kernel) rfl rfl (by decide +kernel) (by decide +kernel) (by decide +kernel) (zs_pair2 (jc := 85) (jm := 190) zs_ka_ok (kd := zs_kI) zs_kI_ok rfl rfl (by decide +kernel) (by decide +kernel) zo_t7 (by decide +kernel) lw_ok (lw_ag [1, 2])) out
set_option maxRecDepth 100000 in
theorem lw_c8 (X : zz_X g p room_1 s m meth c zz_law) (hX : va_X b 6 xs s s.heap) (hg : g.2.1 = b ∧ b ≤ g.1) (hB : cu ≤ 600000 ∧ su ≤ 7302250) (h1 : zz_le zx_c cs) (h2 : zz_le zy_1 cs) (out : ∀ cs', zz_LZ g p l e s m below meth c b 1538 (lw_L 0) [] cs' cu su) : zz_LZ g p l e s m below meth c b 458 (lw_L 0) [] cs cu su :=
  lw_int X hX hg hB h1 h2 (q := 458) (js := [1, 2, 3]) (jc := 86) (jm := 191) (mc := zm_86) (mm := zm_191) (by decide +kernel) rfl rfl (by decide +kernel) (by decide +kernel) (by decide +kernel) (zs_pair2 (jc := 86) (jm := 191) zs_ka_ok (kd := zs_kI) zs_kI_ok rfl rfl (by decide +kernel) (by decide +kernel) zo_t8 (by decide +kernel) lw_ok (lw_ag [1, 2, 3])) out
set_option maxRecDepth 100000 in
theorem lw_c9 (X : zz_X g p room_1 s m meth c zz_law) (hX : va_X b 6 xs s s.heap) (hg : g.2.1 = b ∧ b ≤ g.1) (hB : cu ≤ 600000 ∧ su ≤ 7302250) (h1 : zz_le zx_c cs) (h2 : zz_le zy_1 cs) (out : ∀ cs', zz_LZ g p l e s m below meth c b 1538 (lw_L 0) [] cs' cu su) : zz_LZ g p l e s m below meth c b 501 (lw_L 0) [] cs cu su :=
  lw_int X hX hg hB h1 h2 (q := 501) (js := [1, 2, 3]) (jc := 88) (jm := 193) (mc := zm_88) (mm := zm_193) (by decide +kernel) rfl rfl (by decide +kernel) (by decide +kernel) (by decide +kernel) (zs_pair2 (jc := 88) (jm := 193) zs_ka_ok (kd := zs_kI) zs_kI_ok rfl rfl (by decide +kernel) (by decide +kernel) zo_t9 (by decide +kernel) lw_ok (lw_ag [1, 2, 3])) out
set_option maxRecDepth 100000 in
theorem lw_c10 (X : zz_X g p room_1 s m meth c zz_law) (hX : va_X b 6 xs s s.heap) (hg : g.2.1 = b ∧ b ≤ g.1) (hB : cu ≤ 600000 ∧ su ≤ 7302250) (h1 : zz_le zx_c cs) (h2 : zz_le zy_1 cs) (out : ∀ cs', zz_LZ g p l e s m below meth c b 1538 (lw_L 0) [] cs' cu su) : zz_LZ g p l e s m below meth c b 544 (lw_L 0) [] cs cu su :=
  lw_int X hX hg hB h1 h2 (q := 544) (js := [1, 2, 3, 4, 5]) (jc := 89) (jm := 194) (mc := zm_89) (mm := zm_194) (by decide +kernel) rfl rfl (by decide +kernel) (by decide +kernel) (by decide +kernel) (zs_pair2 (jc := 89) (jm := 194) zs_ka_ok (kd := zs_kI) zs_kI_ok rfl rfl (by decide +kernel) (by decide +kernel) zo_t10 (by decide +kernel) lw_ok (lw_ag [1, 2, 3, 4, 5])) out
set_option maxRecDepth 100000 in
theorem lw_c11 (X : zz_X g p room_1 s m meth c zz_law) (hX : va_X b 6 xs s s.heap) (hg : g.2.1 = b ∧ b ≤ g.1) (hB : cu ≤ 600000 ∧ su ≤ 7302250) (h1 : zz_le zx_c cs) (h2 : zz_le zy_1 cs) (out : ∀ cs', zz_LZ g p l e s m below meth c b 1538 (lw_L 0) [] cs' cu su) : zz_LZ g p l e s m below meth c b 607 (lw_L 0) [] cs cu su :=
  lw_int X hX hg hB h1 h2 (q := 607) (js := [1]) (jc := 90) (jm := 197) (mc := zm_90) (mm := zm_197) (by decide +kernel) rfl rfl (by decide +kernel) (by decide +kernel) (by decide +kernel) (zs_pair2 (jc := 90) (jm := 197) zs_ka_ok (kd := zs_kI) zs_kI_ok rfl rfl (by decide +kernel) (by decide +kernel) zo_t11 (by decide +kernel) lw_ok (lw_ag [1])) out
set_option maxRecDepth 100000 in
theorem lw_c12 (X : zz_X g p room_1 s m meth c zz_law) (hX : va_X b 6 xs s s.heap) (hg : g.2.1 = b ∧ b ≤ g.1) (hB : cu ≤ 600000 ∧ su ≤ 7302250) (h1 : zz_le zx_c cs) (h2 : zz_le zy_1 cs) (out : ∀ cs', zz_LZ g p l e s m below meth c b 1538 (lw_L 0) [] cs' cu su) : zz_LZ g p l e s m below meth c b 630 (lw_L 0) [] cs cu su :=
  lw_int X hX hg hB h1 h2 (q := 630) (js := []) (jc := 92) (jm := 183) (mc := zm_92) (mm := zm_183) (by decide +kernel) rfl rfl (by decide +kernel) (by decide +kernel) (by decide +kernel) (zs_pair2 (jc := 92) (jm := 183) zs_ka_ok (kd := zs_kI) zs_kI_ok rfl rfl (by decide +kernel) (by decide +kernel) zo_t12 (by decide +kernel) lw_ok (lw_ag [])) out
set_option maxRecDepth 100000 in
theorem lw_c13 (X : zz_X g p room_1 s m meth c zz_law) (hX : va_X b 6 xs s s.heap) (hg : g.2.1 = b ∧ b ≤ g.1) (hB : cu ≤ 600000 ∧ su ≤ 7302250) (h1 : zz_le zx_c cs) (h2 : zz_le zy_1 cs) (out : ∀ cs', zz_LZ g p l e s m below meth c b 1538 (lw_L 0) [] cs' cu su) : zz_LZ g p l e s m below meth c b 643 (lw_L 0) [] cs cu su :=
  lw_int X hX hg hB h1 h2 (q := 643) (js := [1, 2, 3]) (jc := 96) (jm := 200) (mc := zm_96) (mm := zm_200) (by decide +kernel) rfl rfl (by decide +kernel) (by decide +kernel) (by decide +kernel) (zs_pair2 (jc := 96) (jm := 200) zs_ka_ok (kd := zs_kI) zs_kI_ok rfl rfl (by decide +kernel) (by decide +kernel) zo_t13 (by decide +kernel) lw_ok (lw_ag [1, 2, 3])) out
set_option maxRecDepth 100000 in
theorem lw_c14 (X : zz_X g p room_1 s m meth c zz_law) (hX : va_X b 6 xs s s.heap) (hg : g.2.1 = b ∧ b ≤ g.1) (hB : cu ≤ 600000 ∧ su ≤ 7302250) (h1 : zz_le zx_c cs) (h2 : zz_le zy_1 cs) (out : ∀ cs', zz_LZ g p l e s m below meth c b 1538 (lw_L 0) [] cs' cu su) : zz_LZ g p l e s m below meth c b 686 (lw_L 0) [] cs cu su :=
  lw_int X hX hg hB h1 h2 (q := 686) (js := [1, 2, 3]) (jc := 98) (jm := 201) (mc := zm_98) (mm := zm_201) (by decide +kernel) rfl rfl (by decide +kernel) (by decide +kernel) (by decide +kernel) (zs_pair2 (jc := 98) (jm := 201) zs_ka_ok (kd := zs_kI) zs_kI_ok rfl rfl (by decide +kernel) (by decide +kernel) zo_t14 (by decide +kernel) lw_ok (lw_ag [1, 2, 3])) out
set_option maxRecDepth 100000 in
theorem lw_c15 (X : zz_X g p room_1 s m meth c zz_law) (hX : va_X b 6 xs s s.heap) (hg : g.2.1 = b ∧ b ≤ g.1) (hB : cu ≤ 600000 ∧ su ≤ 7302250) (h1 : zz_le zx_c cs) (h2 : zz_le zy_1 cs) (out : ∀ cs', zz_LZ g p l e s m below meth c b 1538 (lw_L 0) [] cs' cu su) : zz_LZ g p l e s m below meth c b 729 (lw_L 0) [] cs cu su :=
  lw_int X hX hg hB h1 h2 (q := 729) (js := [1]) (jc := 102) (jm := 203) (mc := zm_102) (mm := zm_203) (by decide +kernel) rfl rfl (by decide +kernel) (by decide +kernel) (by decide +kernel) (zs_pair2 (jc := 102) (jm := 203) zs_ka_ok (kd := zs_kI) zs_kI_ok rfl rfl (by decide +kernel) (by decide +kernel) zo_t15 (by decide +kernel) lw_ok (lw_ag [1])) out
set_option maxRecDepth 100000 in
theorem lw_c16 (X : zz_X g p room_1 s m meth c zz_law) (hX : va_X b 6 xs s s.heap) (hg : g.2.1 = b ∧ b ≤ g.1) (hB : cu ≤ 600000 ∧ su ≤ 7302250) (h1 : zz_le zx_c cs) (h2 : zz_le zy_1 cs) (out : ∀ cs', zz_LZ g p l e s m below meth c b 1538 (lw_L 0) [] cs' cu su) : zz_LZ g p l e s m below meth c b 752 (lw_L 0) [] cs cu su :=
  lw_int X hX hg hB h1 h2 (q := 752) (js := [1]) (jc := 103) (jm := 205) (mc := zm_103) (mm := zm_205) (by decide +kernel) rfl rfl (by decide +kernel) (by decide +kernel) (by decide +kernel) (zs_pair2 (jc := 103) (jm := 205) zs_ka_ok (kd := zs_kI) zs_kI_ok rfl rfl (by decide +kernel) (by decide +kernel) zo_t16 (by decide +kernel) lw_ok (lw_ag [1])) out
set_option maxRecDepth 100000 in
theorem lw_c17 (X : zz_X g p room_1 s m meth c zz_law) (hX : va_X b 6 xs s s.heap) (hg : g.2.1 = b ∧ b ≤ g.1) (hB : cu ≤ 600000 ∧ su ≤ 7302250) (h1 : zz_le zx_c cs) (h2 : zz_le zy_1 cs) (out : ∀ cs', zz_LZ g p l e s m below meth c b 1538 (lw_L 0) [] cs' cu su) : zz_LZ g p l e s m below meth c b 775 (lw_L 0) [] cs cu su :=
  lw_int X hX hg hB h1 h2 (q := 775) (js := [1, 2]) (jc := 105) (jm := 207) (mc := zm_105) (mm := zm_207) (by decide +kernel) rfl rfl (by decide +kernel) (by decide +kernel) (by decide +kernel) (zs_pair2 (jc := 105) (jm := 207) zs_k17_ok (kd := zs_isI) zs_kH_ok rfl rfl (by decide +kernel) (by decide +kernel) zo_t17 (by decide +kernel) lw_ok (lw_ag [1, 2])) out
set_option maxRecDepth 100000 in
theorem lw_c18 (X : zz_X g p room_1 s m meth c zz_law) (hX : va_X b 6 xs s s.heap) (hg : g.2.1 = b ∧ b ≤ g.1) (hB : cu ≤ 600000 ∧ su ≤ 7302250) (h1 : zz_le zx_c cs) (h2 : zz_le zy_1 cs) (out : ∀ cs', zz_LZ g p l e s m below meth c b 1538 (lw_L 0) [] cs' cu su) : zz_LZ g p l e s m below meth c b 808 (lw_L 0) [] cs cu su :=
  lw_int X hX hg hB h1 h2 (q := 808) (js := [1, 2]) (jc := 106) (jm := 208) (mc := zm_106) (mm := zm_208) (by decide +kernel) rfl rfl (by decide +kernel) (by decide +kernel) (by decide +kernel) (zs_pair2 (jc := 106) (jm := 208) zs_ka_ok (kd := zs_kI) zs_kI_ok rfl rfl (by decide +kernel) (by decide +kernel) zo_t18 (by decide +kernel) lw_ok (lw_ag [1, 2])) out
set_option maxRecDepth 100000 in
theorem lw_c19 (X : zz_X g p room_1 s m meth c zz_law) (hX : va_X b 6 xs s s.heap) (hg : g.2.1 = b ∧ b ≤ g.1) (hB : cu ≤ 600000 ∧ su ≤ 7302250) (h1 : zz_le zx_c cs) (h2 : zz_le zy_1 cs) (out : ∀ cs', zz_LZ g p l e s m below meth c b 1538 (lw_L 0) [] cs' cu su) : zz_LZ g p l e s m below meth c b 841 (lw_L 0) [] cs cu su :=
  lw_int X hX hg hB h1 h2 (q := 841) (js := [1, 2, 3]) (jc := 108) (jm := 211) (mc := zm_108) (mm := zm_211) (by decide +kernel) rfl rfl (by decide +kernel) (by decide +kernel) (by decide +kernel) (zs_pair2 (jc := 108) (jm := 211) zs_ka_ok (kd := zs_kI) zs_kI_ok rfl rfl (by decide +kernel) (by decide +kernel) zo_t19 (by decide +kernel) lw_ok (lw_ag [1, 2, 3])) out
set_option maxRecDepth 100000 in
theorem lw_c20 (X : zz_X g p room_1 s m meth c zz_law) (hX : va_X b 6 xs s s.heap) (hg : g.2.1 = b ∧ b ≤ g.1) (hB : cu ≤ 600000 ∧ su ≤ 7302250) (h1 : zz_le zx_c cs) (h2 : zz_le zy_1 cs) (out : ∀ cs', zz_LZ g p l e s m below meth c b 1538 (lw_L 0) [] cs' cu su) : zz_LZ g p l e s m below meth c b 884 (lw_L 0) [] cs cu su :=
  lw_int X hX hg hB h1 h2 (q := 884) (js := [1]) (jc := 109) (jm := 212) (mc := zm_109) (mm := zm_212) (by decide +kernel) rfl rfl (by decide +kernel) (by decide +kernel) (by decide +kernel) (zs_pair2 (jc := 109) (jm := 212) zs_ka_ok (kd := zs_kI) zs_kI_ok rfl rfl (by decide +kernel) (by decide +kernel) zo_t20 (by decide +kernel) lw_ok (lw_ag [1])) out
set_option maxRecDepth 100000 in
theorem lw_c21 (X : zz_X g p room_1 s m meth c zz_law) (hX : va_X b 6 xs s s.heap) (hg : g.2.1 = b ∧ b ≤ g.1) (hB : cu ≤ 600000 ∧ su ≤ 7302250) (h1 : zz_le zx_c cs) (h2 : zz_le zy_1 cs) (out : ∀ cs', zz_LZ g p l e s m below meth c b 1538 (lw_L 0) [] cs' cu su) : zz_LZ g p l e s m below meth c b 907 (lw_L 0) [] cs cu su :=
  lw_int X hX hg hB h1 h2 (q := 907) (js := [1]) (jc := 111) (jm := 214) (mc := zm_111) (mm := zm_214) (by decide +kernel) rfl rfl (by decide +kernel) (by decide +kernel) (by decide +kernel) (zs_pair2 (jc := 111) (jm := 214) zs_ka_ok (kd := zs_kI) zs_kI_ok rfl rfl (by decide +kernel) (by decide +kernel) zo_t21 (by decide +kernel) lw_ok (lw_ag [1])) out
set_option maxRecDepth 100000 in
theorem lw_c22 (X : zz_X g p room_1 s m meth c zz_law) (hX : va_X b 6 xs s s.heap) (hg : g.2.1 = b ∧ b ≤ g.1) (hB : cu ≤ 600000 ∧ su ≤ 7302250) (h1 : zz_le zx_c cs) (h2 : zz_le zy_1 cs) (out : ∀ cs', zz_LZ g p l e s m below meth c b 1538 (lw_L 0) [] cs' cu su) : zz_LZ g p l e s m below meth c b 930 (lw_L 0) [] cs cu su :=
  lw_int X hX hg hB h1 h2 (q := 930) (js := [1]) (jc := 118) (jm := 219) (mc := zm_118) (mm := zm_219) (by decide +kernel) rfl rfl (by decide +kernel) (by decide +kernel) (by decide +kernel) (zs_pair2 (jc := 118) (jm := 219) zs_ka_ok (kd := zs_kI) zs_kI_ok rfl rfl (by decide +kernel) (by decide +kernel) zo_t22 (by decide +kernel) lw_ok (lw_ag [1])) out
set_option maxRecDepth 100000 in
theorem lw_c23 (X : zz_X g p room_1 s m meth c zz_law) (hX : va_X b 6 xs s s.heap) (hg : g.2.1 = b ∧ b ≤ g.1) (hB : cu ≤ 600000 ∧ su ≤ 7302250) (h1 : zz_le zx_c cs) (h2 : zz_le zy_1 cs) (out : ∀ cs', zz_LZ g p l e s m below meth c b 1538 (lw_L 0) [] cs' cu su) : zz_LZ g p l e s m below meth c b 953 (lw_L 0) [] cs cu su :=
  lw_int X hX hg hB h1 h2 (q := 953) (js := [1]) (jc := 119) (jm := 220) (mc := zm_119) (mm := zm_220) (by decide +kernel) rfl rfl (by decide +kernel) (by decide +kernel) (by decide +kernel) (zs_pair2 (jc := 119) (jm := 220) zs_ka_ok (kd := zs_kI) zs_kI_ok rfl rfl (by decide +kernel) (by decide +kernel) zo_t23 (by decide +kernel) lw_ok (lw_ag [1])) out
set_option maxRecDepth 100000 in
theorem lw_c24 (X : zz_X g p room_1 s m meth c zz_law) (hX : va_X b 6 xs s s.heap) (hg : g.2.1 = b ∧ b ≤ g.1) (hB : cu ≤ 600000 ∧ su ≤ 7302250) (h1 : zz_le zx_c cs) (h2 : zz_le zy_1 cs) (out : ∀ cs', zz_LZ g p l e s m below meth c b 1538 (lw_L 0) [] cs' cu su) : zz_LZ g p l e s m below meth c b 976 (lw_L 0) [] cs cu su :=
  lw_int X hX hg hB h1 h2 (q := 976) (js := [1]) (jc := 121) (jm := 221) (mc := zm_121) (mm := zm_221) (by decide +kernel) rfl rfl (by decide +kernel) (by decide +kernel) (by decide +kernel) (zs_pair2 (jc := 121) (jm := 221) zs_ka_ok (kd := zs_kI) zs_kI_ok rfl rfl (by decide +kernel) (by decide +kernel) zo_t24 (by decide +kernel) lw_ok (lw_ag [1])) out
set_option maxRecDepth 100000 in
theorem lw_c25 (X : zz_X g p room_1 s m meth c zz_law) (hX : va_X b 6 xs s s.heap) (hg : g.2.1 = b ∧ b ≤ g.1) (hB : cu ≤ 600000 ∧ su ≤ 7302250) (h1 : zz_le zx_c cs) (h2 : zz_le zy_1 cs) (out : ∀ cs', zz_LZ g p l e s m below meth c b 1538 (lw_L 0) [] cs' cu su) : zz_LZ g p l e s m below meth c b 999 (lw_L 0) [] cs cu su :=
  lw_int X hX hg hB h1 h2 (q := 999) (js := [1, 2]) (jc := 123) (jm := 222) (mc := zm_123) (mm := zm_222) (by decide +kernel) rfl rfl (by decide +kernel) (by decide +kernel) (by decide +kernel) (zs_pair2 (jc := 123) (jm := 222) zs_ka_ok (kd := zs_kI) zs_kI_ok rfl rfl (by decide +kernel) (by decide +kernel) zo_t25 (by decide +kernel) lw_ok (lw_ag [1, 2])) out
set_option maxRecDepth 100000 in
theorem lw_c26 (X : zz_X g p room_1 s m meth c zz_law) (hX : va_X b 6 xs s s.heap) (hg : g.2.1 = b ∧ b ≤ g.1) (hB : cu ≤ 600000 ∧ su ≤ 7302250) (h1 : zz_le zx_c cs) (h2 : zz_le zy_1 cs) (out : ∀ cs', zz_LZ g p l e s m below meth c b 1538 (lw_L 0) [] cs' cu su) : zz_LZ g p l e s m below meth c b 1032 (lw_L 0) [] cs cu su :=
  lw_int X hX hg hB h1 h2 (q := 1032) (js := [1, 2]) (jc := 130) (jm := 225) (mc := zm_130) (mm := zm_225) (by decide +kernel) rfl rfl (by decide +kernel) (by decide +kernel) (by decide +kernel) (zs_pair2 (jc := 130) (jm := 225) zs_ka_ok (kd := zs_kI) zs_kI_ok rfl rfl (by decide +kernel) (by decide +kernel) zo_t26 (by decide +kernel) lw_ok (lw_ag [1, 2])) out
set_option maxRecDepth 100000 in
theorem lw_c27 (X : zz_X g p room_1 s m meth c zz_law) (hX : va_X b 6 xs s s.heap) (hg : g.2.1 = b ∧ b ≤ g.1) (hB : cu ≤ 600000 ∧ su ≤ 7302250) (h1 : zz_le zx_c cs) (h2 : zz_le zy_1 cs) (out : ∀ cs', zz_LZ g p l e s m below meth c b 1538 (lw_L 0) [] cs' cu su) : zz_LZ g p l e s m below meth c b 1065 (lw_L 0) [] cs cu su :=
  lw_int X hX hg hB h1 h2 (q := 1065) (js := [1, 2]) (jc := 132) (jm := 228) (mc := zm_132) (mm := zm_228) (by decide +kernel) rfl rfl (by decide +kernel) (by decide +kernel) (by decide +kernel) (zs_pair2 (jc := 132) (jm := 228) zs_ka_ok (kd := zs_kI) zs_kI_ok rfl rfl (by decide +kernel) (by decide +kernel) zo_t27 (by decide +kernel) lw_ok (lw_ag [1, 2])) out
set_option maxRecDepth 100000 in
theorem lw_c28 (X : zz_X g p room_1 s m meth c zz_law) (hX : va_X b 6 xs s s.heap) (hg : g.2.1 = b ∧ b ≤ g.1) (hB : cu ≤ 600000 ∧ su ≤ 7302250) (h1 : zz_le zx_c cs) (h2 : zz_le zy_1 cs) (out : ∀ cs', zz_LZ g p l e s m below meth c b 1538 (lw_L 0) [] cs' cu su) : zz_LZ g p l e s m below meth c b 1098 (lw_L 0) [] cs cu su :=
  lw_int X hX hg hB h1 h2 (q := 1098) (js := [1, 2, 3]) (jc := 125) (jm := 229) (mc := zm_125) (mm := zm_229) (by decide +kernel) rfl rfl (by decide +kernel) (by decide +kernel) (by decide +kernel) (zs_pair2 (jc := 125) (jm := 229) zs_ka_ok (kd := zs_kI) zs_kI_ok rfl rfl (by decide +kernel) (by decide +kernel) zo_t28 (by decide +kernel) lw_ok (lw_ag [1, 2, 3])) out
set_option maxRecDepth 100000 in
theorem lw_c29 (X : zz_X g p room_1 s m meth c zz_law) (hX : va_X b 6 xs s s.heap) (hg : g.2.1 = b ∧ b ≤ g.1) (hB : cu ≤ 600000 ∧ su ≤ 7302250) (h1 : zz_le zx_c cs) (h2 : zz_le zy_1 cs) (out : ∀ cs', zz_LZ g p l e s m below meth c b 1538 (lw_L 0) [] cs' cu su) : zz_LZ g p l e s m below meth c b 1141 (lw_L 0) [] cs cu su :=
  lw_long X hX hg hB h1 h2 (q := 1141) (js := [1, 2, 3, 4]) (jc := 133) (jm := 230) (mc := zm_133) (mm := zm_230) (by decide +kernel) rfl rfl (by decide +kernel) (by decide +kernel) (by decide +kernel) (zs_pair2 (jc := 133) (jm := 230) zs_ka_ok (kd := zs_isJ) zs_kJ_ok rfl rfl (by decide +kernel) (by decide +kernel) zo_t29 (by decide +kernel) lw_ok (lw_ag [1, 2, 3, 4])) out
set_option maxRecDepth 100000 in
theorem lw_c30 (X : zz_X g p room_1 s m meth c zz_law) (hX : va_X b 6 xs s s.heap) (hg : g.2.1 = b ∧ b ≤ g.1) (hB : cu ≤ 600000 ∧ su ≤ 7302250) (h1 : zz_le zx_c cs) (h2 : zz_le zy_1 cs) (out : ∀ cs', zz_LZ g p l e s m below meth c b 1538 (lw_L 0) [] cs' cu su) : zz_LZ g p l e s m below meth c b 1195 (lw_L 0) [] cs cu su :=
  lw_int X hX hg hB h1 h2 (q := 1195) (js := [1, 2]) (jc := 136) (jm := 233) (mc := zm_136) (mm := zm_233) (by decide +kernel) rfl rfl (by decide +kernel) (by decide +kernel) (by decide +kernel) (zs_pair2 (jc := 136) (jm := 233) zs_ka_ok (kd := zs_kI) zs_kI_ok rfl rfl (by decide +kernel) (by decide +kernel) zo_t30 (by decide +kernel) lw_ok (lw_ag [1, 2])) out
set_option maxRecDepth 100000 in
theorem lw_c31 (X : zz_X g p room_1 s m meth c zz_law) (hX : va_X b 6 xs s s.heap) (hg : g.2.1 = b ∧ b ≤ g.1) (hB : cu ≤ 600000 ∧ su ≤ 7302250) (h1 : zz_le zx_c cs) (h2 : zz_le zy_1 cs) (out : ∀ cs', zz_LZ g p l e s m below meth c b 1538 (lw_L 0) [] cs' cu su) : zz_LZ g p l e s m below meth c b 1228 (lw_L 0) [] cs cu su :=
  lw_int X hX hg hB h1 h2 (q := 1228) (js := [1]) (jc := 138) (jm := 234) (mc := zm_138) (mm := zm_234) (by decide +kernel) rfl rfl (by decide +kernel) (by decide +kernel) (by decide +kernel) (zs_pair2 (jc := 138) (jm := 234) zs_ka_ok (kd := zs_kI) zs_kI_ok rfl rfl (by decide +kernel) (by decide +kernel) zo_t31 (by decide +kernel) lw_ok (lw_ag [1])) out
set_option maxRecDepth 100000 in
theorem lw_c32 (X : zz_X g p room_1 s m meth c zz_law) (hX : va_X b 6 xs s s.heap) (hg : g.2.1 = b ∧ b ≤ g.1) (hB : cu ≤ 600000 ∧ su ≤ 7302250) (h1 : zz_le zx_c cs) (h2 : zz_le zy_1 cs) (out : ∀ cs', zz_LZ g p l e s m below meth c b 1538 (lw_L 0) [] cs' cu su) : zz_LZ g p l e s m below meth c b 1251 (lw_L 0) [] cs cu su :=
  lw_int X hX hg hB h1 h2 (q := 1251) (js := [1]) (jc := 142) (jm := 239) (mc := zm_142) (mm := zm_239) (by decide +kernel) rfl rfl (by decide +kernel) (by decide +kernel) (by decide +kernel) (zs_pair2 (jc := 142) (jm := 239) zs_ka_ok (kd := zs_kI) zs_kI_ok rfl rfl (by decide +kernel) (by decide +kernel) zo_t32 (by decide +kernel) lw_ok (lw_ag [1])) out
set_option maxRecDepth 100000 in
theorem lw_c33 (X : zz_X g p room_1 s m meth c zz_law) (hX : va_X b 6 xs s s.heap) (hg : g.2.1 = b ∧ b ≤ g.1) (hB : cu ≤ 600000 ∧ su ≤ 7302250) (h1 : zz_le zx_c cs) (h2 : zz_le zy_1 cs) (out : ∀ cs', zz_LZ g p l e s m below meth c b 1538 (lw_L 0) [] cs' cu su) : zz_LZ g p l e s m below meth c b 1274 (lw_L 0) [] cs cu su :=
  lw_long X hX hg hB h1 h2 (q := 1274) (js := [1, 2]) (jc := 135) (jm := 240) (mc := zm_135) (mm := zm_240) (by decide +kernel) rfl rfl (by decide +kernel) (by decide +kernel) (by decide +kernel) (zs_pair2 (jc := 135) (jm := 240) zs_ka_ok (kd := zs_isJ) zs_kJ_ok rfl rfl (by decide +kernel) (by decide +kernel) zo_t33 (by decide +kernel) lw_ok (lw_ag [1, 2])) out
set_option maxRecDepth 100000 in
theorem lw_c34 (X : zz_X g p room_1 s m meth c zz_law) (hX : va_X b 6 xs s s.heap) (hg : g.2.1 = b ∧ b ≤ g.1) (hB : cu ≤ 600000 ∧ su ≤ 7302250) (h1 : zz_le zx_c cs) (h2 : zz_le zy_1 cs) (out : ∀ cs', zz_LZ g p l e s m below meth c b 1538 (lw_L 0) [] cs' cu su) : zz_LZ g p l e s m below meth c b 1308 (lw_L 0) [] cs cu su :=
  lw_int X hX hg hB h1 h2 (q := 1308) (js := [1]) (jc := 143) (jm := 241) (mc := zm_143) (mm := zm_241) (by decide +kernel) rfl rfl (by decide +kernel) (by decide +kernel) (by decide +kernel) (zs_pair2 (jc := 143) (jm := 241) zs_ka_ok (kd := zs_kI) zs_kI_ok rfl rfl (by decide +kernel) (by decide +kernel) zo_t34 (by decide +kernel) lw_ok (lw_ag [1])) out
set_option maxRecDepth 100000 in
theorem lw_c35 (X : zz_X g p room_1 s m meth c zz_law) (hX : va_X b 6 xs s s.heap) (hg : g.2.1 = b ∧ b ≤ g.1) (hB : cu ≤ 600000 ∧ su ≤ 7302250) (h1 : zz_le zx_c cs) (h2 : zz_le zy_1 cs) (out : ∀ cs', zz_LZ g p l e s m below meth c b 1538 (lw_L 0) [] cs' cu su) : zz_LZ g p l e s m below meth c b 1331 (lw_L 0) [] cs cu su :=
  lw_int X hX hg hB h1 h2 (q := 1331) (js := [1]) (jc := 144) (jm := 242) (mc := zm_144) (mm := zm_242) (by decide +kernel) rfl rfl (by decide +kernel) (by decide +kernel) (by decide +kernel) (zs_pair2 (jc := 144) (jm := 242) zs_ka_ok (kd := zs_kI) zs_kI_ok rfl rfl (by decide +kernel) (by decide +kernel) zo_t35 (by decide +kernel) lw_ok (lw_ag [1])) out
set_option maxRecDepth 100000 in
theorem lw_c36 (X : zz_X g p room_1 s m meth c zz_law) (hX : va_X b 6 xs s s.heap) (hg : g.2.1 = b ∧ b ≤ g.1) (hB : cu ≤ 600000 ∧ su ≤ 7302250) (h1 : zz_le zx_c cs) (h2 : zz_le zy_1 cs) (out : ∀ cs', zz_LZ g p l e s m below meth c b 1538 (lw_L 0) [] cs' cu su) : zz_LZ g p l e s m below meth c b 1354 (lw_L 0) [] cs cu su :=
  lw_int X hX hg hB h1 h2 (q := 1354) (js := [1, 2, 3]) (jc := 101) (jm := 246) (mc := zm_101) (mm := zm_246) (by decide +kernel) rfl rfl (by decide +kernel) (by decide +kernel) (by decide +kernel) (zs_pair2 (jc := 101) (jm := 246) zs_ka_ok (kd := zs_kI) zs_kI_ok rfl rfl (by decide +kernel) (by decide +kernel) zo_t36 (by decide +kernel) lw_ok (lw_ag [1, 2, 3])) out
set_option maxRecDepth 100000 in
theorem lw_c37 (X : zz_X g p room_1 s m meth c zz_law) (hX : va_X b 6 xs s s.heap) (hg : g.2.1 = b ∧ b ≤ g.1) (hB : cu ≤ 600000 ∧ su ≤ 7302250) (h1 : zz_le zx_c cs) (h2 : zz_le zy_1 cs) (out : ∀ cs', zz_LZ g p l e s m below meth c b 1538 (lw_L 0) [] cs' cu su) : zz_LZ g p l e s m below meth c b 1397 (lw_L 0) [] cs cu su :=
  lw_int X hX hg hB h1 h2 (q := 1397) (js := [1]) (jc := 127) (jm := 247) (mc := zm_127) (mm := zm_247) (by decide +kernel) rfl rfl (by decide +kernel) (by decide +kernel) (by decide +kernel) (zs_pair2 (jc := 127) (jm := 247) zs_ka_ok (kd := zs_kI) zs_kI_ok rfl rfl (by decide +kernel) (by decide +kernel) zo_t37 (by decide +kernel) lw_ok (lw_ag [1])) out
set_option maxRecDepth 100000 in
theorem lw_c38 (X : zz_X g p room_1 s m meth c zz_law) (hX : va_X b 6 xs s s.heap) (hg : g.2.1 = b ∧ b ≤ g.1) (hB : cu ≤ 600000 ∧ su ≤ 7302250) (h1 : zz_le zx_c cs) (h2 : zz_le zy_1 cs) (out : ∀ cs', zz_LZ g p l e s m below meth c b 1538 (lw_L 0) [] cs' cu su) : zz_LZ g p l e s m below meth c b 1420 (lw_L 0) [] cs cu su :=
  lw_int X hX hg hB h1 h2 (q := 1420) (js := []) (jc := 129) (jm := 248) (mc := zm_129) (mm := zm_248) (by decide +kernel) rfl rfl (by decide +kernel) (by decide +kernel) (by decide +kernel) (zs_pair2 (jc := 129) (jm := 248) zs_ka_ok (kd := zs_kI) zs_kI_ok rfl rfl (by decide +kernel) (by decide +kernel) zo_t38 (by decide +kernel) lw_ok (lw_ag [])) out
set_option maxRecDepth 100000 in
theorem lw_c39 (X : zz_X g p room_1 s m meth c zz_law) (hX : va_X b 6 xs s s.heap) (hg : g.2.1 = b ∧ b ≤ g.1) (hB : cu ≤ 600000 ∧ su ≤ 7302250) (h1 : zz_le zx_c cs) (h2 : zz_le zy_1 cs) (out : ∀ cs', zz_LZ g p l e s m below meth c b 1538 (lw_L 0) [] cs' cu su) : zz_LZ g p l e s m below meth c b 1433 (lw_L 0) [] cs cu su :=
  lw_int X hX hg hB h1 h2 (q := 1433) (js := []) (jc := 128) (jm := 249) (mc := zm_128) (mm := zm_249) (by decide +kernel) rfl rfl (by decide +kernel) (by decide +kernel) (by decide +kernel) (zs_pair2 (jc := 128) (jm := 249) zs_ka_ok (kd := zs_kI) zs_kI_ok rfl rfl (by decide +kernel) (by decide +kernel) zo_t39 (by decide +kernel) lw_ok (lw_ag [])) out
set_option maxRecDepth 100000 in
theorem lw_c40 (X : zz_X g p room_1 s m meth c zz_law) (hX : va_X b 6 xs s s.heap) (hg : g.2.1 = b ∧ b ≤ g.1) (hB : cu ≤ 600000 ∧ su ≤ 7302250) (h1 : zz_le zx_c cs) (h2 : zz_le zy_1 cs) (out : ∀ cs', zz_LZ g p l e s m below meth c b 1538 (lw_L 0) [] cs' cu su) : zz_LZ g p l e s m below meth c b 1446 (lw_L 0) [] cs cu su :=
  lw_int X hX hg hB h1 h2 (q := 1446) (js := [1, 2, 3]) (jc := 137) (jm := 250) (mc := zm_137) (mm := zm_250) (by decide +kernel) rfl rfl (by decide +kernel) (by decide +kernel) (by decide +kernel) (zs_pair2 (jc := 137) (jm := 250) zs_ka_ok (kd := zs_kI) zs_kI_ok rfl rfl (by decide +kernel) (by decide +kernel) zo_t40 (by decide +kernel) lw_ok (lw_ag [1, 2, 3])) out
set_option maxRecDepth 100000 in
theorem lw_c41 (X : zz_X g p room_1 s m meth c zz_law) (hX : va_X b 6 xs s s.heap) (hg : g.2.1 = b ∧ b ≤ g.1) (hB : cu ≤ 600000 ∧ su ≤ 7302250) (h1 : zz_le zx_c cs) (h2 : zz_le zy_1 cs) (out : ∀ cs', zz_LZ g p l e s m below meth c b 1538 (lw_L 0) [] cs' cu su) : zz_LZ g p l e s m below meth c b 1489 (lw_L 0) [] cs cu su :=
  lw_int X hX hg hB h1 h2 (q := 1489) (js := []) (jc := 94) (jm := 181) (mc := zm_94) (mm := zm_181) (by decide +kernel) rfl rfl (by decide +kernel) (by decide +kernel) (by decide +kernel) (zs_pair2 (jc := 94) (jm := 181) zs_ka_ok (kd := zs_kI) zs_kI_ok rfl rfl (by decide +kernel) (by decide +kernel) zo_t41 (by decide +kernel) lw_ok (lw_ag [])) out
set_option maxRecDepth 100000 in
theorem lw_c42 (X : zz_X g p room_1 s m meth c zz_law) (hX : va_X b 6 xs s s.heap) (hg : g.2.1 = b ∧ b ≤ g.1) (hB : cu ≤ 600000 ∧ su ≤ 7302250) (h1 : zz_le zx_c cs) (h2 : zz_le zy_1 cs) (out : ∀ cs', zz_LZ g p l e s m below meth c b 1538 (lw_L 0) [] cs' cu su) : zz_LZ g p l e s m below meth c b 1502 (lw_L 0) [] cs cu su :=
  lw_int X hX hg hB h1 h2 (q := 1502) (js := []) (jc := 95) (jm := 182) (mc := zm_95) (mm := zm_182) (by decide +kernel) rfl rfl (by decide +kernel) (by decide +kernel) (by decide +kernel) (zs_pair2 (jc := 95) (jm := 182) zs_ka_ok (kd := zs_kI) zs_kI_ok rfl rfl (by decide +kernel) (by decide +kernel) zo_t42 (by decide +kernel) lw_ok (lw_ag [])) out
set_option maxRecDepth 100000 in
theorem lw_c43 (X : zz_X g p room_1 s m meth c zz_law) (hX : va_X b 6 xs s s.heap) (hg : g.2.1 = b ∧ b ≤ g.1) (hB : cu ≤ 600000 ∧ su ≤ 7302250) (h1 : zz_le zx_c cs) (h2 : zz_le zy_1 cs) (out : ∀ cs', zz_LZ g p l e s m below meth c b 1538 (lw_L 0) [] cs' cu su) : zz_LZ g p l e s m below meth c b 1515 (lw_L 0) [] cs cu su :=
  lw_int X hX hg hB h1 h2 (q := 1515) (js := [1]) (jc := 78) (jm := 252) (mc := zm_78) (mm := zm_252) (by decide +kernel) rfl rfl (by decide +kernel) (by decide +kernel) (by decide +kernel) (zs_pair2 (jc := 78) (jm := 252) zs_ka_ok (kd := zs_kI) zs_kI_ok rfl rfl (by decide +kernel) (by decide +kernel) zo_t43 (by decide +kernel) lw_ok (lw_ag [1])) out
end LW4
