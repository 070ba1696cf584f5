/-! the law's cases -/
noncomputable def l_an (n : Int) (j : Nat) (p : Int) : Int := match j with
  | 0 => p
  | _ => n + p
theorem l_fd {c : tCon} {key i j : Nat} {n p q lo hi : Int} {z : Int32} {cs cs' : zz_W} {v : Option Value} (hj : j = 0 ∨ j = 2) (hPre : c.2.2.1 = [(key, lo, hi)]) (hO : c.2.2.2.2.2.1 = [(some (.inl (j, p, p)), [(key, .inl (2, q, q))])]) (hn : t_inP cs [(key, n, n)]) (hP : t_Pst c (t_r0 c [.ref i, .int z] cs) cs v cs') : (∃ w : Int32, v = some (.int w) ∧ w.toInt = l_an n j p) ∧ t_inP cs' [(key, n + q, n + q)] := by
  obtain ⟨-, -, ⟨a, h1, h2, h3⟩, -⟩ := hP
  rw [hO] at h1
  have h1 : a = (some (.inl (j, p, p)), [(key, .inl (2, q, q))]) := by simpa using h1
  subst h1
  obtain ⟨-, x, hx, hx1, hx2⟩ := hn _ List.mem_cons_self
  have hpv : t_pv cs key = n := by
    rw [t_pv_of hx]
    dsimp only at hx1 hx2
    omega
  have e0 : t_r0 c [.ref i, .int z] cs = [z.toInt, n] := by
    unfold t_r0 t_pvs
    rw [hPre]
    show [z.toInt] ++ [t_pv cs key] = _
    rw [hpv]
    rfl
  rw [e0] at h2 h3
  refine ⟨?_, ?_⟩
  · obtain ⟨u, rfl, w, rfl, y, hy, g1, g2⟩ := h2
    refine ⟨w, rfl, ?_⟩
    dsimp only at hy g1 g2
    rcases hj with rfl | rfl
    · cases hy
      show w.toInt = p
      omega
    · cases hy
      show w.toInt = n + p
      omega
  · obtain ⟨s1, u, s2, w, rfl, y, hy, g1, g2⟩ := h3 _ List.mem_cons_self
    dsimp only at s1 s2 hy g1 g2
    cases hy
    intro r hr
    have hr : r = (key, n + q, n + q) := by simpa using hr
    subst hr
    exact ⟨s1, w, s2, g1, g2⟩
section LS1
variable {a b lo hi p q n m : Int} {j : Nat} {c : tCon} {z : Int32} {cs : zz_W}
theorem l_fin {r i : Nat} {A : List ta} (hA : A = [.inr (.inr (.inl r)), .inl (0, a, b)]) (hi : t_rl[i]? = some r) (hz : a ≤ z.toInt ∧ z.toInt ≤ b) : t_inA A [.ref i, .int z] := by
  subst hA
  exact ⟨⟨i, rfl, hi⟩, ⟨z, rfl, hz.1, hz.2⟩, trivial⟩
theorem l_fx (hk : t_Con c) (h0 : c.1 = 127) (hA : c.2.1 = [.inr (.inr (.inl 0)), .inl (0, a, b)]) (hPre : c.2.2.1 = [(l_kL, lo, hi)]) (hO : c.2.2.2.2.2.1 = [(some (.inl (j, p, p)), [(l_kL, .inl (2, q, q))])]) (hf : l_fst [(l_kL, lo, hi)] c = true) (hM : t_keep c.2.2.2.2.1 l_kM = true) (hj : j = 0 ∨ j = 2) (hz : a ≤ z.toInt ∧ z.toInt ≤ b) (hn : lo ≤ n ∧ n ≤ hi) (hJ : l_J n m cs) : tr_run zm_127 (0, zz_ent zm_127.2.2.1 [.ref 1, .int z], [], cs, 0, 0) (fun v cs' => (∃ w : Int32, v = some (.int w) ∧ w.toInt = l_an n j p) ∧ l_J (n + q) m cs') := by
  refine tr_mono (l_stay hk (X := [(l_kL, lo, hi)]) hf (by rw [h0]; rfl) hJ.1 (l_fX hJ.2.1 hn) (l_fin hA (by decide +kernel) hz)) ?_
  rintro v cs' ⟨h1, h2⟩
  obtain ⟨h3, h4⟩ := l_fd hj hPre hO hJ.2.1 h2
  exact ⟨h3, h1, h4, l_kone hM hJ.ty h2.2.1 hJ.2.2⟩
theorem l_fm (hk : t_Con c) (h0 : c.1 = 247) (hA : c.2.1 = [.inr (.inr (.inl 77)), .inl (0, a, b)]) (hPre : c.2.2.1 = [(l_kM, lo, hi)]) (hO : c.2.2.2.2.2.1 = [(some (.inl (j, p, p)), [(l_kM, .inl (2, q, q))])]) (hf : l_fst [(l_kM, lo, hi)] c = true) (hM : t_keep c.2.2.2.2.1 l_kL = true) (hj : j = 0 ∨ j = 2) (hz : a ≤ z.toInt ∧ z.toInt ≤ b) (hn : lo ≤ m ∧ m ≤ hi) (hJ : l_J n m cs) : tr_run zm_247 (0, zz_ent zm_247.2.2.1 [.ref 271, .int z], [], cs, 0, 0) (fun v cs' => (∃ w : Int32, v = some (.int w) ∧ w.toInt = l_an m j p) ∧ l_J n (m + q) cs') := by
  refine tr_mono (l_stay hk (X := [(l_kM, lo, hi)]) hf (by rw [h0]; rfl) hJ.1 (l_fX hJ.2.2 hn) (l_fin hA (by decide +kernel) hz)) ?_
  rintro v cs' ⟨h1, h2⟩
  obtain ⟨h3, h4⟩ := l_fd hj hPre hO hJ.2.2 h2
  exact ⟨h3, h1, l_kone hM hJ.ty h2.2.1 hJ.2.1, h4⟩
end LS1
theorem lk_0 : l_XK false 1 zm_12 zm_150 := fun us cs n0 hl hu b1 b2 hJ => ⟨n0, b1, b2, lx_12 hl hu hJ, fun cs' hJ' => lm_150 hl hu hJ'⟩
theorem lk_1 : l_XK false 0 zm_16 zm_152 := fun us cs n0 hl hu b1 b2 hJ => ⟨n0, b1, b2, lx_16 hl hu hJ, fun cs' hJ' => lm_152 hl hu hJ'⟩
theorem lk_2 : l_XK false 2 zm_74 zm_184 := fun us cs n0 hl hu b1 b2 hJ => ⟨n0, b1, b2, lx_74 hl hu hJ, fun cs' hJ' => lm_184 hl hu hJ'⟩
theorem lk_3 : l_XK false 2 zm_75 zm_185 := fun us cs n0 hl hu b1 b2 hJ => ⟨n0, b1, b2, lx_75 hl hu hJ, fun cs' hJ' => lm_185 hl hu hJ'⟩
theorem lk_4 : l_XK false 2 zm_76 zm_186 := fun us cs n0 hl hu b1 b2 hJ => ⟨n0, b1, b2, lx_76 hl hu hJ, fun cs' hJ' => lm_186 hl hu hJ'⟩
theorem lk_5 : l_XK false 2 zm_77 zm_187 := fun us cs n0 hl hu b1 b2 hJ => ⟨n0, b1, b2, lx_77 hl hu hJ, fun cs' hJ' => lm_187 hl hu hJ'⟩
theorem lk_6 : l_XK false 2 zm_84 zm_188 := fun us cs n0 hl hu b1 b2 hJ => ⟨n0, b1, b2, lx_84 hl hu hJ, fun cs' hJ' => lm_188 hl hu hJ'⟩
theorem lk_7 : l_XK false 2 zm_85 zm_190 := fun us cs n0 hl hu b1 b2 hJ => ⟨n0, b1, b2, lx_85 hl hu hJ, fun cs' hJ' => lm_190 hl hu hJ'⟩
theorem lk_8 : l_XK false 3 zm_86 zm_191 := fun us cs n0 hl hu b1 b2 hJ => ⟨n0, b1, b2, lx_86 hl hu hJ, fun cs' hJ' => lm_191 hl hu hJ'⟩
theorem lk_9 : l_XK false 3 zm_88 zm_193 := fun us cs n0 hl hu b1 b2 hJ => ⟨n0, b1, b2, lx_88 hl hu hJ, fun cs' hJ' => lm_193 hl hu hJ'⟩
theorem lk_10 : l_XK false 5 zm_89 zm_194 := fun us cs n0 hl hu b1 b2 hJ => ⟨n0, b1, b2, lx_89 hl hu hJ, fun cs' hJ' => lm_194 hl hu hJ'⟩
theorem lk_11 : l_XK false 1 zm_90 zm_197 := fun us cs n0 hl hu b1 b2 hJ => ⟨n0, b1, b2, lx_90 hl hu hJ, fun cs' hJ' => lm_197 hl hu hJ'⟩
theorem lk_12 : l_XK false 0 zm_92 zm_183 := fun us cs n0 hl hu b1 b2 hJ => ⟨n0, b1, b2, lx_92 hl hu hJ, fun cs' hJ' => lm_183 hl hu hJ'⟩
theorem lk_13 : l_XK false 3 zm_96 zm_200 := fun us cs n0 hl hu b1 b2 hJ => ⟨n0, b1, b2, lx_96 hl hu hJ, fun cs' hJ' => lm_200 hl hu hJ'⟩
theorem lk_14 : l_XK false 3 zm_98 zm_201 := fun us cs n0 hl hu b1 b2 hJ => ⟨n0, b1, b2, lx_98 hl hu hJ, fun cs' hJ' => lm_201 hl hu hJ'⟩
theorem lk_15 : l_XK false 1 zm_102 zm_203 := fun us cs n0 hl hu b1 b2 hJ => ⟨n0, b1, b2, lx_102 hl hu hJ, fun cs' hJ' => lm_203 hl hu hJ'⟩
theorem lk_16 : l_XK false 1 zm_103 zm_205 := fun us cs n0 hl hu b1 b2 hJ => ⟨n0, b1, b2, lx_103 hl hu hJ, fun cs' hJ' => lm_205 hl hu hJ'⟩
theorem lk_17 : l_XK false 2 zm_105 zm_207 := fun us cs n0 hl hu b1 b2 hJ => ⟨n0, b1, b2, lx_105 hl hu hJ, fun cs' hJ' => lm_207 hl hu hJ'⟩
theorem lk_18 : l_XK false 2 zm_106 zm_208 := fun us cs n0 hl hu b1 b2 hJ => ⟨n0, b1, b2, lx_106 hl hu hJ, fun cs' hJ' => lm_208 hl hu hJ'⟩
theorem lk_19 : l_XK false 3 zm_108 zm_211 := fun us cs n0 hl hu b1 b2 hJ => ⟨n0, b1, b2, lx_108 hl hu hJ, fun cs' hJ' => lm_211 hl hu hJ'⟩
theorem lk_20 : l_XK false 1 zm_109 zm_212 := fun us cs n0 hl hu b1 b2 hJ => ⟨n0, b1, b2, lx_109 hl hu hJ, fun cs' hJ' => lm_212 hl hu hJ'⟩
theorem lk_21 : l_XK false 1 zm_111 zm_214 := fun us cs n0 hl hu b1 b2 hJ => ⟨n0, b1, b2, lx_111 hl hu hJ, fun cs' hJ' => lm_214 hl hu hJ'⟩
theorem lk_22 : l_XK false 1 zm_118 zm_219 := fun us cs n0 hl hu b1 b2 hJ => ⟨n0, b1, b2, lx_118 hl hu hJ, fun cs' hJ' => lm_219 hl hu hJ'⟩
theorem lk_23 : l_XK false 1 zm_119 zm_220 := fun us cs n0 hl hu b1 b2 hJ => ⟨n0, b1, b2, lx_119 hl hu hJ, fun cs' hJ' => lm_220 hl hu hJ'⟩
theorem lk_24 : l_XK false 1 zm_121 zm_221 := fun us cs n0 hl hu b1 b2 hJ => ⟨n0, b1, b2, lx_121 hl hu hJ, fun cs' hJ' => lm_221 hl hu hJ'⟩
theorem lk_25 : l_XK false 2 zm_123 zm_222 := fun us cs n0 hl hu b1 b2 hJ => ⟨n0, b1, b2, lx_123 hl hu hJ, fun cs' hJ' => lm_222 hl hu hJ'⟩
theorem lk_26 : l_XK false 2 zm_130 zm_225 := fun us cs n0 hl hu b1 b2 hJ => ⟨n0, b1, b2, lx_130 hl hu hJ, fun cs' hJ' => lm_225 hl hu hJ'⟩
theorem lk_27 : l_XK false 2 zm_132 zm_228 := fun us cs n0 hl hu b1 b2 hJ => ⟨n0, b1, b2, lx_132 hl hu hJ, fun cs' hJ' => lm_228 hl hu hJ'⟩
theorem lk_28 : l_XK false 3 zm_125 zm_229 := fun us cs n0 hl hu b1 b2 hJ => ⟨n0, b1, b2, lx_125 hl hu hJ, fun cs' hJ' => lm_229 hl hu hJ'⟩
theorem lk_29 : l_XK true 4 zm_133 zm_230 := fun us cs n0 hl hu b1 b2 hJ => ⟨n0, b1, b2, lx_133 hl hu hJ, fun cs' hJ' => lm_230 hl hu hJ'⟩
theorem lk_30 : l_XK false 2 zm_136 zm_233 := fun us cs n0 hl hu b1 b2 hJ => ⟨n0, b1, b2, lx_136 hl hu hJ, fun cs' hJ' => lm_233 hl hu hJ'⟩
theorem lk_31 : l_XK false 1 zm_138 zm_234 := fun us cs n0 hl hu b1 b2 hJ => ⟨n0, b1, b2, lx_138 hl hu hJ, fun cs' hJ' => lm_234 hl hu hJ'⟩
theorem lk_32 : l_XK false 1 zm_142 zm_239 := fun us cs n0 hl hu b1 b2 hJ => ⟨n0, b1, b2, lx_142 hl hu hJ, fun cs' hJ' => lm_239 hl hu hJ'⟩
theorem lk_33 : l_XK true 2 zm_135 zm_240 := fun us cs n0 hl hu b1 b2 hJ => ⟨n0, b1, b2, lx_135 hl hu hJ, fun cs' hJ' => lm_240 hl hu hJ'⟩
theorem lk_34 : l_XK false 1 zm_143 zm_241 := fun us cs n0 hl hu b1 b2 hJ => ⟨n0, b1, b2, lx_143 hl hu hJ, fun cs' hJ' => lm_241 hl hu hJ'⟩
theorem lk_35 : l_XK false 1 zm_144 zm_242 := fun us cs n0 hl hu b1 b2 hJ => ⟨n0, b1, b2, lx_144 hl hu hJ, fun cs' hJ' => lm_242 hl hu hJ'⟩
theorem lk_36 : l_XK false 3 zm_101 zm_246 := fun us cs n0 hl hu b1 b2 hJ => ⟨n0, b1, b2, lx_101 hl hu hJ, fun cs' hJ' => lm_246 hl hu hJ'⟩
theorem lk_37 : l_XK false 1 zm_127 zm_247 := by
  intro us cs n0 hl hu b1 b2 hJ
  obtain ⟨z, rfl⟩ : ∃ z : Int32, us = [.int z] := by
    match us, hl, hu with
    | [u], _, hu =>
      obtain ⟨z, rfl⟩ := hu u List.mem_cons_self
      exact ⟨z, rfl⟩
  have hz1 := z.le_toInt
  have hz2 := z.toInt_lt
  have fin : ∀ {mi : zz_Mi} {σ : zz_S} {r : Int} {D : zz_W → Prop}, tr_run mi σ (fun v cs' => (∃ w : Int32, v = some (.int w) ∧ w.toInt = r) ∧ D cs') → tr_run mi σ (fun v cs' => l_k false v ∧ D cs') := fun hh => tr_mono hh (fun v cs' a => ⟨a.1.elim (fun w hw => ⟨w, hw.1⟩), a.2⟩)
  by_cases h1 : z.toInt < 0
  · have hz : Int.negSucc 2147483647 ≤ z.toInt ∧ z.toInt ≤ Int.negSucc 0 := ⟨by rw [Int.negSucc_eq]; omega, by rw [Int.negSucc_eq]; omega⟩
    exact ⟨n0 + .ofNat 0, by show 0 ≤ n0 + 0; omega, by show n0 + 0 ≤ 12; omega, fin (l_fx k_256 rfl rfl rfl rfl (by decide +kernel) (by decide +kernel) (Or.inl rfl) hz ⟨b1, b2⟩ hJ), fun cs' hJ' => fin (l_fm k_260 rfl rfl rfl rfl (by decide +kernel) (by decide +kernel) (Or.inl rfl) hz ⟨b1, b2⟩ hJ')⟩
  · by_cases h2 : 99 < z.toInt
    · have hz : Int.ofNat 100 ≤ z.toInt ∧ z.toInt ≤ Int.ofNat 2147483647 := ⟨by rw [Int.ofNat_eq_natCast]; omega, by rw [Int.ofNat_eq_natCast]; omega⟩
      exact ⟨n0 + .ofNat 0, by show 0 ≤ n0 + 0; omega, by show n0 + 0 ≤ 12; omega, fin (l_fx k_257 rfl rfl rfl rfl (by decide +kernel) (by decide +kernel) (Or.inl rfl) hz ⟨b1, b2⟩ hJ), fun cs' hJ' => fin (l_fm k_261 rfl rfl rfl rfl (by decide +kernel) (by decide +kernel) (Or.inl rfl) hz ⟨b1, b2⟩ hJ')⟩
    · have hz : Int.ofNat 0 ≤ z.toInt ∧ z.toInt ≤ Int.ofNat 99 := ⟨by rw [Int.ofNat_eq_natCast]; omega, by rw [Int.ofNat_eq_natCast]; omega⟩
      by_cases h3 : n0 = 12
      · have hn : Int.ofNat 12 ≤ n0 ∧ n0 ≤ Int.ofNat 12 := ⟨by rw [Int.ofNat_eq_natCast]; omega, by rw [Int.ofNat_eq_natCast]; omega⟩
        exact ⟨n0 + .ofNat 0, by show 0 ≤ n0 + 0; omega, by show n0 + 0 ≤ 12; omega, fin (l_fx k_258 rfl rfl rfl rfl (by decide +kernel) (by decide +kernel) (Or.inl rfl) hz hn hJ), fun cs' hJ' => fin (l_fm k_262 rfl rfl rfl rfl (by decide +kernel) (by decide +kernel) (Or.inl rfl) hz hn hJ')⟩
      · have hn : Int.ofNat 0 ≤ n0 ∧ n0 ≤ Int.ofNat 11 := ⟨by rw [Int.ofNat_eq_natCast]; omega, by rw [Int.ofNat_eq_natCast]; omega⟩
        exact ⟨n0 + .ofNat 1, by show 0 ≤ n0 + 1; omega, by show n0 + 1 ≤ 12; omega, fin (l_fx k_259 rfl rfl rfl rfl (by decide +kernel) (by decide +kernel) (Or.inr rfl) hz hn hJ), fun cs' hJ' => fin (l_fm k_263 rfl rfl rfl rfl (by decide +kernel) (by decide +kernel) (Or.inr rfl) hz hn hJ')⟩
theorem lk_38 : l_XK false 0 zm_129 zm_248 := fun us cs n0 hl hu b1 b2 hJ => ⟨0, Int.le_refl 0, by decide, lx_129 hl hu hJ, fun cs' hJ' => lm_248 hl hu hJ'⟩
theorem lk_39 : l_XK false 0 zm_128 zm_249 := fun us cs n0 hl hu b1 b2 hJ => ⟨0, Int.le_refl 0, by decide, lx_128 hl hu hJ ⟨b1, b2⟩, fun cs' hJ' => lm_249 hl hu hJ' ⟨b1, b2⟩⟩
theorem lk_40 : l_XK false 3 zm_137 zm_250 := fun us cs n0 hl hu b1 b2 hJ => ⟨n0, b1, b2, lx_137 hl hu hJ, fun cs' hJ' => lm_250 hl hu hJ'⟩
theorem lk_41 : l_XK false 0 zm_94 zm_181 := fun us cs n0 hl hu b1 b2 hJ => ⟨n0, b1, b2, lx_94 hl hu hJ, fun cs' hJ' => lm_181 hl hu hJ'⟩
theorem lk_42 : l_XK false 0 zm_95 zm_182 := fun us cs n0 hl hu b1 b2 hJ => ⟨n0, b1, b2, lx_95 hl hu hJ, fun cs' hJ' => lm_182 hl hu hJ'⟩
theorem lk_43 : l_XK false 1 zm_78 zm_252 := fun us cs n0 hl hu b1 b2 hJ => ⟨n0, b1, b2, lx_78 hl hu hJ, fun cs' hJ' => lm_252 hl hu hJ'⟩
section LS2
variable {g : zz_G} {p : Program} {l : Launch} {e : Env} {s : State} {m : MethodId} {below : List Frame} {meth : Method} {c : Code} {b L0 : Nat} {xs : Nat → Int32} {cu su : Nat} {cs : zz_W} {i : Int32}
theorem lw_c0 (X : zz_X g p room_1 s m meth c zz_law) (hX : va_X b L0 xs s s.heap) (hg : g.2.1 = b ∧ b ≤ g.1) (hB : cu ≤ 600000 ∧ su ≤ 7302250) (hi : 0 ≤ i.toInt ∧ i.toInt + 6 ≤ (L0 : Int) ∧ L0 ≤ 3072) (hJ : l_JJ cs) (out : ∀ cs', l_JJ cs' → zz_LZ g p l e s m below meth c b 1536 (lw_L i) [] cs' cu su) : zz_LZ g p l e s m below meth c b 224 (lw_L i) [] cs cu su := lw_go X hX hg hB hi (q := 224) (jc := 12) (jm := 150) (js := [1]) (lg := false) (by decide +kernel) (mc := zm_12) (mm := zm_150) rfl rfl (by decide +kernel) (by decide +kernel) (by decide +kernel) (by decide +kernel) (by decide +kernel) lk_0 pj_feed hJ out
theorem lw_c1 (X : zz_X g p room_1 s m meth c zz_law) (hX : va_X b L0 xs s s.heap) (hg : g.2.1 = b ∧ b ≤ g.1) (hB : cu ≤ 600000 ∧ su ≤ 7302250) (hi : 0 ≤ i.toInt ∧ i.toInt + 6 ≤ (L0 : Int) ∧ L0 ≤ 3072) (hJ : l_JJ cs) (out : ∀ cs', l_JJ cs' → zz_LZ g p l e s m below meth c b 1536 (lw_L i) [] cs' cu su) : zz_LZ g p l e s m below meth c b 247 (lw_L i) [] cs cu su := lw_go X hX hg hB hi (q := 247) (jc := 16) (jm := 152) (js := []) (lg := false) (by decide +kernel) (mc := zm_16) (mm := zm_152) rfl rfl (by decide +kernel) (by decide +kernel) (by decide +kernel) (by decide +kernel) (by decide +kernel) lk_1 pj_town hJ out
theorem lw_c2 (X : zz_X g p room_1 s m meth c zz_law) (hX : va_X b L0 xs s s.heap) (hg : g.2.1 = b ∧ b ≤ g.1) (hB : cu ≤ 600000 ∧ su ≤ 7302250) (hi : 0 ≤ i.toInt ∧ i.toInt + 6 ≤ (L0 : Int) ∧ L0 ≤ 3072) (hJ : l_JJ cs) (out : ∀ cs', l_JJ cs' → zz_LZ g p l e s m below meth c b 1536 (lw_L i) [] cs' cu su) : zz_LZ g p l e s m below meth c b 260 (lw_L i) [] cs cu su := lw_go X hX hg hB hi (q := 260) (jc := 74) (jm := 184) (js := [1, 2]) (lg := false) (by decide +kernel) (mc := zm_74) (mm := zm_184) rfl rfl (by decide +kernel) (by decide +kernel) (by decide +kernel) (by decide +kernel) (by decide +kernel) lk_2 pj_personOf hJ out
theorem lw_c3 (X : zz_X g p room_1 s m meth c zz_law) (hX : va_X b L0 xs s s.heap) (hg : g.2.1 = b ∧ b ≤ g.1) (hB : cu ≤ 600000 ∧ su ≤ 7302250) (hi : 0 ≤ i.toInt ∧ i.toInt + 6 ≤ (L0 : Int) ∧ L0 ≤ 3072) (hJ : l_JJ cs) (out : ∀ cs', l_JJ cs' → zz_LZ g p l e s m below meth c b 1536 (lw_L i) [] cs' cu su) : zz_LZ g p l e s m below meth c b 293 (lw_L i) [] cs cu su := lw_go X hX hg hB hi (q := 293) (jc := 75) (jm := 185) (js := [1, 2]) (lg := false) (by decide +kernel) (mc := zm_75) (mm := zm_185) rfl rfl (by decide +kernel) (by decide +kernel) (by decide +kernel) (by decide +kernel) (by decide +kernel) lk_3 pj_belief hJ out
theorem lw_c4 (X : zz_X g p room_1 s m meth c zz_law) (hX : va_X b L0 xs s s.heap) (hg : g.2.1 = b ∧ b ≤ g.1) (hB : cu ≤ 600000 ∧ su ≤ 7302250) (hi : 0 ≤ i.toInt ∧ i.toInt + 6 ≤ (L0 : Int) ∧ L0 ≤ 3072) (hJ : l_JJ cs) (out : ∀ cs', l_JJ cs' → zz_LZ g p l e s m below meth c b 1536 (lw_L i) [] cs' cu su) : zz_LZ g p l e s m below meth c b 326 (lw_L i) [] cs cu su := lw_go X hX hg hB hi (q := 326) (jc := 76) (jm := 186) (js := [1, 2]) (lg := false) (by decide +kernel) (mc := zm_76) (mm := zm_186) rfl rfl (by decide +kernel) (by decide +kernel) (by decide +kernel) (by decide +kernel) (by decide +kernel) lk_4 pj_eventOf hJ out
theorem lw_c5 (X : zz_X g p room_1 s m meth c zz_law) (hX : va_X b L0 xs s s.heap) (hg : g.2.1 = b ∧ b ≤ g.1) (hB : cu ≤ 600000 ∧ su ≤ 7302250) (hi : 0 ≤ i.toInt ∧ i.toInt + 6 ≤ (L0 : Int) ∧ L0 ≤ 3072) (hJ : l_JJ cs) (out : ∀ cs', l_JJ cs' → zz_LZ g p l e s m below meth c b 1536 (lw_L i) [] cs' cu su) : zz_LZ g p l e s m below meth c b 359 (lw_L i) [] cs cu su := lw_go X hX hg hB hi (q := 359) (jc := 77) (jm := 187) (js := [1, 2]) (lg := false) (by decide +kernel) (mc := zm_77) (mm := zm_187) rfl rfl (by decide +kernel) (by decide +kernel) (by decide +kernel) (by decide +kernel) (by decide +kernel) lk_5 pj_wagerOf hJ out
theorem lw_c6 (X : zz_X g p room_1 s m meth c zz_law) (hX : va_X b L0 xs s s.heap) (hg : g.2.1 = b ∧ b ≤ g.1) (hB : cu ≤ 600000 ∧ su ≤ 7302250) (hi : 0 ≤ i.toInt ∧ i.toInt + 6 ≤ (L0 : Int) ∧ L0 ≤ 3072) (hJ : l_JJ cs) (out : ∀ cs', l_JJ cs' → zz_LZ g p l e s m below meth c b 1536 (lw_L i) [] cs' cu su) : zz_LZ g p l e s m below meth c b 392 (lw_L i) [] cs cu su := lw_go X hX hg hB hi (q := 392) (jc := 84) (jm := 188) (js := [1, 2]) (lg := false) (by decide +kernel) (mc := zm_84) (mm := zm_188) rfl rfl (by decide +kernel) (by decide +kernel) (by decide +kernel) (by decide +kernel) (by decide +kernel) lk_6 pj_person hJ out
theorem lw_c7 (X : zz_X g p room_1 s m meth c zz_law) (hX : va_X b L0 xs s s.heap) (hg : g.2.1 = b ∧ b ≤ g.1) (hB : cu ≤ 600000 ∧ su ≤ 7302250) (hi : 0 ≤ i.toInt ∧ i.toInt + 6 ≤ (L0 : Int) ∧ L0 ≤ 3072) (hJ : l_JJ cs) (out : ∀ cs', l_JJ cs' → zz_LZ g p l e s m below meth c b 1536 (lw_L i) [] cs' cu su) : zz_LZ g p l e s m below meth c b 425 (lw_L i) [] cs cu su := lw_go X hX hg hB hi (q := 425) (jc := 85) (jm := 190) (js := [1, 2]) (lg := false) (by decide +kernel) (mc := zm_85) (mm := zm_190) rfl rfl (by decide +kernel) (by decide +kernel) (by decide +kernel) (by decide +kernel) (by decide +kernel) lk_7 pj_wishes hJ out
theorem lw_c8 (X : zz_X g p room_1 s m meth c zz_law) (hX : va_X b L0 xs s s.heap) (hg : g.2.1 = b ∧ b ≤ g.1) (hB : cu ≤ 600000 ∧ su ≤ 7302250) (hi : 0 ≤ i.toInt ∧ i.toInt + 6 ≤ (L0 : Int) ∧ L0 ≤ 3072) (hJ : l_JJ cs) (out : ∀ cs', l_JJ cs' → zz_LZ g p l e s m below meth c b 1536 (lw_L i) [] cs' cu su) : zz_LZ g p l e s m below meth c b 458 (lw_L i) [] cs cu su := lw_go X hX hg hB hi (q := 458) (jc := 86) (jm := 191) (js := [1, 2, 3]) (lg := false) (by decide +kernel) (mc := zm_86) (mm := zm_191) rfl rfl (by decide +kernel) (by decide +kernel) (by decide +kernel) (by decide +kernel) (by decide +kernel) lk_8 pj_believes hJ out
theorem lw_c9 (X : zz_X g p room_1 s m meth c zz_law) (hX : va_X b L0 xs s s.heap) (hg : g.2.1 = b ∧ b ≤ g.1) (hB : cu ≤ 600000 ∧ su ≤ 7302250) (hi : 0 ≤ i.toInt ∧ i.toInt + 6 ≤ (L0 : Int) ∧ L0 ≤ 3072) (hJ : l_JJ cs) (out : ∀ cs', l_JJ cs' → zz_LZ g p l e s m below meth c b 1536 (lw_L i) [] cs' cu su) : zz_LZ g p l e s m below meth c b 501 (lw_L i) [] cs cu su := lw_go X hX hg hB hi (q := 501) (jc := 88) (jm := 193) (js := [1, 2, 3]) (lg := false) (by decide +kernel) (mc := zm_88) (mm := zm_193) rfl rfl (by decide +kernel) (by decide +kernel) (by decide +kernel) (by decide +kernel) (by decide +kernel) lk_9 pj_fixes hJ out
theorem lw_c10 (X : zz_X g p room_1 s m meth c zz_law) (hX : va_X b L0 xs s s.heap) (hg : g.2.1 = b ∧ b ≤ g.1) (hB : cu ≤ 600000 ∧ su ≤ 7302250) (hi : 0 ≤ i.toInt ∧ i.toInt + 6 ≤ (L0 : Int) ∧ L0 ≤ 3072) (hJ : l_JJ cs) (out : ∀ cs', l_JJ cs' → zz_LZ g p l e s m below meth c b 1536 (lw_L i) [] cs' cu su) : zz_LZ g p l e s m below meth c b 544 (lw_L i) [] cs cu su := lw_go X hX hg hB hi (q := 544) (jc := 89) (jm := 194) (js := [1, 2, 3, 4, 5]) (lg := false) (by decide +kernel) (mc := zm_89) (mm := zm_194) rfl rfl (by decide +kernel) (by decide +kernel) (by decide +kernel) (by decide +kernel) (by decide +kernel) lk_10 pj_proposes hJ out
theorem lw_c11 (X : zz_X g p room_1 s m meth c zz_law) (hX : va_X b L0 xs s s.heap) (hg : g.2.1 = b ∧ b ≤ g.1) (hB : cu ≤ 600000 ∧ su ≤ 7302250) (hi : 0 ≤ i.toInt ∧ i.toInt + 6 ≤ (L0 : Int) ∧ L0 ≤ 3072) (hJ : l_JJ cs) (out : ∀ cs', l_JJ cs' → zz_LZ g p l e s m below meth c b 1536 (lw_L i) [] cs' cu su) : zz_LZ g p l e s m below meth c b 607 (lw_L i) [] cs cu su := lw_go X hX hg hB hi (q := 607) (jc := 90) (jm := 197) (js := [1]) (lg := false) (by decide +kernel) (mc := zm_90) (mm := zm_197) rfl rfl (by decide +kernel) (by decide +kernel) (by decide +kernel) (by decide +kernel) (by decide +kernel) lk_11 pj_days hJ out
theorem lw_c12 (X : zz_X g p room_1 s m meth c zz_law) (hX : va_X b L0 xs s s.heap) (hg : g.2.1 = b ∧ b ≤ g.1) (hB : cu ≤ 600000 ∧ su ≤ 7302250) (hi : 0 ≤ i.toInt ∧ i.toInt + 6 ≤ (L0 : Int) ∧ L0 ≤ 3072) (hJ : l_JJ cs) (out : ∀ cs', l_JJ cs' → zz_LZ g p l e s m below meth c b 1536 (lw_L i) [] cs' cu su) : zz_LZ g p l e s m below meth c b 630 (lw_L i) [] cs cu su := lw_go X hX hg hB hi (q := 630) (jc := 92) (jm := 183) (js := []) (lg := false) (by decide +kernel) (mc := zm_92) (mm := zm_183) rfl rfl (by decide +kernel) (by decide +kernel) (by decide +kernel) (by decide +kernel) (by decide +kernel) lk_12 pj_back hJ out
theorem lw_c13 (X : zz_X g p room_1 s m meth c zz_law) (hX : va_X b L0 xs s s.heap) (hg : g.2.1 = b ∧ b ≤ g.1) (hB : cu ≤ 600000 ∧ su ≤ 7302250) (hi : 0 ≤ i.toInt ∧ i.toInt + 6 ≤ (L0 : Int) ∧ L0 ≤ 3072) (hJ : l_JJ cs) (out : ∀ cs', l_JJ cs' → zz_LZ g p l e s m below meth c b 1536 (lw_L i) [] cs' cu su) : zz_LZ g p l e s m below meth c b 643 (lw_L i) [] cs cu su := lw_go X hX hg hB hi (q := 643) (jc := 96) (jm := 200) (js := [1, 2, 3]) (lg := false) (by decide +kernel) (mc := zm_96) (mm := zm_200) rfl rfl (by decide +kernel) (by decide +kernel) (by decide +kernel) (by decide +kernel) (by decide +kernel) lk_13 pj_personIn hJ out
theorem lw_c14 (X : zz_X g p room_1 s m meth c zz_law) (hX : va_X b L0 xs s s.heap) (hg : g.2.1 = b ∧ b ≤ g.1) (hB : cu ≤ 600000 ∧ su ≤ 7302250) (hi : 0 ≤ i.toInt ∧ i.toInt + 6 ≤ (L0 : Int) ∧ L0 ≤ 3072) (hJ : l_JJ cs) (out : ∀ cs', l_JJ cs' → zz_LZ g p l e s m below meth c b 1536 (lw_L i) [] cs' cu su) : zz_LZ g p l e s m below meth c b 686 (lw_L i) [] cs cu su := lw_go X hX hg hB hi (q := 686) (jc := 98) (jm := 201) (js := [1, 2, 3]) (lg := false) (by decide +kernel) (mc := zm_98) (mm := zm_201) rfl rfl (by decide +kernel) (by decide +kernel) (by decide +kernel) (by decide +kernel) (by decide +kernel) lk_14 pj_beliefIn hJ out
theorem lw_c15 (X : zz_X g p room_1 s m meth c zz_law) (hX : va_X b L0 xs s s.heap) (hg : g.2.1 = b ∧ b ≤ g.1) (hB : cu ≤ 600000 ∧ su ≤ 7302250) (hi : 0 ≤ i.toInt ∧ i.toInt + 6 ≤ (L0 : Int) ∧ L0 ≤ 3072) (hJ : l_JJ cs) (out : ∀ cs', l_JJ cs' → zz_LZ g p l e s m below meth c b 1536 (lw_L i) [] cs' cu su) : zz_LZ g p l e s m below meth c b 729 (lw_L i) [] cs cu su := lw_go X hX hg hB hi (q := 729) (jc := 102) (jm := 203) (js := [1]) (lg := false) (by decide +kernel) (mc := zm_102) (mm := zm_203) rfl rfl (by decide +kernel) (by decide +kernel) (by decide +kernel) (by decide +kernel) (by decide +kernel) lk_15 pj_wedIn hJ out
theorem lw_c16 (X : zz_X g p room_1 s m meth c zz_law) (hX : va_X b L0 xs s s.heap) (hg : g.2.1 = b ∧ b ≤ g.1) (hB : cu ≤ 600000 ∧ su ≤ 7302250) (hi : 0 ≤ i.toInt ∧ i.toInt + 6 ≤ (L0 : Int) ∧ L0 ≤ 3072) (hJ : l_JJ cs) (out : ∀ cs', l_JJ cs' → zz_LZ g p l e s m below meth c b 1536 (lw_L i) [] cs' cu su) : zz_LZ g p l e s m below meth c b 752 (lw_L i) [] cs cu su := lw_go X hX hg hB hi (q := 752) (jc := 103) (jm := 205) (js := [1]) (lg := false) (by decide +kernel) (mc := zm_103) (mm := zm_205) rfl rfl (by decide +kernel) (by decide +kernel) (by decide +kernel) (by decide +kernel) (by decide +kernel) lk_16 pj_wedWhen hJ out
theorem lw_c17 (X : zz_X g p room_1 s m meth c zz_law) (hX : va_X b L0 xs s s.heap) (hg : g.2.1 = b ∧ b ≤ g.1) (hB : cu ≤ 600000 ∧ su ≤ 7302250) (hi : 0 ≤ i.toInt ∧ i.toInt + 6 ≤ (L0 : Int) ∧ L0 ≤ 3072) (hJ : l_JJ cs) (out : ∀ cs', l_JJ cs' → zz_LZ g p l e s m below meth c b 1536 (lw_L i) [] cs' cu su) : zz_LZ g p l e s m below meth c b 775 (lw_L i) [] cs cu su := lw_go X hX hg hB hi (q := 775) (jc := 105) (jm := 207) (js := [1, 2]) (lg := false) (by decide +kernel) (mc := zm_105) (mm := zm_207) rfl rfl (by decide +kernel) (by decide +kernel) (by decide +kernel) (by decide +kernel) (by decide +kernel) lk_17 pj_happens hJ out
theorem lw_c18 (X : zz_X g p room_1 s m meth c zz_law) (hX : va_X b L0 xs s s.heap) (hg : g.2.1 = b ∧ b ≤ g.1) (hB : cu ≤ 600000 ∧ su ≤ 7302250) (hi : 0 ≤ i.toInt ∧ i.toInt + 6 ≤ (L0 : Int) ∧ L0 ≤ 3072) (hJ : l_JJ cs) (out : ∀ cs', l_JJ cs' → zz_LZ g p l e s m below meth c b 1536 (lw_L i) [] cs' cu su) : zz_LZ g p l e s m below meth c b 808 (lw_L i) [] cs cu su := lw_go X hX hg hB hi (q := 808) (jc := 106) (jm := 208) (js := [1, 2]) (lg := false) (by decide +kernel) (mc := zm_106) (mm := zm_208) rfl rfl (by decide +kernel) (by decide +kernel) (by decide +kernel) (by decide +kernel) (by decide +kernel) lk_18 pj_bet hJ out
theorem lw_c19 (X : zz_X g p room_1 s m meth c zz_law) (hX : va_X b L0 xs s s.heap) (hg : g.2.1 = b ∧ b ≤ g.1) (hB : cu ≤ 600000 ∧ su ≤ 7302250) (hi : 0 ≤ i.toInt ∧ i.toInt + 6 ≤ (L0 : Int) ∧ L0 ≤ 3072) (hJ : l_JJ cs) (out : ∀ cs', l_JJ cs' → zz_LZ g p l e s m below meth c b 1536 (lw_L i) [] cs' cu su) : zz_LZ g p l e s m below meth c b 841 (lw_L i) [] cs cu su := lw_go X hX hg hB hi (q := 841) (jc := 108) (jm := 211) (js := [1, 2, 3]) (lg := false) (by decide +kernel) (mc := zm_108) (mm := zm_211) rfl rfl (by decide +kernel) (by decide +kernel) (by decide +kernel) (by decide +kernel) (by decide +kernel) lk_19 pj_takers hJ out
theorem lw_c20 (X : zz_X g p room_1 s m meth c zz_law) (hX : va_X b L0 xs s s.heap) (hg : g.2.1 = b ∧ b ≤ g.1) (hB : cu ≤ 600000 ∧ su ≤ 7302250) (hi : 0 ≤ i.toInt ∧ i.toInt + 6 ≤ (L0 : Int) ∧ L0 ≤ 3072) (hJ : l_JJ cs) (out : ∀ cs', l_JJ cs' → zz_LZ g p l e s m below meth c b 1536 (lw_L i) [] cs' cu su) : zz_LZ g p l e s m below meth c b 884 (lw_L i) [] cs cu su := lw_go X hX hg hB hi (q := 884) (jc := 109) (jm := 212) (js := [1]) (lg := false) (by decide +kernel) (mc := zm_109) (mm := zm_212) rfl rfl (by decide +kernel) (by decide +kernel) (by decide +kernel) (by decide +kernel) (by decide +kernel) lk_20 pj_wooers hJ out
theorem lw_c21 (X : zz_X g p room_1 s m meth c zz_law) (hX : va_X b L0 xs s s.heap) (hg : g.2.1 = b ∧ b ≤ g.1) (hB : cu ≤ 600000 ∧ su ≤ 7302250) (hi : 0 ≤ i.toInt ∧ i.toInt + 6 ≤ (L0 : Int) ∧ L0 ≤ 3072) (hJ : l_JJ cs) (out : ∀ cs', l_JJ cs' → zz_LZ g p l e s m below meth c b 1536 (lw_L i) [] cs' cu su) : zz_LZ g p l e s m below meth c b 907 (lw_L i) [] cs cu su := lw_go X hX hg hB hi (q := 907) (jc := 111) (jm := 214) (js := [1]) (lg := false) (by decide +kernel) (mc := zm_111) (mm := zm_214) rfl rfl (by decide +kernel) (by decide +kernel) (by decide +kernel) (by decide +kernel) (by decide +kernel) lk_21 pj_match hJ out
theorem lw_c22 (X : zz_X g p room_1 s m meth c zz_law) (hX : va_X b L0 xs s s.heap) (hg : g.2.1 = b ∧ b ≤ g.1) (hB : cu ≤ 600000 ∧ su ≤ 7302250) (hi : 0 ≤ i.toInt ∧ i.toInt + 6 ≤ (L0 : Int) ∧ L0 ≤ 3072) (hJ : l_JJ cs) (out : ∀ cs', l_JJ cs' → zz_LZ g p l e s m below meth c b 1536 (lw_L i) [] cs' cu su) : zz_LZ g p l e s m below meth c b 930 (lw_L i) [] cs cu su := lw_go X hX hg hB hi (q := 930) (jc := 118) (jm := 219) (js := [1]) (lg := false) (by decide +kernel) (mc := zm_118) (mm := zm_219) rfl rfl (by decide +kernel) (by decide +kernel) (by decide +kernel) (by decide +kernel) (by decide +kernel) lk_22 pj_fix hJ out
theorem lw_c23 (X : zz_X g p room_1 s m meth c zz_law) (hX : va_X b L0 xs s s.heap) (hg : g.2.1 = b ∧ b ≤ g.1) (hB : cu ≤ 600000 ∧ su ≤ 7302250) (hi : 0 ≤ i.toInt ∧ i.toInt + 6 ≤ (L0 : Int) ∧ L0 ≤ 3072) (hJ : l_JJ cs) (out : ∀ cs', l_JJ cs' → zz_LZ g p l e s m below meth c b 1536 (lw_L i) [] cs' cu su) : zz_LZ g p l e s m below meth c b 953 (lw_L i) [] cs cu su := lw_go X hX hg hB hi (q := 953) (jc := 119) (jm := 220) (js := [1]) (lg := false) (by decide +kernel) (mc := zm_119) (mm := zm_220) rfl rfl (by decide +kernel) (by decide +kernel) (by decide +kernel) (by decide +kernel) (by decide +kernel) lk_23 pj_preach hJ out
theorem lw_c24 (X : zz_X g p room_1 s m meth c zz_law) (hX : va_X b L0 xs s s.heap) (hg : g.2.1 = b ∧ b ≤ g.1) (hB : cu ≤ 600000 ∧ su ≤ 7302250) (hi : 0 ≤ i.toInt ∧ i.toInt + 6 ≤ (L0 : Int) ∧ L0 ≤ 3072) (hJ : l_JJ cs) (out : ∀ cs', l_JJ cs' → zz_LZ g p l e s m below meth c b 1536 (lw_L i) [] cs' cu su) : zz_LZ g p l e s m below meth c b 976 (lw_L i) [] cs cu su := lw_go X hX hg hB hi (q := 976) (jc := 121) (jm := 221) (js := [1]) (lg := false) (by decide +kernel) (mc := zm_121) (mm := zm_221) rfl rfl (by decide +kernel) (by decide +kernel) (by decide +kernel) (by decide +kernel) (by decide +kernel) lk_24 pj_fair hJ out
theorem lw_c25 (X : zz_X g p room_1 s m meth c zz_law) (hX : va_X b L0 xs s s.heap) (hg : g.2.1 = b ∧ b ≤ g.1) (hB : cu ≤ 600000 ∧ su ≤ 7302250) (hi : 0 ≤ i.toInt ∧ i.toInt + 6 ≤ (L0 : Int) ∧ L0 ≤ 3072) (hJ : l_JJ cs) (out : ∀ cs', l_JJ cs' → zz_LZ g p l e s m below meth c b 1536 (lw_L i) [] cs' cu su) : zz_LZ g p l e s m below meth c b 999 (lw_L i) [] cs cu su := lw_go X hX hg hB hi (q := 999) (jc := 123) (jm := 222) (js := [1, 2]) (lg := false) (by decide +kernel) (mc := zm_123) (mm := zm_222) rfl rfl (by decide +kernel) (by decide +kernel) (by decide +kernel) (by decide +kernel) (by decide +kernel) lk_25 pj_hedge hJ out
theorem lw_c26 (X : zz_X g p room_1 s m meth c zz_law) (hX : va_X b L0 xs s s.heap) (hg : g.2.1 = b ∧ b ≤ g.1) (hB : cu ≤ 600000 ∧ su ≤ 7302250) (hi : 0 ≤ i.toInt ∧ i.toInt + 6 ≤ (L0 : Int) ∧ L0 ≤ 3072) (hJ : l_JJ cs) (out : ∀ cs', l_JJ cs' → zz_LZ g p l e s m below meth c b 1536 (lw_L i) [] cs' cu su) : zz_LZ g p l e s m below meth c b 1032 (lw_L i) [] cs cu su := lw_go X hX hg hB hi (q := 1032) (jc := 130) (jm := 225) (js := [1, 2]) (lg := false) (by decide +kernel) (mc := zm_130) (mm := zm_225) rfl rfl (by decide +kernel) (by decide +kernel) (by decide +kernel) (by decide +kernel) (by decide +kernel) lk_26 pj_uponWhat hJ out
theorem lw_c27 (X : zz_X g p room_1 s m meth c zz_law) (hX : va_X b L0 xs s s.heap) (hg : g.2.1 = b ∧ b ≤ g.1) (hB : cu ≤ 600000 ∧ su ≤ 7302250) (hi : 0 ≤ i.toInt ∧ i.toInt + 6 ≤ (L0 : Int) ∧ L0 ≤ 3072) (hJ : l_JJ cs) (out : ∀ cs', l_JJ cs' → zz_LZ g p l e s m below meth c b 1536 (lw_L i) [] cs' cu su) : zz_LZ g p l e s m below meth c b 1065 (lw_L i) [] cs cu su := lw_go X hX hg hB hi (q := 1065) (jc := 132) (jm := 228) (js := [1, 2]) (lg := false) (by decide +kernel) (mc := zm_132) (mm := zm_228) rfl rfl (by decide +kernel) (by decide +kernel) (by decide +kernel) (by decide +kernel) (by decide +kernel) lk_27 pj_whatKind hJ out
theorem lw_c28 (X : zz_X g p room_1 s m meth c zz_law) (hX : va_X b L0 xs s s.heap) (hg : g.2.1 = b ∧ b ≤ g.1) (hB : cu ≤ 600000 ∧ su ≤ 7302250) (hi : 0 ≤ i.toInt ∧ i.toInt + 6 ≤ (L0 : Int) ∧ L0 ≤ 3072) (hJ : l_JJ cs) (out : ∀ cs', l_JJ cs' → zz_LZ g p l e s m below meth c b 1536 (lw_L i) [] cs' cu su) : zz_LZ g p l e s m below meth c b 1098 (lw_L i) [] cs cu su := lw_go X hX hg hB hi (q := 1098) (jc := 125) (jm := 229) (js := [1, 2, 3]) (lg := false) (by decide +kernel) (mc := zm_125) (mm := zm_229) rfl rfl (by decide +kernel) (by decide +kernel) (by decide +kernel) (by decide +kernel) (by decide +kernel) lk_28 pj_two hJ out
theorem lw_c29 (X : zz_X g p room_1 s m meth c zz_law) (hX : va_X b L0 xs s s.heap) (hg : g.2.1 = b ∧ b ≤ g.1) (hB : cu ≤ 600000 ∧ su ≤ 7302250) (hi : 0 ≤ i.toInt ∧ i.toInt + 6 ≤ (L0 : Int) ∧ L0 ≤ 3072) (hJ : l_JJ cs) (out : ∀ cs', l_JJ cs' → zz_LZ g p l e s m below meth c b 1536 (lw_L i) [] cs' cu su) : zz_LZ g p l e s m below meth c b 1141 (lw_L i) [] cs cu su := lw_go X hX hg hB hi (q := 1141) (jc := 133) (jm := 230) (js := [1, 2, 3, 4]) (lg := true) (by decide +kernel) (mc := zm_133) (mm := zm_230) rfl rfl (by decide +kernel) (by decide +kernel) (by decide +kernel) (by decide +kernel) (by decide +kernel) lk_29 pj_sure hJ out
theorem lw_c30 (X : zz_X g p room_1 s m meth c zz_law) (hX : va_X b L0 xs s s.heap) (hg : g.2.1 = b ∧ b ≤ g.1) (hB : cu ≤ 600000 ∧ su ≤ 7302250) (hi : 0 ≤ i.toInt ∧ i.toInt + 6 ≤ (L0 : Int) ∧ L0 ≤ 3072) (hJ : l_JJ cs) (out : ∀ cs', l_JJ cs' → zz_LZ g p l e s m below meth c b 1536 (lw_L i) [] cs' cu su) : zz_LZ g p l e s m below meth c b 1194 (lw_L i) [] cs cu su := lw_go X hX hg hB hi (q := 1194) (jc := 136) (jm := 233) (js := [1, 2]) (lg := false) (by decide +kernel) (mc := zm_136) (mm := zm_233) rfl rfl (by decide +kernel) (by decide +kernel) (by decide +kernel) (by decide +kernel) (by decide +kernel) lk_30 pj_shares hJ out
theorem lw_c31 (X : zz_X g p room_1 s m meth c zz_law) (hX : va_X b L0 xs s s.heap) (hg : g.2.1 = b ∧ b ≤ g.1) (hB : cu ≤ 600000 ∧ su ≤ 7302250) (hi : 0 ≤ i.toInt ∧ i.toInt + 6 ≤ (L0 : Int) ∧ L0 ≤ 3072) (hJ : l_JJ cs) (out : ∀ cs', l_JJ cs' → zz_LZ g p l e s m below meth c b 1536 (lw_L i) [] cs' cu su) : zz_LZ g p l e s m below meth c b 1227 (lw_L i) [] cs cu su := lw_go X hX hg hB hi (q := 1227) (jc := 138) (jm := 234) (js := [1]) (lg := false) (by decide +kernel) (mc := zm_138) (mm := zm_234) rfl rfl (by decide +kernel) (by decide +kernel) (by decide +kernel) (by decide +kernel) (by decide +kernel) lk_31 pj_saddest hJ out
theorem lw_c32 (X : zz_X g p room_1 s m meth c zz_law) (hX : va_X b L0 xs s s.heap) (hg : g.2.1 = b ∧ b ≤ g.1) (hB : cu ≤ 600000 ∧ su ≤ 7302250) (hi : 0 ≤ i.toInt ∧ i.toInt + 6 ≤ (L0 : Int) ∧ L0 ≤ 3072) (hJ : l_JJ cs) (out : ∀ cs', l_JJ cs' → zz_LZ g p l e s m below meth c b 1536 (lw_L i) [] cs' cu su) : zz_LZ g p l e s m below meth c b 1250 (lw_L i) [] cs cu su := lw_go X hX hg hB hi (q := 1250) (jc := 142) (jm := 239) (js := [1]) (lg := false) (by decide +kernel) (mc := zm_142) (mm := zm_239) rfl rfl (by decide +kernel) (by decide +kernel) (by decide +kernel) (by decide +kernel) (by decide +kernel) lk_32 pj_wished hJ out
theorem lw_c33 (X : zz_X g p room_1 s m meth c zz_law) (hX : va_X b L0 xs s s.heap) (hg : g.2.1 = b ∧ b ≤ g.1) (hB : cu ≤ 600000 ∧ su ≤ 7302250) (hi : 0 ≤ i.toInt ∧ i.toInt + 6 ≤ (L0 : Int) ∧ L0 ≤ 3072) (hJ : l_JJ cs) (out : ∀ cs', l_JJ cs' → zz_LZ g p l e s m below meth c b 1536 (lw_L i) [] cs' cu su) : zz_LZ g p l e s m below meth c b 1273 (lw_L i) [] cs cu su := lw_go X hX hg hB hi (q := 1273) (jc := 135) (jm := 240) (js := [1, 2]) (lg := true) (by decide +kernel) (mc := zm_135) (mm := zm_240) rfl rfl (by decide +kernel) (by decide +kernel) (by decide +kernel) (by decide +kernel) (by decide +kernel) lk_33 pj_mean hJ out
theorem lw_c34 (X : zz_X g p room_1 s m meth c zz_law) (hX : va_X b L0 xs s s.heap) (hg : g.2.1 = b ∧ b ≤ g.1) (hB : cu ≤ 600000 ∧ su ≤ 7302250) (hi : 0 ≤ i.toInt ∧ i.toInt + 6 ≤ (L0 : Int) ∧ L0 ≤ 3072) (hJ : l_JJ cs) (out : ∀ cs', l_JJ cs' → zz_LZ g p l e s m below meth c b 1536 (lw_L i) [] cs' cu su) : zz_LZ g p l e s m below meth c b 1306 (lw_L i) [] cs cu su := lw_go X hX hg hB hi (q := 1306) (jc := 143) (jm := 241) (js := [1]) (lg := false) (by decide +kernel) (mc := zm_143) (mm := zm_241) rfl rfl (by decide +kernel) (by decide +kernel) (by decide +kernel) (by decide +kernel) (by decide +kernel) lk_34 pj_scorn hJ out
theorem lw_c35 (X : zz_X g p room_1 s m meth c zz_law) (hX : va_X b L0 xs s s.heap) (hg : g.2.1 = b ∧ b ≤ g.1) (hB : cu ≤ 600000 ∧ su ≤ 7302250) (hi : 0 ≤ i.toInt ∧ i.toInt + 6 ≤ (L0 : Int) ∧ L0 ≤ 3072) (hJ : l_JJ cs) (out : ∀ cs', l_JJ cs' → zz_LZ g p l e s m below meth c b 1536 (lw_L i) [] cs' cu su) : zz_LZ g p l e s m below meth c b 1329 (lw_L i) [] cs cu su := lw_go X hX hg hB hi (q := 1329) (jc := 144) (jm := 242) (js := [1]) (lg := false) (by decide +kernel) (mc := zm_144) (mm := zm_242) rfl rfl (by decide +kernel) (by decide +kernel) (by decide +kernel) (by decide +kernel) (by decide +kernel) lk_35 pj_left hJ out
theorem lw_c36 (X : zz_X g p room_1 s m meth c zz_law) (hX : va_X b L0 xs s s.heap) (hg : g.2.1 = b ∧ b ≤ g.1) (hB : cu ≤ 600000 ∧ su ≤ 7302250) (hi : 0 ≤ i.toInt ∧ i.toInt + 6 ≤ (L0 : Int) ∧ L0 ≤ 3072) (hJ : l_JJ cs) (out : ∀ cs', l_JJ cs' → zz_LZ g p l e s m below meth c b 1536 (lw_L i) [] cs' cu su) : zz_LZ g p l e s m below meth c b 1352 (lw_L i) [] cs cu su := lw_go X hX hg hB hi (q := 1352) (jc := 101) (jm := 246) (js := [1, 2, 3]) (lg := false) (by decide +kernel) (mc := zm_101) (mm := zm_246) rfl rfl (by decide +kernel) (by decide +kernel) (by decide +kernel) (by decide +kernel) (by decide +kernel) lk_36 pj_hope hJ out
theorem lw_c37 (X : zz_X g p room_1 s m meth c zz_law) (hX : va_X b L0 xs s s.heap) (hg : g.2.1 = b ∧ b ≤ g.1) (hB : cu ≤ 600000 ∧ su ≤ 7302250) (hi : 0 ≤ i.toInt ∧ i.toInt + 6 ≤ (L0 : Int) ∧ L0 ≤ 3072) (hJ : l_JJ cs) (out : ∀ cs', l_JJ cs' → zz_LZ g p l e s m below meth c b 1536 (lw_L i) [] cs' cu su) : zz_LZ g p l e s m below meth c b 1395 (lw_L i) [] cs cu su := lw_go X hX hg hB hi (q := 1395) (jc := 127) (jm := 247) (js := [1]) (lg := false) (by decide +kernel) (mc := zm_127) (mm := zm_247) rfl rfl (by decide +kernel) (by decide +kernel) (by decide +kernel) (by decide +kernel) (by decide +kernel) lk_37 pj_row hJ out
theorem lw_c38 (X : zz_X g p room_1 s m meth c zz_law) (hX : va_X b L0 xs s s.heap) (hg : g.2.1 = b ∧ b ≤ g.1) (hB : cu ≤ 600000 ∧ su ≤ 7302250) (hi : 0 ≤ i.toInt ∧ i.toInt + 6 ≤ (L0 : Int) ∧ L0 ≤ 3072) (hJ : l_JJ cs) (out : ∀ cs', l_JJ cs' → zz_LZ g p l e s m below meth c b 1536 (lw_L i) [] cs' cu su) : zz_LZ g p l e s m below meth c b 1418 (lw_L i) [] cs cu su := lw_go X hX hg hB hi (q := 1418) (jc := 129) (jm := 248) (js := []) (lg := false) (by decide +kernel) (mc := zm_129) (mm := zm_248) rfl rfl (by decide +kernel) (by decide +kernel) (by decide +kernel) (by decide +kernel) (by decide +kernel) lk_38 pj_judge hJ out
theorem lw_c39 (X : zz_X g p room_1 s m meth c zz_law) (hX : va_X b L0 xs s s.heap) (hg : g.2.1 = b ∧ b ≤ g.1) (hB : cu ≤ 600000 ∧ su ≤ 7302250) (hi : 0 ≤ i.toInt ∧ i.toInt + 6 ≤ (L0 : Int) ∧ L0 ≤ 3072) (hJ : l_JJ cs) (out : ∀ cs', l_JJ cs' → zz_LZ g p l e s m below meth c b 1536 (lw_L i) [] cs' cu su) : zz_LZ g p l e s m below meth c b 1431 (lw_L i) [] cs cu su := lw_go X hX hg hB hi (q := 1431) (jc := 128) (jm := 249) (js := []) (lg := false) (by decide +kernel) (mc := zm_128) (mm := zm_249) rfl rfl (by decide +kernel) (by decide +kernel) (by decide +kernel) (by decide +kernel) (by decide +kernel) lk_39 pj_clear hJ out
theorem lw_c40 (X : zz_X g p room_1 s m meth c zz_law) (hX : va_X b L0 xs s s.heap) (hg : g.2.1 = b ∧ b ≤ g.1) (hB : cu ≤ 600000 ∧ su ≤ 7302250) (hi : 0 ≤ i.toInt ∧ i.toInt + 6 ≤ (L0 : Int) ∧ L0 ≤ 3072) (hJ : l_JJ cs) (out : ∀ cs', l_JJ cs' → zz_LZ g p l e s m below meth c b 1536 (lw_L i) [] cs' cu su) : zz_LZ g p l e s m below meth c b 1444 (lw_L i) [] cs cu su := lw_gc X hX hg hB hi (q := 1444) (jc := 137) (jm := 250) (js := [1, 2, 3]) (by decide +kernel) (mc := zm_137) (mm := zm_250) rfl rfl (by decide +kernel) (by decide +kernel) (by decide +kernel) (by decide +kernel) (by decide +kernel) lk_40 pq_lots hJ out
theorem lw_c41 (X : zz_X g p room_1 s m meth c zz_law) (hX : va_X b L0 xs s s.heap) (hg : g.2.1 = b ∧ b ≤ g.1) (hB : cu ≤ 600000 ∧ su ≤ 7302250) (hi : 0 ≤ i.toInt ∧ i.toInt + 6 ≤ (L0 : Int) ∧ L0 ≤ 3072) (hJ : l_JJ cs) (out : ∀ cs', l_JJ cs' → zz_LZ g p l e s m below meth c b 1536 (lw_L i) [] cs' cu su) : zz_LZ g p l e s m below meth c b 1487 (lw_L i) [] cs cu su := lw_go X hX hg hB hi (q := 1487) (jc := 94) (jm := 181) (js := []) (lg := false) (by decide +kernel) (mc := zm_94) (mm := zm_181) rfl rfl (by decide +kernel) (by decide +kernel) (by decide +kernel) (by decide +kernel) (by decide +kernel) lk_41 pj_image hJ out
theorem lw_c42 (X : zz_X g p room_1 s m meth c zz_law) (hX : va_X b L0 xs s s.heap) (hg : g.2.1 = b ∧ b ≤ g.1) (hB : cu ≤ 600000 ∧ su ≤ 7302250) (hi : 0 ≤ i.toInt ∧ i.toInt + 6 ≤ (L0 : Int) ∧ L0 ≤ 3072) (hJ : l_JJ cs) (out : ∀ cs', l_JJ cs' → zz_LZ g p l e s m below meth c b 1536 (lw_L i) [] cs' cu su) : zz_LZ g p l e s m below meth c b 1500 (lw_L i) [] cs cu su := lw_go X hX hg hB hi (q := 1500) (jc := 95) (jm := 182) (js := []) (lg := false) (by decide +kernel) (mc := zm_95) (mm := zm_182) rfl rfl (by decide +kernel) (by decide +kernel) (by decide +kernel) (by decide +kernel) (by decide +kernel) lk_42 pj_restore hJ out
theorem lw_c43 (X : zz_X g p room_1 s m meth c zz_law) (hX : va_X b L0 xs s s.heap) (hg : g.2.1 = b ∧ b ≤ g.1) (hB : cu ≤ 600000 ∧ su ≤ 7302250) (hi : 0 ≤ i.toInt ∧ i.toInt + 6 ≤ (L0 : Int) ∧ L0 ≤ 3072) (hJ : l_JJ cs) (out : ∀ cs', l_JJ cs' → zz_LZ g p l e s m below meth c b 1536 (lw_L i) [] cs' cu su) : zz_LZ g p l e s m below meth c b 1513 (lw_L i) [] cs cu su := lw_go X hX hg hB hi (q := 1513) (jc := 78) (jm := 252) (js := [1]) (lg := false) (by decide +kernel) (mc := zm_78) (mm := zm_252) rfl rfl (by decide +kernel) (by decide +kernel) (by decide +kernel) (by decide +kernel) (by decide +kernel) lk_43 pj_count hJ out
noncomputable def lw_offs : Array Int := #[191, 214, 227, 260, 293, 326, 359, 392, 425, 468, 511, 574, 597, 610, 653, 696, 719, 742, 775, 808, 851, 874, 897, 920, 943, 966, 999, 1032, 1065, 1108, 1161, 1194, 1217, 1240, 1273, 1296, 1319, 1362, 1385, 1398, 1411, 1454, 1467, 1480]
theorem lw_tsw {x : Int32} {L : List (Option Value)} {r : List Value} {k : Nat} (hc : ¬ (x.toInt < 0 ∨ 43 < x.toInt)) (hk : (x.toInt - 0).toNat = k) : zz_da (.tableswitch 1503 0 43 lw_offs) 33 L (.int x :: r) = match lw_offs[k]? with
    | some off => zz_go L r (zz_tg 33 off)
    | none => none := by
  simp only [zz_da]
  rw [if_neg hc, hk]
  rfl
set_option maxRecDepth 100000 in
theorem lw_sw (X : zz_X g p room_1 s m meth c zz_law) (hX : va_X b L0 xs s s.heap) (hg : g.2.1 = b ∧ b ≤ g.1) (hB : cu ≤ 600000 ∧ su ≤ 7302250) (hi : 0 ≤ i.toInt ∧ i.toInt + 6 ≤ (L0 : Int) ∧ L0 ≤ 3072) (hJ : l_JJ cs) (out : ∀ cs', l_JJ cs' → zz_LZ g p l e s m below meth c b 1536 (lw_L i) [] cs' cu su) {x : Int32} : zz_LZ g p l e s m below meth c b 33 (lw_L i) [.int x] cs cu su := by
  have hsw : lw_is 33 (.tableswitch 1503 0 43 lw_offs) = true := by decide +kernel
  by_cases hc : x.toInt < 0 ∨ 43 < x.toInt
  · refine lw_st X hB hsw (pc' := 1536) (L' := lw_L i) (st' := []) ?_ (out cs hJ)
    simp only [zz_da]
    rw [if_pos hc]
    rfl
  · obtain ⟨k, hk⟩ : ∃ k, (x.toInt - 0).toNat = k := ⟨_, rfl⟩
    have hk2 : k < 44 := by omega
    have hd := lw_tsw (L := lw_L i) (r := []) hc hk
    match k, hk2, hd with
    | 0, _, hd => exact lw_st X hB hsw (pc' := 224) (L' := lw_L i) (st' := []) (hd.trans rfl) (lw_c0 X hX hg hB hi hJ out)
    | 1, _, hd => exact lw_st X hB hsw (pc' := 247) (L' := lw_L i) (st' := []) (hd.trans rfl) (lw_c1 X hX hg hB hi hJ out)
    | 2, _, hd => exact lw_st X hB hsw (pc' := 260) (L' := lw_L i) (st' := []) (hd.trans rfl) (lw_c2 X hX hg hB hi hJ out)
    | 3, _, hd => exact lw_st X hB hsw (pc' := 293) (L' := lw_L i) (st' := []) (hd.trans rfl) (lw_c3 X hX hg hB hi hJ out)
    | 4, _, hd => exact lw_st X hB hsw (pc' := 326) (L' := lw_L i) (st' := []) (hd.trans rfl) (lw_c4 X hX hg hB hi hJ out)
    | 5, _, hd => exact lw_st X hB hsw (pc' := 359) (L' := lw_L i) (st' := []) (hd.trans rfl) (lw_c5 X hX hg hB hi hJ out)
    | 6, _, hd => exact lw_st X hB hsw (pc' := 392) (L' := lw_L i) (st' := []) (hd.trans rfl) (lw_c6 X hX hg hB hi hJ out)
    | 7, _, hd => exact lw_st X hB hsw (pc' := 425) (L' := lw_L i) (st' := []) (hd.trans rfl) (lw_c7 X hX hg hB hi hJ out)
    | 8, _, hd => exact lw_st X hB hsw (pc' := 458) (L' := lw_L i) (st' := []) (hd.trans rfl) (lw_c8 X hX hg hB hi hJ out)
    | 9, _, hd => exact lw_st X hB hsw (pc' := 501) (L' := lw_L i) (st' := []) (hd.trans rfl) (lw_c9 X hX hg hB hi hJ out)
    | 10, _, hd => exact lw_st X hB hsw (pc' := 544) (L' := lw_L i) (st' := []) (hd.trans rfl) (lw_c10 X hX hg hB hi hJ out)
    | 11, _, hd => exact lw_st X hB hsw (pc' := 607) (L' := lw_L i) (st' := []) (hd.trans rfl) (lw_c11 X hX hg hB hi hJ out)
    | 12, _, hd => exact lw_st X hB hsw (pc' := 630) (L' := lw_L i) (st' := []) (hd.trans rfl) (lw_c12 X hX hg hB hi hJ out)
    | 13, _, hd => exact lw_st X hB hsw (pc' := 643) (L' := lw_L i) (st' := []) (hd.trans rfl) (lw_c13 X hX hg hB hi hJ out)
    | 14, _, hd => exact lw_st X hB hsw (pc' := 686) (L' := lw_L i) (st' := []) (hd.trans rfl) (lw_c14 X hX hg hB hi hJ out)
    | 15, _, hd => exact lw_st X hB hsw (pc' := 729) (L' := lw_L i) (st' := []) (hd.trans rfl) (lw_c15 X hX hg hB hi hJ out)
    | 16, _, hd => exact lw_st X hB hsw (pc' := 752) (L' := lw_L i) (st' := []) (hd.trans rfl) (lw_c16 X hX hg hB hi hJ out)
    | 17, _, hd => exact lw_st X hB hsw (pc' := 775) (L' := lw_L i) (st' := []) (hd.trans rfl) (lw_c17 X hX hg hB hi hJ out)
    | 18, _, hd => exact lw_st X hB hsw (pc' := 808) (L' := lw_L i) (st' := []) (hd.trans rfl) (lw_c18 X hX hg hB hi hJ out)
    | 19, _, hd => exact lw_st X hB hsw (pc' := 841) (L' := lw_L i) (st' := []) (hd.trans rfl) (lw_c19 X hX hg hB hi hJ out)
    | 20, _, hd => exact lw_st X hB hsw (pc' := 884) (L' := lw_L i) (st' := []) (hd.trans rfl) (lw_c20 X hX hg hB hi hJ out)
    | 21, _, hd => exact lw_st X hB hsw (pc' := 907) (L' := lw_L i) (st' := []) (hd.trans rfl) (lw_c21 X hX hg hB hi hJ out)
    | 22, _, hd => exact lw_st X hB hsw (pc' := 930) (L' := lw_L i) (st' := []) (hd.trans rfl) (lw_c22 X hX hg hB hi hJ out)
    | 23, _, hd => exact lw_st X hB hsw (pc' := 953) (L' := lw_L i) (st' := []) (hd.trans rfl) (lw_c23 X hX hg hB hi hJ out)
    | 24, _, hd => exact lw_st X hB hsw (pc' := 976) (L' := lw_L i) (st' := []) (hd.trans rfl) (lw_c24 X hX hg hB hi hJ out)
    | 25, _, hd => exact lw_st X hB hsw (pc' := 999) (L' := lw_L i) (st' := []) (hd.trans rfl) (lw_c25 X hX hg hB hi hJ out)
    | 26, _, hd => exact lw_st X hB hsw (pc' := 1032) (L' := lw_L i) (st' := []) (hd.trans rfl) (lw_c26 X hX hg hB hi hJ out)
    | 27, _, hd => exact lw_st X hB hsw (pc' := 1065) (L' := lw_L i) (st' := []) (hd.trans rfl) (lw_c27 X hX hg hB hi hJ out)
    | 28, _, hd => exact lw_st X hB hsw (pc' := 1098) (L' := lw_L i) (st' := []) (hd.trans rfl) (lw_c28 X hX hg hB hi hJ out)
    | 29, _, hd => exact lw_st X hB hsw (pc' := 1141) (L' := lw_L i) (st' := []) (hd.trans rfl) (lw_c29 X hX hg hB hi hJ out)
    | 30, _, hd => exact lw_st X hB hsw (pc' := 1194) (L' := lw_L i) (st' := []) (hd.trans rfl) (lw_c30 X hX hg hB hi hJ out)
    | 31, _, hd => exact lw_st X hB hsw (pc' := 1227) (L' := lw_L i) (st' := []) (hd.trans rfl) (lw_c31 X hX hg hB hi hJ out)
    | 32, _, hd => exact lw_st X hB hsw (pc' := 1250) (L' := lw_L i) (st' := []) (hd.trans rfl) (lw_c32 X hX hg hB hi hJ out)
    | 33, _, hd => exact lw_st X hB hsw (pc' := 1273) (L' := lw_L i) (st' := []) (hd.trans rfl) (lw_c33 X hX hg hB hi hJ out)
    | 34, _, hd => exact lw_st X hB hsw (pc' := 1306) (L' := lw_L i) (st' := []) (hd.trans rfl) (lw_c34 X hX hg hB hi hJ out)
    | 35, _, hd => exact lw_st X hB hsw (pc' := 1329) (L' := lw_L i) (st' := []) (hd.trans rfl) (lw_c35 X hX hg hB hi hJ out)
    | 36, _, hd => exact lw_st X hB hsw (pc' := 1352) (L' := lw_L i) (st' := []) (hd.trans rfl) (lw_c36 X hX hg hB hi hJ out)
    | 37, _, hd => exact lw_st X hB hsw (pc' := 1395) (L' := lw_L i) (st' := []) (hd.trans rfl) (lw_c37 X hX hg hB hi hJ out)
    | 38, _, hd => exact lw_st X hB hsw (pc' := 1418) (L' := lw_L i) (st' := []) (hd.trans rfl) (lw_c38 X hX hg hB hi hJ out)
    | 39, _, hd => exact lw_st X hB hsw (pc' := 1431) (L' := lw_L i) (st' := []) (hd.trans rfl) (lw_c39 X hX hg hB hi hJ out)
    | 40, _, hd => exact lw_st X hB hsw (pc' := 1444) (L' := lw_L i) (st' := []) (hd.trans rfl) (lw_c40 X hX hg hB hi hJ out)
    | 41, _, hd => exact lw_st X hB hsw (pc' := 1487) (L' := lw_L i) (st' := []) (hd.trans rfl) (lw_c41 X hX hg hB hi hJ out)
    | 42, _, hd => exact lw_st X hB hsw (pc' := 1500) (L' := lw_L i) (st' := []) (hd.trans rfl) (lw_c42 X hX hg hB hi hJ out)
    | 43, _, hd => exact lw_st X hB hsw (pc' := 1513) (L' := lw_L i) (st' := []) (hd.trans rfl) (lw_c43 X hX hg hB hi hJ out)
    | n + 44, hk2, _ => exact absurd hk2 (by omega)
theorem lw_ret1 (X : zz_X g p room_1 s m meth c zz_law) (hr : meth.sig.returnType = ret) (hlk : meth.locks = false) (hsz : s.heap.size = g.1 + 1) (hB : cu ≤ 600000 ∧ su ≤ 7302250) : zz_LZ g p l e s m below meth c b 1542 (lw_L i) [] cs cu su := by
  refine lw_st X hB (ins := .iconst 1) (pc' := 1543) (L' := lw_L i) (st' := [.int 1]) (by decide +kernel) rfl ?_
  exact zz_lend X hr hlk hsz hB (lw_d1 (by decide +kernel) rfl)
theorem lw_cond (X : zz_X g p room_1 s m meth c zz_law) (hX : va_X b L0 xs s s.heap) (hg : g.2.1 = b ∧ b ≤ g.1) (hB : cu ≤ 600000 ∧ su ≤ 7302250) {t : Nat} (hb : zz_br (zz_ic .gt i (Int32.ofNat L0 - (Int8.ofInt 6).toInt32)) 24 1518 = some t) (kk : zz_LZ g p l e s m below meth c b t (lw_L i) [] cs cu su) : zz_LZ g p l e s m below meth c b 18 (lw_L i) [] cs cu su := by
  refine lw_st X hB (ins := .iload_n 3) (by decide +kernel) rfl ?_
  refine lw_st X hB (ins := .aload_n 0) (by decide +kernel) rfl ?_
  refine zz_slen X hX hg (lw_d1 (by decide +kernel) rfl) ?_
  refine lw_st X hB (ins := .bipush 6) (by decide +kernel) rfl ?_
  refine lw_st X hB (ins := .isub) (by decide +kernel) rfl ?_
  refine lw_st X hB (ins := .if_icmp .gt 1518) (pc' := t) (L' := lw_L i) (st' := []) (by decide +kernel) ?_ kk
  simp only [zz_da]
  rw [hb]
  rfl
theorem lw_loop (X : zz_X g p room_1 s m meth c zz_law) (hX : va_X b L0 xs s s.heap) (hL : L0 ≤ 3072) (hg : g.2.1 = b ∧ b ≤ g.1) (hr : meth.sig.returnType = ret) (hlk : meth.locks = false) (hsz : s.heap.size = g.1 + 1) (hB : cu ≤ 600000 ∧ su ≤ 7302250) : ∀ (k : Nat) (i : Int32) (cs : zz_W), 0 ≤ i.toInt → i.toInt ≤ (L0 : Int) → (L0 : Int) - i.toInt < 6 * (k : Int) → l_JJ cs → zz_LZ g p l e s m below meth c b 18 (lw_L i) [] cs cu su := by
  intro k
  induction k with
  | zero => intro i cs h1 h2 h3; exact absurd h3 (by omega)
  | succ k ih =>
    intro i cs h1 h2 h3 hJ
    have e1 : (Int32.ofNat L0 - (Int8.ofInt 6).toInt32).toInt = (L0 : Int) - 6 := by
      have e2 : (Int32.ofNat L0).toInt = (L0 : Int) := Int32.toInt_ofNat_of_lt (by omega)
      rw [Int32.toInt_sub, e2, show (Int8.ofInt 6).toInt32.toInt = 6 from by decide]
      exact Int.bmod_eq_of_le_mul_two (by omega) (by omega)
    by_cases h4 : (L0 : Int) - 6 < i.toInt
    · refine lw_cond X hX hg hB (t := 1542) ?_ (lw_ret1 X hr hlk hsz hB)
      rw [t_ic_rel, e1]
      show zz_br (decide ((L0 : Int) - 6 < i.toInt)) 24 1518 = _
      rw [decide_eq_true h4]
      rfl
    · refine lw_cond X hX hg hB (t := 27) ?_ ?_
      · rw [t_ic_rel, e1]
        show zz_br (decide ((L0 : Int) - 6 < i.toInt)) 24 1518 = _
        rw [decide_eq_false h4]
        rfl
      · refine lw_st X hB (ins := .aload_n 0) (by decide +kernel) rfl ?_
        refine lw_st X hB (ins := .iload_n 3) (by decide +kernel) rfl ?_
        refine zz_sld X hX hg (j := i) (v := xs i.toNatClampNeg) ?_ rfl (lw_d1 (by decide +kernel) rfl) ?_
        · unfold vp_in
          rintro (q | q)
          · rw [Int32.lt_iff_toInt_lt] at q
            have h0 : (0 : Int32).toInt = 0 := rfl
            omega
          · have h0 : ((i.toNatClampNeg : Nat) : Int) = i.toInt := by
              show ((i.toInt.toNat : Nat) : Int) = _
              rw [Int.toNat_of_nonneg h1]
            omega
        · refine lw_st X hB (ins := .bipush 63) (by decide +kernel) rfl ?_
          refine lw_st X hB (ins := .iand) (by decide +kernel) rfl ?_
          refine lw_sw X hX hg hB ⟨h1, by omega, hL⟩ hJ (fun cs' hJ' => ?_)
          refine lw_st X hB (ins := .iinc 3 6) (pc' := 1539) (L' := lw_L (i + Int32.ofInt 6)) (st' := []) (by decide +kernel) rfl ?_
          refine lw_st X hB (ins := .goto (-1521)) (pc' := 18) (L' := lw_L (i + Int32.ofInt 6)) (st' := []) (by decide +kernel) rfl ?_
          have e3 : (i + Int32.ofInt 6).toInt = i.toInt + 6 := by
            rw [Int32.toInt_add, show (Int32.ofInt 6).toInt = 6 from by decide]
            exact Int.bmod_eq_of_le_mul_two (by omega) (by omega)
          exact ih _ cs' (by omega) (by omega) (by omega) hJ'
end LS2
