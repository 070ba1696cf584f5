/-! a town told in letters: what the statements do, on both sides (made by a program) -/
noncomputable def tlC (c a b x d e : Int) (g : gV) : Prop := (c = 112 ∧ 0 ≤ a ∧ a ≤ 5 ∧ 0 ≤ b ∧ b ≤ 9 ∧ g 0 < 7) ∨ (c = 119 ∧ 0 ≤ a ∧ a < g 0 ∧ 0 ≤ b ∧ b ≤ 6) ∨ (c = 101 ∧ 0 ≤ a ∧ a ≤ 4 ∧ 1 ≤ b ∧ b ≤ 9 ∧ 0 ≤ x ∧ x ≤ 8) ∨ (c = 98 ∧ 0 ≤ a ∧ a < g 0 ∧ 0 ≤ b ∧ b ≤ 4 ∧ 0 ≤ x ∧ x ≤ 9) ∨ (c = 97 ∧ proC g a b x d e) ∨ (c = 100 ∧ 1 ≤ 10 * a + b ∧ 10 * a + b ≤ 60 ∧ g 1 + (10 * a + b) ≤ 999)
noncomputable def tlG (c a b x d e : Int) (g : gV) : gV := if c = 112 then comeG g a b else if c = 119 then gu g (5 + 5 * a) b else if c = 101 then gu (gu g (73 + 2 * a) b) (74 + 2 * a) x else if c = 98 then gu g (38 + 5 * a + b) x else if c = 97 then proF g a b x d e else dayN (10 * a + b).toNat g
section TE
variable {h h' h0 h1 k1 : fH} {v z c k y a b x d e a1 a2 a3 a4 a5 n p q q' i x' d' e' : Int} {g : gV} {G G' G'' : gS} {L : Int × gV} {K K' : Nat}
theorem tlG_p : tlG 112 a b x d e g = comeG g a b := if_pos rfl
theorem tlG_w : tlG 119 a b x d e g = gu g (5 + 5 * a) b := by
  unfold tlG
  rw [if_neg (by decide), if_pos rfl]
theorem tlG_e : tlG 101 a b x d e g = gu (gu g (73 + 2 * a) b) (74 + 2 * a) x := by
  unfold tlG
  rw [if_neg (by decide), if_neg (by decide), if_pos rfl]
theorem tlG_b : tlG 98 a b x d e g = gu g (38 + 5 * a + b) x := by
  unfold tlG
  rw [if_neg (by decide), if_neg (by decide), if_neg (by decide), if_pos rfl]
theorem tlG_a : tlG 97 a b x d e g = proF g a b x d e := by
  unfold tlG
  rw [if_neg (by decide), if_neg (by decide), if_neg (by decide), if_neg (by decide), if_pos rfl]
theorem tlG_d : tlG 100 a b x d e g = dayN (10 * a + b).toNat g := by
  unfold tlG
  rw [if_neg (by decide), if_neg (by decide), if_neg (by decide), if_neg (by decide), if_neg (by decide)]
theorem tl_ok (W : WF g) (hd : g 1 ≤ 999) (hc : tlC c a b x d e g) : WF (tlG c a b x d e g) ∧ tlG c a b x d e g 1 ≤ 999 := by
  have hB := W.1
  rcases hc with ⟨rfl, q1, q2, q3, q4, q5⟩ | ⟨rfl, q1, q2, q3, q4⟩ | ⟨rfl, q1, q2, q3, q4, q5, q6⟩ | ⟨rfl, q1, q2, q3, q4, q5, q6⟩ | ⟨rfl, q1⟩ | ⟨rfl, q1, q2, q3⟩
  · rw [tlG_p]
    refine ⟨WF_come W q5 q1 q2 q3 q4, ?_⟩
    unfold comeG
    rw [if_neg (by omega), if_neg (by omega), if_neg (by omega), if_neg (by omega), if_neg (by omega), if_neg (by omega)]
    exact hd
  · rw [tlG_w]
    exact ⟨WF_wish W q1 q2 q3 q4, by rw [gu_n (by omega)]; exact hd⟩
  · rw [tlG_e]
    exact ⟨WF_set W q1 (by omega) q3 q4 q5 q6, by rw [gu_n (by omega), gu_n (by omega)]; exact hd⟩
  · rw [tlG_b]
    exact ⟨WF_bel W q1 q2 q3 (by omega) q5 q6, by rw [gu_n (by omega)]; exact hd⟩
  · rw [tlG_a]
    exact ⟨proC_WF W q1, by rw [proF_o (by omega) (by omega)]; exact hd⟩
  · rw [tlG_d]
    obtain ⟨r1, r2, r3⟩ := dayN_ok W (10 * a + b).toNat (by omega)
    exact ⟨r1, by omega⟩
theorem tl_cg (hx : c = 101 ∨ c = 98 ∨ c = 97 → x = x') (hde : c = 97 → d = d' ∧ e = e') : (tlC c a b x d e g ↔ tlC c a b x' d' e' g) ∧ tlG c a b x d e g = tlG c a b x' d' e' g := by
  by_cases q1 : c = 97
  · obtain ⟨r1, r2⟩ := hde q1
    rw [hx (by omega), r1, r2]
    exact ⟨Iff.rfl, rfl⟩
  · by_cases q2 : c = 101 ∨ c = 98
    · rw [hx (by omega)]
      refine ⟨?_, ?_⟩
      · unfold tlC
        constructor
        · rintro (q | q | q | q | q | q)
          · exact Or.inl q
          · exact Or.inr (Or.inl q)
          · exact Or.inr (Or.inr (Or.inl q))
          · exact Or.inr (Or.inr (Or.inr (Or.inl q)))
          · exact absurd q.1 q1
          · exact Or.inr (Or.inr (Or.inr (Or.inr (Or.inr q))))
        · rintro (q | q | q | q | q | q)
          · exact Or.inl q
          · exact Or.inr (Or.inl q)
          · exact Or.inr (Or.inr (Or.inl q))
          · exact Or.inr (Or.inr (Or.inr (Or.inl q)))
          · exact absurd q.1 q1
          · exact Or.inr (Or.inr (Or.inr (Or.inr (Or.inr q))))
      · unfold tlG
        rcases q2 with q2 | q2
        · rw [q2, if_neg (by decide), if_neg (by decide), if_pos rfl, if_neg (by decide), if_neg (by decide), if_pos rfl]
        · rw [q2, if_neg (by decide), if_neg (by decide), if_neg (by decide), if_pos rfl, if_neg (by decide), if_neg (by decide), if_neg (by decide), if_pos rfl]
    · refine ⟨?_, ?_⟩
      · unfold tlC
        constructor
        · rintro (q | q | q | q | q | q)
          · exact Or.inl q
          · exact Or.inr (Or.inl q)
          · exact absurd (Or.inl q.1) q2
          · exact absurd (Or.inr q.1) q2
          · exact absurd q.1 q1
          · exact Or.inr (Or.inr (Or.inr (Or.inr (Or.inr q))))
        · rintro (q | q | q | q | q | q)
          · exact Or.inl q
          · exact Or.inr (Or.inl q)
          · exact absurd (Or.inl q.1) q2
          · exact absurd (Or.inr q.1) q2
          · exact absurd q.1 q1
          · exact Or.inr (Or.inr (Or.inr (Or.inr (Or.inr q))))
      · unfold tlG
        by_cases r1 : c = 112
        · rw [if_pos r1, if_pos r1]
        · by_cases r2 : c = 119
          · rw [if_neg r1, if_neg r1, if_pos r2, if_pos r2]
          · rw [if_neg r1, if_neg r1, if_neg r2, if_neg r2, if_neg (by omega), if_neg (by omega), if_neg (by omega), if_neg (by omega), if_neg (by omega), if_neg (by omega)]
noncomputable def dvF (L : Int × gV) (p j : Int) : Int := atF L (p + j) - 48
noncomputable def tcF (L : Int × gV) (p : Int) (g : gV) : Prop := tlC (atF L p) (dvF L p 1) (dvF L p 2) (dvF L p 3) (dvF L p 4) (dvF L p 5) g
noncomputable def tgF (L : Int × gV) (p : Int) (g : gV) : gV := tlG (atF L p) (dvF L p 1) (dvF L p 2) (dvF L p 3) (dvF L p 4) (dvF L p 5) g

theorem sc_tell (hs : fS 26 [1, p] h v h') (C : CL L h) (hL : LB L) (R : RC h 34 g) (W : WF g) (hd : g 1 ≤ 999) (hp : 0 ≤ p ∧ p ≤ 1000) : frC 34 h h' ∧ ((v ≠ 0 ∧ tcF L p g ∧ RC h' 34 (tgF L p g)) ∨ (v = 0 ∧ ¬ tcF L p g ∧ h' = h)) := by
  have hB := W.1
  have jm := R.many
  have jd := R.day
  have f6 : f_len 4 = 6 := by decide +kernel
  have b1 := at_b hL (p + 1)
  have b2 := at_b hL (p + 2)
  have b3 := at_b hL (p + 3)
  have b4 := at_b hL (p + 4)
  have b5 := at_b hL (p + 5)
  refine vc_tellInMind hs (fun v h' => frC 34 h h' ∧ ((v ≠ 0 ∧ tcF L p g ∧ RC h' 34 (tgF L p g)) ∨ (v = 0 ∧ ¬ tcF L p g ∧ h' = h))) ?_
  intro z2 e2 v1 k1 hs1 z4 e4 v2 k2 hs2 z6 e6 v3 k3 hs3 z8 e8 v4 k4 hs4 z10 e10 v5 k5 hs5 v6 k6 hs6
  have f2 := wr_d e2 (by omega) (by omega)
  have f4 := wr_d e4 (by omega) (by omega)
  have f6' := wr_d e6 (by omega) (by omega)
  have f8 := wr_d e8 (by omega) (by omega)
  have f10 := wr_d e10 (by omega) (by omega)
  rw [f2] at hs1
  rw [f4] at hs2
  rw [f6'] at hs3
  rw [f8] at hs4
  rw [f10] at hs5
  obtain ⟨c1, d1⟩ := sl_digit hs1 C hL
  rw [c1] at hs2
  obtain ⟨c2, d2⟩ := sl_digit hs2 C hL
  rw [c2] at hs3
  obtain ⟨c3, d3⟩ := sl_digit hs3 C hL
  rw [c3] at hs4
  obtain ⟨c4, d4⟩ := sl_digit hs4 C hL
  rw [c4] at hs5
  obtain ⟨c5, d5⟩ := sl_digit hs5 C hL
  rw [c5] at hs6
  obtain ⟨c6, d6⟩ := sl_at hs6 C
  rw [c6]
  have hT : tcF L p g = tlC v6 v1 v2 v3 v4 v5 g := by
    unfold tcF dvF
    rw [d1, d2, d3, d4, d5, d6]
  have hG : tgF L p g = tlG v6 v1 v2 v3 v4 v5 g := by
    unfold tgF dvF
    rw [d1, d2, d3, d4, d5, d6]
  rw [hT, hG]
  have no : ¬ ((v6 = 112 ∧ 0 ≤ v1 ∧ v1 ≤ 5 ∧ 0 ≤ v2 ∧ v2 ≤ 9 ∧ g 0 < 7) ∨ (v6 = 119 ∧ 0 ≤ v1 ∧ v1 < g 0 ∧ 0 ≤ v2 ∧ v2 ≤ 6) ∨ (v6 = 101 ∧ 0 ≤ v1 ∧ v1 ≤ 4 ∧ 1 ≤ v2 ∧ v2 ≤ 9 ∧ 0 ≤ v3 ∧ v3 ≤ 8) ∨ (v6 = 98 ∧ 0 ≤ v1 ∧ v1 < g 0 ∧ 0 ≤ v2 ∧ v2 ≤ 4 ∧ 0 ≤ v3 ∧ v3 ≤ 9) ∨ (v6 = 97 ∧ proC g v1 v2 v3 v4 v5) ∨ (v6 = 100 ∧ 1 ≤ 10 * v1 + v2 ∧ 10 * v1 + v2 ≤ 60 ∧ g 1 + (10 * v1 + v2) ≤ 999)) → frC 34 h h ∧ (((0 : Int) ≠ 0 ∧ tlC v6 v1 v2 v3 v4 v5 g ∧ RC h 34 (tlG v6 v1 v2 v3 v4 v5 g)) ∨ ((0 : Int) = 0 ∧ ¬ tlC v6 v1 v2 v3 v4 v5 g ∧ h = h)) := fun hn => ⟨frC.rf 34 h, Or.inr ⟨rfl, hn, rfl⟩⟩
  refine ⟨fun q1 => fun v7 k7 hs7 => ⟨fun q2 => fun z14 e14 => fun z15 e15 => fun k8 ek8 => fun k9 ek9 => fun k10 ek10 => fun k11 ek11 => fun k12 ek12 => fun z16 e16 => fun z17 e17 => (have f17 := wr_f e17; fun k13 ek13 => ?_), fun q2 => ?_⟩, fun q1 => ⟨fun q3 => ⟨fun q4 => no (by omega), fun q4 => fun z13 e13 => ⟨fun q5 => no (by omega), fun q5 => ⟨fun q6 => no (by omega), fun q6 => ⟨fun q7 => no (by omega), fun q7 => ⟨fun q8 => ⟨fun q9 => fun z14 e14 => fun k7 ek7 => ?_, fun q9 => no (by omega)⟩, fun q8 => no (by omega)⟩⟩⟩⟩⟩, fun q3 => ⟨fun q10 => fun z13 e13 => (have f13 := wr_d e13 (by omega) (by omega); fun z14 e14 => (have f14 := wr_d e14 (by omega) (by omega); ⟨fun q11 => ⟨fun q12 => no (by omega), fun q12 => fun z15 e15 => fun z16 e16 => (have f16 := wr_d e16 (by omega) (by omega); ⟨fun q13 => fun z17 e17 => (have f17 := wr_d e17 (by omega) (by omega); fun z18 e18 => (have f18 := wr_d e18 (by omega) (by omega); fun v7 k7 hs7 => ?_)), fun q13 => no (by omega)⟩)⟩, fun q11 => no (by omega)⟩)), fun q10 => ⟨fun q14 => ⟨fun q15 => no (by omega), fun q15 => ⟨fun q16 => no (by omega), fun q16 => ⟨fun q17 => no (by omega), fun q17 => ⟨fun q18 => ⟨fun q19 => no (by omega), fun q19 => ⟨fun q20 => fun k7 ek7 => fun k8 ek8 => ?_, fun q20 => no (by omega)⟩⟩, fun q18 => no (by omega)⟩⟩⟩⟩, fun q14 => ⟨fun q21 => fun z13 e13 => ⟨fun q22 => no (by omega), fun q22 => ⟨fun q23 => no (by omega), fun q23 => ⟨fun q24 => ⟨fun q25 => no (by omega), fun q25 => fun z14 e14 => ⟨fun q26 => fun v7 k7 hs7 => ?_, fun q26 => no (by omega)⟩⟩, fun q24 => no (by omega)⟩⟩⟩, fun q21 => ⟨fun q27 => ⟨fun q28 => no (by omega), fun q28 => fun z13 e13 => ⟨fun q29 => no (by omega), fun q29 => ⟨fun q30 => no (by omega), fun q30 => ⟨fun q31 => no (by omega), fun q31 => fun k7 ek7 => ?_⟩⟩⟩⟩, fun q27 => no (by omega)⟩⟩⟩⟩⟩⟩
  · obtain ⟨ek7, pv⟩ := sc_refPro hs7 R W
    rw [ek7] at e14 e15 ek8
    have hc : proC g v1 v2 v3 v4 v5 := (proV_0 pv).mp q2
    have h3 := proC_room W hc
    rw [R.opn] at e14
    subst e14
    have r := sc_pro (a := v1) (c := v2) (e := v3) (s := v4) (d := v5) (z9 := z15) R W.bg h3 e15
    have hz := R.wr (w := g 2) (by omega) h3
    rw [show (34 : Int) + 19 = 53 from rfl, ← e15] at hz
    have m10 : z16 = g 2 := by
      rw [e16, ek12, fu_c (by omega), ek11, fu_c (by omega), ek10, fu_c (by omega), ek9, fu_c (by omega), ek8, fu_c (by omega)]
      exact R.opn
    have ek13' : k13 = fu (fu (fu (fu (fu (fu h z15 0 v1) z15 1 v2) z15 2 v3) z15 3 v4) z15 4 v5) 34 14 (g 2 + 1) := by
      rw [ek13, ek12, ek11, ek10, ek9, ek8, show z17 = g 2 + 1 by omega]
    rw [← ek13'] at r
    refine ⟨fun c k n1 => ?_, Or.inl ⟨by decide, Or.inr (Or.inr (Or.inr (Or.inr (Or.inl ⟨q1, hc⟩)))), by rw [q1, tlG_a]; exact r⟩⟩
    rw [ek13']
    unfold fu
    rw [if_neg (by omega), if_neg (by omega), if_neg (by omega), if_neg (by omega), if_neg (by omega), if_neg (by omega)]
  · obtain ⟨ek7, pv⟩ := sc_refPro hs7 R W
    rw [ek7]
    refine no (fun hc => ?_)
    rcases hc with hc | hc | hc | hc | hc | hc
    · omega
    · omega
    · omega
    · omega
    · exact q2 ((proV_0 pv).mpr hc.2)
    · omega
  · have r := R.u_bel (p := v1) (e := v2) (z := v3) W.bg (by omega) (by omega) (by omega) (by omega)
    rw [show (34 : Int) + 10 + v1 = z14 by omega, ← ek7] at r
    refine ⟨?_, Or.inl ⟨by decide, Or.inr (Or.inr (Or.inr (Or.inl (by omega)))), by rw [q3, tlG_b]; exact r⟩⟩
    rw [ek7]
    exact (frC.rf 34 h).up (by omega)
  · obtain ⟨r1, r2⟩ := sc_goOn hs7 R W (by omega) (by omega)
    refine ⟨r2, Or.inl ⟨by decide, Or.inr (Or.inr (Or.inr (Or.inr (Or.inr (by omega))))), ?_⟩⟩
    rw [q10, tlG_d, show 10 * v1 + v2 = z18 by omega]
    exact r1
  · have we := W.evt (e := v1) (by omega) (by omega)
    have r := R.u_ev (e := v1) (z := v2) W.bg (by omega) (by omega)
    rw [show (34 : Int) + 17 = 51 from rfl, ← ek7] at r
    have r2 := r.u_on (e := v1) (z := v3) (BG_gu W.bg (by omega)) (by omega) (by omega)
    rw [show (34 : Int) + 18 = 52 from rfl, ← ek8] at r2
    refine ⟨?_, Or.inl ⟨by decide, Or.inr (Or.inr (Or.inl (by omega))), by rw [q14, tlG_e]; exact r2⟩⟩
    rw [ek8, ek7]
    exact ((frC.rf 34 h).up (by omega)).up (by omega)
  · obtain ⟨r1, r2⟩ := sc_come hs7 R W (by unfold tw; omega) (by omega) (by omega) (by omega) (by omega) (by omega)
    exact ⟨r2, Or.inl ⟨by decide, Or.inl (by omega), by rw [q21, tlG_p]; exact r1⟩⟩
  · have r := R.u_wish (p := v1) (z := v2) W.bg (by omega) (by omega)
    rw [show (34 : Int) + 6 = 40 from rfl, ← ek7] at r
    refine ⟨?_, Or.inl ⟨by decide, Or.inr (Or.inl (by omega)), by rw [q27, tlG_w]; exact r⟩⟩
    rw [ek7]
    exact (frC.rf 34 h).up (by omega)
theorem sr_wagerTold (hs : fS 165 [271, a1, a2, a3, a4, a5] h v h') (R : RM h g) (W : WF g) (h4 : 0 ≤ a4) (h5 : a5 ≤ 9) : frM h h' ∧ ((v ≠ 0 ∧ proC g a1 a2 a3 a4 a5 ∧ RM h' (proF g a1 a2 a3 a4 a5)) ∨ (v = 0 ∧ ¬ proC g a1 a2 a3 a4 a5 ∧ h' = h)) := by
  have hB := W.1
  have jm := R.many
  have jo := R.opn
  have no : ¬ (0 ≤ a1 ∧ a1 < g 0 ∧ 0 ≤ a2 ∧ a2 < g 0 ∧ a1 ≠ a2 ∧ 0 ≤ a3 ∧ a3 < 5 ∧ 0 ≤ a4 ∧ a4 ≤ 1 ∧ 1 ≤ a5 ∧ a5 ≤ 9) → frM h h ∧ (((0 : Int) ≠ 0 ∧ proC g a1 a2 a3 a4 a5 ∧ RM h (proF g a1 a2 a3 a4 a5)) ∨ ((0 : Int) = 0 ∧ ¬ proC g a1 a2 a3 a4 a5 ∧ h = h)) := fun hn => ⟨frM.rf h, Or.inr ⟨rfl, fun q => hn q.1, rfl⟩⟩
  refine vr_wagerTold hs (fun v h' => frM h h' ∧ ((v ≠ 0 ∧ proC g a1 a2 a3 a4 a5 ∧ RM h' (proF g a1 a2 a3 a4 a5)) ∨ (v = 0 ∧ ¬ proC g a1 a2 a3 a4 a5 ∧ h' = h))) ?_
  refine fun z6 e6 => fun z7 e7 => (have f7 := wr_d e7 (by omega) (by omega); fun z8 e8 => ⟨fun q1 => (have r1 := xl_lt e8 q1; no (by omega)), fun q1 => (have r1 := xl_ge e8 q1; fun z9 e9 => ⟨fun q2 => (have r2 := xl_gt e9 q2; no (by omega)), fun q2 => (have r2 := xl_le e9 q2; fun z10 e10 => fun z11 e11 => (have f11 := wr_d e11 (by omega) (by omega); fun z12 e12 => ⟨fun q3 => (have r3 := xl_lt e12 q3; no (by omega)), fun q3 => (have r3 := xl_ge e12 q3; fun z13 e13 => ⟨fun q4 => (have r4 := xl_gt e13 q4; no (by omega)), fun q4 => (have r4 := xl_le e13 q4; ⟨fun q5 => no (by omega), fun q5 => fun z14 e14 => ⟨fun q6 => (have r6 := xl_lt e14 q6; no (by omega)), fun q6 => (have r6 := xl_ge e14 q6; fun z15 e15 => ⟨fun q7 => (have r7 := xl_gt e15 q7; no (by omega)), fun q7 => (have r7 := xl_le e15 q7; ⟨fun q8 => no (by omega), fun q8 => ⟨fun q9 => no (by omega), fun q9 => fun z16 e16 => ⟨fun q10 => no (by omega), fun q10 => fun v1 k1 hs1 => ⟨fun q11 => ?_, fun q11 => fun z18 e18 => fun k2 ek2 => fun z19 e19 => fun k3 ek3 => fun z20 e20 => fun k4 ek4 => fun z21 e21 => fun k5 ek5 => fun z22 e22 => fun k6 ek6 => fun z23 e23 => fun z24 e24 => (have f24 := wr_f e24; fun k7 ek7 => ?_)⟩⟩⟩⟩)⟩)⟩⟩)⟩)⟩))⟩)⟩)
  · obtain ⟨ek1, r0⟩ := sr_couldBe hs1 R W (by omega) (by omega) (by omega) (by omega) (by omega) (by omega)
    exact ⟨ek1 ▸ frM.rf h, Or.inr ⟨rfl, fun q => r0.f q11 q.2, ek1⟩⟩
  · obtain ⟨ek1, r0⟩ := sr_couldBe hs1 R W (by omega) (by omega) (by omega) (by omega) (by omega) (by omega)
    rw [ek1] at e18 ek2
    have hc : proC g a1 a2 a3 a4 a5 := ⟨by omega, r0.t q11⟩
    have h3 := proC_room W hc
    have m1 : z18 = g 2 := by rw [e18, R.opn]
    have m2 : z19 = g 2 := by rw [e19, ek2, fu_c (by omega), R.opn]
    have m3 : z20 = g 2 := by rw [e20, ek3, fu_c (by omega), ek2, fu_c (by omega), R.opn]
    have m4 : z21 = g 2 := by rw [e21, ek4, fu_c (by omega), ek3, fu_c (by omega), ek2, fu_c (by omega), R.opn]
    have m5 : z22 = g 2 := by rw [e22, ek5, fu_c (by omega), ek4, fu_c (by omega), ek3, fu_c (by omega), ek2, fu_c (by omega), R.opn]
    have m6 : z23 = g 2 := by rw [e23, ek6, fu_c (by omega), ek5, fu_c (by omega), ek4, fu_c (by omega), ek3, fu_c (by omega), ek2, fu_c (by omega), R.opn]
    have r := sr_pro (a := a1) (c := a2) (e := a3) (s := a4) (d := a5) (z6 := z24) R (by omega) h3 m1 m2 m3 m4 m5 (by omega)
    rw [← ek2, ← ek3, ← ek4, ← ek5, ← ek6, ← ek7] at r
    refine ⟨fun c k n1 => ?_, Or.inl ⟨by decide, hc, r⟩⟩
    rw [ek7, ek6, ek5, ek4, ek3, ek2]
    unfold fu
    rw [if_neg (by omega), if_neg (by omega), if_neg (by omega), if_neg (by omega), if_neg (by omega), if_neg (by omega)]
theorem sr_comes (hs : fS 161 [271, k] h v h') (R : RM h g) (W : WF g) (hd : g 1 ≤ 999) (k0 : 0 ≤ k) (k1 : k ≤ 1000) (hc : h 288 k = c) (n1 : h 289 (5 * k) = a) (n2 : h 289 (5 * k + 1) = b) (n3 : h 289 (5 * k + 2) = x) (n4 : h 289 (5 * k + 3) = d) (n5 : h 289 (5 * k + 4) = e) (da : 0 ≤ a ∧ a ≤ 9) (db : 0 ≤ b ∧ b ≤ 9) (dx : c = 101 ∨ c = 98 ∨ c = 97 → 0 ≤ x ∧ x ≤ 9) (dd : c = 97 → 0 ≤ d ∧ d ≤ 9 ∧ 0 ≤ e ∧ e ≤ 9) (hc2 : c = 97 ∨ c = 98 ∨ c = 100 ∨ c = 101 ∨ c = 112 ∨ c = 119) : frM h h' ∧ ((v ≠ 0 ∧ tlC c a b x d e g ∧ RM h' (tlG c a b x d e g)) ∨ (v = 0 ∧ ¬ tlC c a b x d e g ∧ h' = h)) := by
  have hB := W.1
  have jm := R.many
  have jd := R.day
  have no : ¬ ((c = 112 ∧ 0 ≤ a ∧ a ≤ 5 ∧ 0 ≤ b ∧ b ≤ 9 ∧ g 0 < 7) ∨ (c = 119 ∧ 0 ≤ a ∧ a < g 0 ∧ 0 ≤ b ∧ b ≤ 6) ∨ (c = 101 ∧ 0 ≤ a ∧ a ≤ 4 ∧ 1 ≤ b ∧ b ≤ 9 ∧ 0 ≤ x ∧ x ≤ 8) ∨ (c = 98 ∧ 0 ≤ a ∧ a < g 0 ∧ 0 ≤ b ∧ b ≤ 4 ∧ 0 ≤ x ∧ x ≤ 9) ∨ (c = 97 ∧ proC g a b x d e) ∨ (c = 100 ∧ 1 ≤ 10 * a + b ∧ 10 * a + b ≤ 60 ∧ g 1 + (10 * a + b) ≤ 999)) → frM h h ∧ (((0 : Int) ≠ 0 ∧ tlC c a b x d e g ∧ RM h (tlG c a b x d e g)) ∨ ((0 : Int) = 0 ∧ ¬ tlC c a b x d e g ∧ h = h)) := fun hn => ⟨frM.rf h, Or.inr ⟨rfl, hn, rfl⟩⟩
  refine vr_comesTold hs (fun v h' => frM h h' ∧ ((v ≠ 0 ∧ tlC c a b x d e g ∧ RM h' (tlG c a b x d e g)) ∨ (v = 0 ∧ ¬ tlC c a b x d e g ∧ h' = h))) ?_
  intro z2 e2 z3 e3 z4 e4 z5 e5 z6 e6 z7 e7 z8 e8 z9 e9 z10 e10
  have f2 := wr_d e2 (by omega) (by omega)
  have f4 := wr_d e4 (by omega) (by omega)
  have f5 := wr_d e5 (by omega) (by omega)
  have f7 := wr_d e7 (by omega) (by omega)
  have f8 := wr_d e8 (by omega) (by omega)
  rw [f2, n1] at e3
  rw [show z5 = 5 * k + 1 by omega, n2] at e6
  rw [show z8 = 5 * k + 2 by omega, n3] at e9
  rw [hc] at e10
  subst e3 e6 e9 e10
  refine ⟨fun q1 => fun z11 e11 => (have f11 := wr_d e11 (by omega) (by omega); fun z12 e12 => (have f12 := wr_d e12 (by omega) (by omega); fun z13 e13 => fun z14 e14 => (have f14 := wr_d e14 (by omega) (by omega); fun z15 e15 => (have f15 := wr_d e15 (by omega) (by omega); fun z16 e16 => fun v1 k1 hs1 => ?_)))), fun q1 => ⟨fun q2 => fun z11 e11 => fun z12 e12 => (have f12 := wr_d e12 (by omega) (by omega); fun z13 e13 => ⟨fun q3 => (have r3 := xl_lt e13 q3; no (by omega)), fun q3 => (have r3 := xl_ge e13 q3; fun z14 e14 => ⟨fun q4 => (have r4 := xl_gt e14 q4; no (by omega)), fun q4 => (have r4 := xl_le e14 q4; fun z15 e15 => ⟨fun q5 => (have r5 := xl_lt e15 q5; no (by omega)), fun q5 => (have r5 := xl_ge e15 q5; fun z16 e16 => ⟨fun q6 => (have r6 := xl_gt e16 q6; no (by omega)), fun q6 => (have r6 := xl_le e16 q6; fun z17 e17 => (have f17 := wr_d e17 (by omega) (by omega); fun z18 e18 => (have f18 := wr_d e18 (by omega) (by omega); fun k1 ek1 => ?_)))⟩)⟩)⟩)⟩), fun q2 => ⟨fun q7 => fun z11 e11 => ⟨fun q8 => (have r8 := xl_lt e11 q8; no (by omega)), fun q8 => (have r8 := xl_ge e11 q8; fun z12 e12 => ⟨fun q9 => (have r9 := xl_gt e12 q9; no (by omega)), fun q9 => (have r9 := xl_le e12 q9; fun z13 e13 => ⟨fun q10 => (have r10 := xl_lt e13 q10; no (by omega)), fun q10 => (have r10 := xl_ge e13 q10; fun z14 e14 => ⟨fun q11 => (have r11 := xl_gt e14 q11; no (by omega)), fun q11 => (have r11 := xl_le e14 q11; ⟨fun q12 => no (by omega), fun q12 => fun k1 ek1 => fun k2 ek2 => ?_⟩)⟩)⟩)⟩)⟩, fun q7 => ⟨fun q13 => fun v1 k1 hs1 => ?_, fun q13 => ⟨fun q14 => fun z11 e11 => fun z12 e12 => (have f12 := wr_d e12 (by omega) (by omega); fun z13 e13 => ⟨fun q15 => (have r15 := xl_lt e13 q15; no (by omega)), fun q15 => (have r15 := xl_ge e13 q15; fun z14 e14 => ⟨fun q16 => (have r16 := xl_gt e14 q16; no (by omega)), fun q16 => (have r16 := xl_le e14 q16; ⟨fun q17 => no (by omega), fun q17 => fun k1 ek1 => ?_⟩)⟩)⟩), fun q14 => fun z11 e11 => (have f11 := wr_d e11 (by omega) (by omega); fun z12 e12 => (have f12 := wr_d e12 (by omega) (by omega); fun z13 e13 => ⟨fun q18 => (have r18 := xl_lt e13 q18; no (by omega)), fun q18 => (have r18 := xl_ge e13 q18; fun z14 e14 => ⟨fun q19 => (have r19 := xl_gt e14 q19; no (by omega)), fun q19 => (have r19 := xl_le e14 q19; fun z15 e15 => fun z16 e16 => (have f16 := wr_d e16 (by omega) (by omega); fun z17 e17 => (have f17 := wr_d e17 (by omega) (by omega); fun z18 e18 => (have f18 := wr_d e18 (by omega) (by omega); ⟨fun q20 => no (by omega), fun q20 => fun z19 e19 => (have f19 := wr_d e19 (by omega) (by omega); fun z20 e20 => (have f20 := wr_d e20 (by omega) (by omega); fun v1 k1 hs1 => ?_))⟩))))⟩)⟩))⟩⟩⟩⟩⟩
  · rw [show z12 = 5 * k + 3 by omega, n4] at e13
    rw [show z15 = 5 * k + 4 by omega, n5] at e16
    subst e13 e16
    obtain ⟨r1, r2⟩ := sr_wagerTold hs1 R W (by omega) (by omega)
    refine ⟨r1, ?_⟩
    rcases r2 with ⟨r2, r3, r4⟩ | ⟨r2, r3, r4⟩
    · exact Or.inl ⟨r2, Or.inr (Or.inr (Or.inr (Or.inr (Or.inl ⟨q1, r3⟩)))), by rw [q1, tlG_a]; exact r4⟩
    · refine Or.inr ⟨r2, fun q => ?_, r4⟩
      rcases q with q | q | q | q | q | q
      · omega
      · omega
      · omega
      · omega
      · exact r3 q.2
      · omega
  · have r := R.u_bel (i := 5 * z3 + z6) (z := z9) (by omega) (by omega)
    rw [show (38 : Int) + (5 * z3 + z6) = 38 + 5 * z3 + z6 by omega] at r
    have ek1' : k1 = fu h 277 (5 * z3 + z6) z9 := by
      rw [ek1, show z18 = 5 * z3 + z6 by omega]
    rw [← ek1'] at r
    refine ⟨?_, Or.inl ⟨by decide, Or.inr (Or.inr (Or.inr (Or.inl (by omega)))), by rw [q2, tlG_b]; exact r⟩⟩
    rw [ek1]
    exact (frM.rf h).up (by omega)
  · have r := R.u_ev (e := z3) (z := z6) (by omega) (by omega)
    rw [← ek1] at r
    have r2 := r.u_on (e := z3) (z := z9) (by omega) (by omega)
    rw [← ek2] at r2
    refine ⟨?_, Or.inl ⟨by decide, Or.inr (Or.inr (Or.inl (by omega))), by rw [q7, tlG_e]; exact r2⟩⟩
    rw [ek2, ek1]
    exact ((frM.rf h).up (by omega)).up (by omega)
  · obtain ⟨r1, r2⟩ := sr_personComes hs1 R W
    refine ⟨r1, ?_⟩
    rcases r2 with ⟨r2, r3, r4, r5⟩ | ⟨r2, r3, r4⟩
    · exact Or.inl ⟨by omega, Or.inl (by omega), by rw [q13, tlG_p]; exact r5⟩
    · exact Or.inr ⟨r3, (no (by omega)).2.elim (fun q => absurd rfl q.1) (fun q => q.2.1), r4⟩
  · have r := R.u_wish (p := z3) (z := z6) (by omega) (by omega)
    rw [← ek1] at r
    refine ⟨?_, Or.inl ⟨by decide, Or.inr (Or.inl (by omega)), by rw [q14, tlG_w]; exact r⟩⟩
    rw [ek1]
    exact (frM.rf h).up (by omega)
  · have hc100 : z10 = 100 := by omega
    obtain ⟨r1, r2⟩ := sr_goDays hs1 R W (by omega) (by omega)
    refine ⟨r2, Or.inl ⟨by decide, Or.inr (Or.inr (Or.inr (Or.inr (Or.inr (by omega))))), ?_⟩⟩
    rw [hc100, tlG_d, show 10 * z3 + z6 = z20 by omega]
    exact r1
end TE
