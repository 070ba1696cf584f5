/-! persons, wishes, beliefs, events, wagers, days: on both sides (made by a program) -/
noncomputable def cPost (A : Int → Prop) (C : Prop) (G G' : gS) (h : fH) (v : Int) (h' : fH) : Prop := A v ∧ ((C ∧ CJ G' h') ∨ (¬ C ∧ CJ G h')) ∧ xC h h'
noncomputable def mPost (A : Int → Prop) (C : Prop) (G G' : gS) (h : fH) (v : Int) (h' : fH) : Prop := A v ∧ ((C ∧ MJ G' h') ∨ (¬ C ∧ MJ G h')) ∧ xM h h'
section PC
variable {h h' h0 h1 k0 k1 k2 k3 : fH} {v z c k x y a1 a2 a3 a4 a5 n p b a e s d : Int} {g g' : gV} {G G' : gS} {A : Int → Prop} {C : Prop}
theorem cPost.ref (J : CJ G h) (W : GW G) (e : k1 = fu h 3 c z) (hx : A x) (hn : ¬ C) : cPost A C G G' h x k1 := by
  obtain ⟨-, r2, r3⟩ := J.rfd (x := 0) W e rfl rfl
  exact ⟨hx, Or.inr ⟨hn, r2⟩, r3⟩
theorem mPost.ref (J : MJ G k0) (xx : xM h k0) (e : k1 = fu k0 285 c z) (hx : A x) (hn : ¬ C) : mPost A C G G' h x k1 := by
  obtain ⟨-, r2, r3⟩ := J.rfd (x := 0) xx e rfl rfl
  exact ⟨hx, Or.inr ⟨hn, r2⟩, r3⟩
-- a wager more
noncomputable def proF (g : gV) (a c e s d : Int) : gV := fun i => if i = 2 then g 2 + 1 else if i = 83 + 5 * g 2 then a else if i = 84 + 5 * g 2 then c else if i = 85 + 5 * g 2 then e else if i = 86 + 5 * g 2 then s else if i = 87 + 5 * g 2 then d else g i
theorem proF_o {i : Int} (h1 : i ≠ 2) (h2 : i < 83 + 5 * g 2 ∨ 87 + 5 * g 2 < i) : proF g a c e s d i = g i := by
  unfold proF
  rw [if_neg h1, if_neg (by omega), if_neg (by omega), if_neg (by omega), if_neg (by omega), if_neg (by omega)]
theorem proF_2 : proF g a c e s d 2 = g 2 + 1 := if_pos rfl
theorem proF_w {i : Int} (h0 : 0 ≤ g 2) (h1 : i = g 2) : proF g a c e s d (83 + 5 * i) = a ∧ proF g a c e s d (84 + 5 * i) = c ∧ proF g a c e s d (85 + 5 * i) = e ∧ proF g a c e s d (86 + 5 * i) = s ∧ proF g a c e s d (87 + 5 * i) = d := by
  subst h1
  unfold proF
  refine ⟨?_, ?_, ?_, ?_, ?_⟩
  · rw [if_neg (by omega), if_pos (by omega)]
  · rw [if_neg (by omega), if_neg (by omega), if_pos (by omega)]
  · rw [if_neg (by omega), if_neg (by omega), if_neg (by omega), if_pos (by omega)]
  · rw [if_neg (by omega), if_neg (by omega), if_neg (by omega), if_neg (by omega), if_pos (by omega)]
  · rw [if_neg (by omega), if_neg (by omega), if_neg (by omega), if_neg (by omega), if_neg (by omega), if_pos (by omega)]
theorem WF_pro (W : WF g) (h3 : g 2 < 3) (p1 : 0 ≤ a) (p2 : a < g 0) (p3 : 0 ≤ c) (p4 : c < g 0) (p5 : a ≠ c) (p6 : 0 ≤ e) (p7 : e < 5) (p8 : 0 ≤ s) (p9 : s ≤ 1) (p10 : 1 ≤ d) (p11 : d ≤ 9) (f1 : frF g a) (f2 : frF g c) : WF (proF g a c e s d) := by
  have hB := W.1
  obtain ⟨f1, f3⟩ := f1
  obtain ⟨f2, f4⟩ := f2
  have o : ∀ i, i ≠ 2 → (i < 83 + 5 * g 2 ∨ 87 + 5 * g 2 < i) → proF g a c e s d i = g i := fun i j1 j2 => proF_o j1 j2
  have o0 := o 0 (by omega) (by omega)
  have o1 := o 1 (by omega) (by omega)
  have o2 : proF g a c e s d 2 = g 2 + 1 := proF_2
  refine ⟨?_, fun q j1 j2 => ?_, fun q e' j1 j2 j3 j4 => ?_, fun e' j1 j2 => ?_, fun w j1 j2 => ?_, fun w w' j1 j2 j3 => ?_⟩
  · rw [o0, o1, o2]
    omega
  · rw [o0] at j2 ⊢
    rw [o (3 + 5 * q) (by omega) (by omega), o (4 + 5 * q) (by omega) (by omega), o (5 + 5 * q) (by omega) (by omega), o (6 + 5 * q) (by omega) (by omega), o (7 + 5 * q) (by omega) (by omega)]
    exact W.per j1 j2
  · rw [o0] at j2
    rw [o _ (by omega) (by omega)]
    exact W.bel j1 j2 j3 j4
  · rw [o (73 + 2 * e') (by omega) (by omega), o (74 + 2 * e') (by omega) (by omega)]
    exact W.evt j1 j2
  · rw [o2] at j2
    by_cases hw : w = g 2
    · obtain ⟨b1, b2, b3, b4, b5⟩ := proF_w (g := g) (a := a) (c := c) (e := e) (s := s) (d := d) (by omega) hw
      rw [b1, b2, b3, b4, b5, o0, o (7 + 5 * a) (by omega) (by omega), o (7 + 5 * c) (by omega) (by omega)]
      omega
    · have wx := W.wag j1 (by omega)
      rw [o0, o (83 + 5 * w) (by omega) (by omega), o (84 + 5 * w) (by omega) (by omega), o (85 + 5 * w) (by omega) (by omega), o (86 + 5 * w) (by omega) (by omega), o (87 + 5 * w) (by omega) (by omega), o (7 + 5 * g (83 + 5 * w)) (by omega) (by omega), o (7 + 5 * g (84 + 5 * w)) (by omega) (by omega)]
      exact wx
  · rw [o2] at j3
    rw [o (83 + 5 * w) (by omega) (by omega), o (84 + 5 * w) (by omega) (by omega)]
    by_cases hw : w' = g 2
    · obtain ⟨b1, b2, b3, b4, b5⟩ := proF_w (g := g) (a := a) (c := c) (e := e) (s := s) (d := d) (by omega) hw
      rw [b1, b2]
      have x1 := f3 w j1 (by omega)
      have x2 := f4 w j1 (by omega)
      omega
    · rw [o (83 + 5 * w') (by omega) (by omega), o (84 + 5 * w') (by omega) (by omega)]
      exact W.2.2.2.2.2 w w' j1 j2 (by omega)
theorem pig : ∀ (n : Nat) (l : List Int), l.Nodup → (∀ x ∈ l, 0 ≤ x ∧ x < (n : Int)) → l.length ≤ n
  | 0, [], _, _ => Nat.le_refl 0
  | 0, x :: t, _, h => absurd (h x List.mem_cons_self) (by omega)
  | n + 1, l, hd, h => by
    have h1 := pig n (l.erase (n : Int)) (hd.erase _) (fun x hx => by
      have h2 := (List.Nodup.mem_erase_iff hd).mp hx
      have h3 := h x h2.2
      have h4 := h2.1
      omega)
    rw [List.length_erase] at h1
    split at h1 <;> omega
/-- two are free only where a wager more has room -/
theorem room3 (W : WF g) (p1 : 0 ≤ a) (p2 : a < g 0) (p3 : 0 ≤ c) (p4 : c < g 0) (p5 : a ≠ c) (f1 : frF g a) (f2 : frF g c) : g 2 < 3 := by
  have hB := W.1
  by_cases h3 : g 2 < 3
  · exact h3
  · exfalso
    have w0 := W.wag (w := 0) (by omega) (by omega)
    have w1 := W.wag (w := 1) (by omega) (by omega)
    have w2 := W.wag (w := 2) (by omega) (by omega)
    have d1 := W.2.2.2.2.2 0 1 (by omega) (by omega) (by omega)
    have d2 := W.2.2.2.2.2 0 2 (by omega) (by omega) (by omega)
    have d3 := W.2.2.2.2.2 1 2 (by omega) (by omega) (by omega)
    have x0 := f1.2 0 (by omega) (by omega)
    have x1 := f1.2 1 (by omega) (by omega)
    have x2 := f1.2 2 (by omega) (by omega)
    have y0 := f2.2 0 (by omega) (by omega)
    have y1 := f2.2 1 (by omega) (by omega)
    have y2 := f2.2 2 (by omega) (by omega)
    have n1 := w0.2.2.2.2.1
    have n2 := w1.2.2.2.2.1
    have n3 := w2.2.2.2.2.1
    obtain ⟨d11, d12, d13, d14⟩ := d1
    obtain ⟨d21, d22, d23, d24⟩ := d2
    obtain ⟨d31, d32, d33, d34⟩ := d3
    obtain ⟨x01, x02⟩ := x0
    obtain ⟨x11, x12⟩ := x1
    obtain ⟨x21, x22⟩ := x2
    obtain ⟨y01, y02⟩ := y0
    obtain ⟨y11, y12⟩ := y1
    obtain ⟨y21, y22⟩ := y2
    have h1 := pig 7 [a, c, g (83 + 5 * 0), g (84 + 5 * 0), g (83 + 5 * 1), g (84 + 5 * 1), g (83 + 5 * 2), g (84 + 5 * 2)] (by
      simp only [List.nodup_cons, List.mem_cons, List.not_mem_nil, or_false, not_or, List.nodup_nil, and_true, not_false_eq_true]
      repeat' apply And.intro
      all_goals first
        | assumption
        | exact Ne.symm (by assumption)) (by
      have b0 := w0.1
      have b1 := w0.2.1
      have b2 := w0.2.2.1
      have b3 := w0.2.2.2.1
      have b4 := w1.1
      have b5 := w1.2.1
      have b6 := w1.2.2.1
      have b7 := w1.2.2.2.1
      have b8 := w2.1
      have b9 := w2.2.1
      have b10 := w2.2.2.1
      have b11 := w2.2.2.2.1
      have b12 := hB.2.1
      clear d11 d12 d13 d14 d21 d22 d23 d24 d31 d32 d33 d34 x01 x02 x11 x12 x21 x22 y01 y02 y11 y12 y21 y22 n1 n2 n3 w0 w1 w2 hB p5 f1 f2 h3 W
      simp only [List.mem_cons, List.not_mem_nil, or_false, forall_eq_or_imp, forall_eq]
      repeat' apply And.intro
      all_goals omega)
    exact absurd (show (8 : Nat) ≤ 7 from h1) (by decide)
theorem sc_pro {z9 : Int} (R : RC h b g) (hB : BG g) (h3 : g 2 < 3) (e9 : z9 = h (b + 19) (g 2)) : RC (fu (fu (fu (fu (fu (fu h z9 0 a) z9 1 c) z9 2 e) z9 3 s) z9 4 d) b 14 (g 2 + 1)) b (proF g a c e s d) := by
  have hB' := hB
  unfold BG at hB'
  have hz := R.wr (by omega : 0 ≤ g 2) h3
  rw [← e9] at hz
  have o : ∀ i, i ≠ 2 → (i < 83 + 5 * g 2 ∨ 87 + 5 * g 2 < i) → proF g a c e s d i = g i := fun i j1 j2 => proF_o j1 j2
  have o0 := o 0 (by omega) (by omega)
  have o2 : proF g a c e s d 2 = g 2 + 1 := proF_2
  have hO : ∀ x j, x ≠ z9 → (x ≠ b ∨ j ≠ 14) → fu (fu (fu (fu (fu (fu h z9 0 a) z9 1 c) z9 2 e) z9 3 s) z9 4 d) b 14 (g 2 + 1) x j = h x j := fun x j n1 n2 => by
    unfold fu
    rw [if_neg (by omega), if_neg (by omega), if_neg (by omega), if_neg (by omega), if_neg (by omega), if_neg (by omega)]
  refine ⟨⟨?_, ?_, ?_⟩, fun q j1 j2 => ?_, fun q e' j1 j2 j3 j4 => ?_, fun e' j1 j2 => ?_, fun w j j1 j2 j3 j4 => ?_, fun w j1 j2 => ?_, fun w w' j1 j2 j3 => ?_⟩
  · rw [hO _ _ (by omega) (by omega), o0]
    exact R.many
  · rw [hO _ _ (by omega) (by omega), o 1 (by omega) (by omega)]
    exact R.day
  · rw [fu_e rfl rfl, o2]
  · rw [o0] at j2
    rw [hO (b + 1) _ (by omega) (by omega), hO (b + 2) _ (by omega) (by omega), hO (b + 3) _ (by omega) (by omega), hO (b + 4) _ (by omega) (by omega), hO (b + 5) _ (by omega) (by omega), hO (b + 6) _ (by omega) (by omega), hO (b + 7) _ (by omega) (by omega), hO (b + 8) _ (by omega) (by omega)]
    rw [o (3 + 5 * q) (by omega) (by omega), o (4 + 5 * q) (by omega) (by omega), o (5 + 5 * q) (by omega) (by omega), o (6 + 5 * q) (by omega) (by omega), o (7 + 5 * q) (by omega) (by omega)]
    exact R.2.1 q j1 j2
  · rw [o0] at j2
    rw [hO _ _ (by omega) (by omega), o _ (by omega) (by omega)]
    exact R.bel j1 j2 j3 j4
  · rw [hO (b + 17) _ (by omega) (by omega), hO (b + 18) _ (by omega) (by omega), o (73 + 2 * e') (by omega) (by omega), o (74 + 2 * e') (by omega) (by omega)]
    exact R.2.2.2.1 e' j1 j2
  · rw [o2] at j2
    rw [hO (b + 19) _ (by omega) (by omega)]
    by_cases hw : w = g 2
    · rw [hw, ← e9]
      unfold fu proF
      have hj : j = 0 ∨ j = 1 ∨ j = 2 ∨ j = 3 ∨ j = 4 := by omega
      rcases hj with rfl | rfl | rfl | rfl | rfl
      · rw [if_neg (by omega), if_neg (by omega), if_neg (by omega), if_neg (by omega), if_neg (by omega), if_pos (by omega), if_neg (by omega), if_pos (by omega)]
      · rw [if_neg (by omega), if_neg (by omega), if_neg (by omega), if_neg (by omega), if_pos (by omega), if_neg (by omega), if_neg (by omega), if_pos (by omega)]
      · rw [if_neg (by omega), if_neg (by omega), if_neg (by omega), if_pos (by omega), if_neg (by omega), if_neg (by omega), if_neg (by omega), if_pos (by omega)]
      · rw [if_neg (by omega), if_neg (by omega), if_pos (by omega), if_neg (by omega), if_neg (by omega), if_neg (by omega), if_neg (by omega), if_pos (by omega)]
      · rw [if_neg (by omega), if_pos (by omega), if_neg (by omega), if_neg (by omega), if_neg (by omega), if_neg (by omega), if_neg (by omega), if_pos (by omega)]
    · have hn := R.wn j1 (by omega : w < 3) (by omega : 0 ≤ g 2) h3 hw
      rw [← e9] at hn
      have hr := R.wr j1 (by omega : w < 3)
      rw [hO _ _ hn (by omega), o _ (by omega) (by omega)]
      exact R.wg j1 (by omega) j3 j4
  · rw [hO _ _ (by omega) (by omega)]
    exact R.wr j1 j2
  · rw [hO _ _ (by omega) (by omega), hO _ _ (by omega) (by omega)]
    exact R.2.2.2.2.2.2 w w' j1 j2 j3
theorem sr_pro1 {g : gV} {a c e s d : Int} (i : Int) : gu (gu (gu (gu (gu (gu g (83 + 5 * g 2) a) (84 + 5 * g 2) c) (85 + 5 * g 2) e) (86 + 5 * g 2) s) (87 + 5 * g 2) d) 2 (g 2 + 1) i = proF g a c e s d i := by
  unfold gu proF
  try dsimp only
  by_cases b0 : i = 2
  · rw [if_pos b0, if_pos b0]
  · rw [if_neg b0, if_neg b0]
    by_cases b3 : i = 83 + 5 * g 2
    · rw [if_neg (show ¬ i = 87 + 5 * g 2 by omega), if_neg (show ¬ i = 86 + 5 * g 2 by omega), if_neg (show ¬ i = 85 + 5 * g 2 by omega), if_neg (show ¬ i = 84 + 5 * g 2 by omega), if_pos b3, if_pos b3]
    · by_cases b4 : i = 84 + 5 * g 2
      · rw [if_neg (show ¬ i = 87 + 5 * g 2 by omega), if_neg (show ¬ i = 86 + 5 * g 2 by omega), if_neg (show ¬ i = 85 + 5 * g 2 by omega), if_pos b4, if_neg b3, if_pos b4]
      · by_cases b5 : i = 85 + 5 * g 2
        · rw [if_neg (show ¬ i = 87 + 5 * g 2 by omega), if_neg (show ¬ i = 86 + 5 * g 2 by omega), if_pos b5, if_neg b3, if_neg b4, if_pos b5]
        · by_cases b6 : i = 86 + 5 * g 2
          · rw [if_neg (show ¬ i = 87 + 5 * g 2 by omega), if_pos b6, if_neg b3, if_neg b4, if_neg b5, if_pos b6]
          · by_cases b7 : i = 87 + 5 * g 2
            · rw [if_pos b7, if_neg b3, if_neg b4, if_neg b5, if_neg b6, if_pos b7]
            · rw [if_neg b7, if_neg b6, if_neg b5, if_neg b4, if_neg b3, if_neg b3, if_neg b4, if_neg b5, if_neg b6, if_neg b7]
theorem sr_pro {z1 z2 z3 z4 z5 z6 : Int} (R : RM h g) (h0 : 0 ≤ g 2) (h3 : g 2 < 3) (e1 : z1 = g 2) (e2 : z2 = g 2) (e3 : z3 = g 2) (e4 : z4 = g 2) (e5 : z5 = g 2) (e6 : z6 = g 2 + 1) : RM (fu (fu (fu (fu (fu (fu h 280 z1 a) 281 z2 c) 282 z3 e) 283 z4 s) 284 z5 d) 271 9 z6) (proF g a c e s d) := by
  subst e1 e2 e3 e4 e5 e6
  refine RM_ext (((((((R.u_w0 h0 (by omega)).u_w1 h0 (by omega)).u_w2 h0 (by omega)).u_w3 h0 (by omega)).u_w4 h0 (by omega)).u_open)) (fun i j1 j2 => ?_)
  exact sr_pro1 i
/-- may it be proposed: 0, or the refusal -/
noncomputable def proV (g : gV) (a c e s d v : Int) : Prop := if a < 0 ∨ g 0 ≤ a ∨ c < 0 ∨ g 0 ≤ c ∨ a = c ∨ e < 0 ∨ 5 ≤ e then v = -1 else if s < 0 ∨ 2 ≤ s then v = -2 else if d < 1 then v = -4 else if 9 < d then v = -6 else (cbF g a c e s ∧ v = 0) ∨ (¬ cbF g a c e s ∧ v = -3)
noncomputable def proC (g : gV) (a c e s d : Int) : Prop := (0 ≤ a ∧ a < g 0 ∧ 0 ≤ c ∧ c < g 0 ∧ a ≠ c ∧ 0 ≤ e ∧ e < 5 ∧ 0 ≤ s ∧ s ≤ 1 ∧ 1 ≤ d ∧ d ≤ 9) ∧ cbF g a c e s
theorem proV_0 (hv : proV g a c e s d v) : v = 0 ↔ proC g a c e s d := by
  unfold proV at hv
  unfold proC
  constructor
  · intro q
    subst q
    repeat' (split at hv)
    all_goals first
      | (exfalso; omega)
      | skip
    rcases hv with hv | hv
    · exact ⟨by omega, hv.1⟩
    · exact absurd hv.2 (by omega)
  · rintro ⟨q1, q2⟩
    rw [if_neg (by omega), if_neg (by omega), if_neg (by omega), if_neg (by omega)] at hv
    rcases hv with hv | hv
    · exact hv.2
    · exact absurd q2 hv.1
theorem proC_room (W : WF g) (hc : proC g a c e s d) : g 2 < 3 := room3 W hc.1.1 hc.1.2.1 hc.1.2.2.1 hc.1.2.2.2.1 hc.1.2.2.2.2.1 hc.2.1 hc.2.2.1
theorem proC_WF (W : WF g) (hc : proC g a c e s d) : WF (proF g a c e s d) := WF_pro W (proC_room W hc) hc.1.1 hc.1.2.1 hc.1.2.2.1 hc.1.2.2.2.1 hc.1.2.2.2.2.1 hc.1.2.2.2.2.2.1 hc.1.2.2.2.2.2.2.1 hc.1.2.2.2.2.2.2.2.1 hc.1.2.2.2.2.2.2.2.2.1 hc.1.2.2.2.2.2.2.2.2.2.1 hc.1.2.2.2.2.2.2.2.2.2.2 hc.2.1 hc.2.2.1
theorem sc_refPro (hs : fS 54 [b, a1, a2, a3, a4, a5] h v h') (R : RC h b g) (W : WF g) : h' = h ∧ proV g a1 a2 a3 a4 a5 v := by
  have hB := W.1
  have jm := R.many
  have jo := R.opn
  unfold proV
  refine vt_refusalToPropose hs (fun v h' => h' = h ∧ (if a1 < 0 ∨ g 0 ≤ a1 ∨ a2 < 0 ∨ g 0 ≤ a2 ∨ a1 = a2 ∨ a3 < 0 ∨ 5 ≤ a3 then v = -1 else if a4 < 0 ∨ 2 ≤ a4 then v = -2 else if a5 < 1 then v = -4 else if 9 < a5 then v = -6 else (cbF g a1 a2 a3 a4 ∧ v = 0) ∨ (¬ cbF g a1 a2 a3 a4 ∧ v = -3))) ?_
  refine ⟨fun q1 => ?_, fun q1 => fun z6 e6 => ⟨fun q2 => ?_, fun q2 => ⟨fun q3 => ?_, fun q3 => fun z7 e7 => ⟨fun q4 => ?_, fun q4 => ⟨fun q5 => ?_, fun q5 => ⟨fun q6 => ?_, fun q6 => ⟨fun q7 => ?_, fun q7 => ⟨fun q8 => ?_, fun q8 => ⟨fun q9 => ?_, fun q9 => ⟨fun q10 => ⟨fun q11 => fun z8 e8 => ⟨fun q12 => ?_, fun q12 => fun v1 k1 hs1 => ⟨fun q13 => ?_, fun q13 => ?_⟩⟩, fun q11 => ?_⟩, fun q10 => ?_⟩⟩⟩⟩⟩⟩⟩⟩⟩⟩
  · refine ⟨rfl, ?_⟩
    first
      | rw [if_pos (by omega)]
      | rw [if_neg (by omega), if_pos (by omega)]
      | rw [if_neg (by omega), if_neg (by omega), if_pos (by omega)]
      | rw [if_neg (by omega), if_neg (by omega), if_neg (by omega), if_pos (by omega)]
  · refine ⟨rfl, ?_⟩
    first
      | rw [if_pos (by omega)]
      | rw [if_neg (by omega), if_pos (by omega)]
      | rw [if_neg (by omega), if_neg (by omega), if_pos (by omega)]
      | rw [if_neg (by omega), if_neg (by omega), if_neg (by omega), if_pos (by omega)]
  · refine ⟨rfl, ?_⟩
    first
      | rw [if_pos (by omega)]
      | rw [if_neg (by omega), if_pos (by omega)]
      | rw [if_neg (by omega), if_neg (by omega), if_pos (by omega)]
      | rw [if_neg (by omega), if_neg (by omega), if_neg (by omega), if_pos (by omega)]
  · refine ⟨rfl, ?_⟩
    first
      | rw [if_pos (by omega)]
      | rw [if_neg (by omega), if_pos (by omega)]
      | rw [if_neg (by omega), if_neg (by omega), if_pos (by omega)]
      | rw [if_neg (by omega), if_neg (by omega), if_neg (by omega), if_pos (by omega)]
  · refine ⟨rfl, ?_⟩
    first
      | rw [if_pos (by omega)]
      | rw [if_neg (by omega), if_pos (by omega)]
      | rw [if_neg (by omega), if_neg (by omega), if_pos (by omega)]
      | rw [if_neg (by omega), if_neg (by omega), if_neg (by omega), if_pos (by omega)]
  · refine ⟨rfl, ?_⟩
    first
      | rw [if_pos (by omega)]
      | rw [if_neg (by omega), if_pos (by omega)]
      | rw [if_neg (by omega), if_neg (by omega), if_pos (by omega)]
      | rw [if_neg (by omega), if_neg (by omega), if_neg (by omega), if_pos (by omega)]
  · refine ⟨rfl, ?_⟩
    first
      | rw [if_pos (by omega)]
      | rw [if_neg (by omega), if_pos (by omega)]
      | rw [if_neg (by omega), if_neg (by omega), if_pos (by omega)]
      | rw [if_neg (by omega), if_neg (by omega), if_neg (by omega), if_pos (by omega)]
  · refine ⟨rfl, ?_⟩
    first
      | rw [if_pos (by omega)]
      | rw [if_neg (by omega), if_pos (by omega)]
      | rw [if_neg (by omega), if_neg (by omega), if_pos (by omega)]
      | rw [if_neg (by omega), if_neg (by omega), if_neg (by omega), if_pos (by omega)]
  · refine ⟨rfl, ?_⟩
    first
      | rw [if_pos (by omega)]
      | rw [if_neg (by omega), if_pos (by omega)]
      | rw [if_neg (by omega), if_neg (by omega), if_pos (by omega)]
      | rw [if_neg (by omega), if_neg (by omega), if_neg (by omega), if_pos (by omega)]
  · refine ⟨rfl, ?_⟩
    rw [if_neg (by omega), if_neg (by omega), if_neg (by omega), if_neg (by omega)]
    exact Or.inr ⟨fun q => absurd (room3 W q1 (by omega) q3 (by omega) q5 q.1 q.2.1) (by omega), rfl⟩
  · obtain ⟨rfl, r⟩ := sc_canBe hs1 R W q1 (by omega) q3 (by omega) q6 (by omega)
    refine ⟨rfl, ?_⟩
    rw [if_neg (by omega), if_neg (by omega), if_neg (by omega), if_neg (by omega)]
    exact Or.inr ⟨r.f (by assumption), rfl⟩
  · obtain ⟨rfl, r⟩ := sc_canBe hs1 R W q1 (by omega) q3 (by omega) q6 (by omega)
    refine ⟨rfl, ?_⟩
    rw [if_neg (by omega), if_neg (by omega), if_neg (by omega), if_neg (by omega)]
    exact Or.inl ⟨r.t (by assumption), rfl⟩
  · refine ⟨rfl, ?_⟩
    first
      | rw [if_pos (by omega)]
      | rw [if_neg (by omega), if_pos (by omega)]
      | rw [if_neg (by omega), if_neg (by omega), if_pos (by omega)]
      | rw [if_neg (by omega), if_neg (by omega), if_neg (by omega), if_pos (by omega)]
  · refine ⟨rfl, ?_⟩
    first
      | rw [if_pos (by omega)]
      | rw [if_neg (by omega), if_pos (by omega)]
      | rw [if_neg (by omega), if_neg (by omega), if_pos (by omega)]
      | rw [if_neg (by omega), if_neg (by omega), if_neg (by omega), if_pos (by omega)]

-- person
noncomputable def persA (a1 a2 : Int) (G : gS) (v : Int) : Prop := v = if a1 < 0 ∨ 5 < a1 then -2 else if a2 < 0 then -4 else if 9 < a2 ∨ 7 ≤ G.1 0 then -6 else G.1 0
noncomputable def persC (a1 a2 : Int) (G : gS) : Prop := 0 ≤ a1 ∧ a1 ≤ 5 ∧ 0 ≤ a2 ∧ a2 ≤ 9 ∧ G.1 0 < 7
noncomputable def persG (a1 a2 : Int) (G : gS) : gS := sP (sT G (comeG G.1 a1 a2)) (0, G.2.2.1.2)
theorem cj_person (hs : fS 84 [1, a1, a2] h v h') (J : CJ G h) (W : GW G) : cPost (persA a1 a2 G) (persC a1 a2 G) G (persG a1 a2 G) h v h' := by
  have hB := W.1.1.1
  have hD := W.1.2
  have t11 : tw 11 := Or.inl rfl
  have f6 : f_len 4 = 6 := by decide +kernel
  refine vc_person hs (fun v h' => (v = if a1 < 0 ∨ 5 < a1 then -2 else if a2 < 0 then -4 else if 9 < a2 ∨ 7 ≤ G.1 0 then -6 else G.1 0) ∧ (((0 ≤ a1 ∧ a1 ≤ 5 ∧ 0 ≤ a2 ∧ a2 ≤ 9 ∧ G.1 0 < 7) ∧ CJ (persG a1 a2 G) h') ∨ (¬ (0 ≤ a1 ∧ a1 ≤ 5 ∧ 0 ≤ a2 ∧ a2 ≤ 9 ∧ G.1 0 < 7) ∧ CJ G h')) ∧ xC h h') ?_
  have jm : h 11 1 = G.1 0 := J.1.many
  have jd : h 11 15 = G.1 1 := J.1.day
  have ref : ∀ {x c z : Int} {kk : fH}, kk = fu h 3 c z → (x = if a1 < 0 ∨ 5 < a1 then -2 else if a2 < 0 then -4 else if 9 < a2 ∨ 7 ≤ G.1 0 then -6 else G.1 0) → ¬ (0 ≤ a1 ∧ a1 ≤ 5 ∧ 0 ≤ a2 ∧ a2 ≤ 9 ∧ G.1 0 < 7) → cPost (persA a1 a2 G) (persC a1 a2 G) G (persG a1 a2 G) h x kk := fun e hx hn => cPost.ref J W e hx hn
  refine fun z3 e3 => ⟨fun q1 => fun _ _ _ _ _ _ _ ek => ref ek (by omega) (by omega), fun q1 => ⟨fun q2 => fun _ _ _ _ _ _ _ ek => ref ek (by omega) (by omega), fun q2 => ⟨fun q3 => ⟨fun q4 => fun _ _ _ _ _ _ _ ek => ref ek (by omega) (by omega), fun q4 => fun z4 e4 => ⟨fun q5 => fun v1 k1 hs1 => fun k2 ek2 => fun z6 e6 => fun z7 e7 => (have f7 := wr_f e7; ?_), fun q5 => fun _ _ _ _ _ _ _ ek => ref ek (by omega) (by omega)⟩⟩, fun q3 => fun _ _ _ _ _ _ _ ek => ref ek (by omega) (by omega)⟩⟩⟩
  · obtain ⟨a1', a2'⟩ := sc_come hs1 J.1 W.1.1 t11 (by omega) q1 (by omega) q3 (by omega)
    have R2 : RC k2 11 (comeG G.1 a1 a2) := by
      rw [ek2]
      exact RC_sk a1' (WF_come W.1.1 (by omega) q1 (by omega) q3 (by omega)).bg (by omega)
    have hO : ∀ c k, (c < 11 ∨ 33 < c) → (c = 80 → k ≠ 2) → k2 c k = h c k := fun c k n1 n2 => by
      rw [ek2]
      unfold fu
      rw [if_neg (by omega)]
      exact a2' c k (by omega)
    refine ⟨?_, Or.inl ⟨by omega, J.sTP W R2 (CP_zero ?_ ?_) ?_ (fun c k q => hO c k (by omega) (by omega))⟩, fun c k q => hO c k (by omega) (by omega)⟩
    · rw [R2.many] at e6
      have c0 : comeG G.1 a1 a2 0 = G.1 0 + 1 := if_pos rfl
      show z7 = _
      rw [if_neg (by omega), if_neg (by omega), if_neg (by omega)]
      omega
    · rw [ek2, fu_e rfl rfl]
    · rw [hO _ _ (by omega) (by omega)]
      exact J.2.2.1.2.1
    · rw [ek2]
      exact (J.2.2.2.2.2.but t11 a2' a1'.rw').fu (fun b hb => tw_no hb (by omega))
theorem mj_person (hs : fS 188 [271, a1, a2] h v h') (J : MJ G h) (W : GW G) : mPost (persA a1 a2 G) (persC a1 a2 G) G (persG a1 a2 G) h v h' := by
  have hB := W.1.1.1
  have hD := W.1.2
  have t11 : tw 11 := Or.inl rfl
  have f6 : f_len 4 = 6 := by decide +kernel
  refine vr_person hs (fun v h' => (v = if a1 < 0 ∨ 5 < a1 then -2 else if a2 < 0 then -4 else if 9 < a2 ∨ 7 ≤ G.1 0 then -6 else G.1 0) ∧ (((0 ≤ a1 ∧ a1 ≤ 5 ∧ 0 ≤ a2 ∧ a2 ≤ 9 ∧ G.1 0 < 7) ∧ MJ (persG a1 a2 G) h') ∨ (¬ (0 ≤ a1 ∧ a1 ≤ 5 ∧ 0 ≤ a2 ∧ a2 ≤ 9 ∧ G.1 0 < 7) ∧ MJ G h')) ∧ xM h h') ?_
  intro k1 ek1
  have J1 : MJ G k1 := by
    rw [ek1]
    exact J.up (by omega)
  have x1 : xM h k1 := by
    rw [ek1]
    exact (xM.rf h).up (by decide)
  have jm : k1 271 0 = G.1 0 := J1.1.many
  have jd : k1 271 15 = G.1 1 := J1.1.day
  have ref : ∀ {x c z : Int} {kk : fH}, kk = fu k1 285 c z → (x = if a1 < 0 ∨ 5 < a1 then -2 else if a2 < 0 then -4 else if 9 < a2 ∨ 7 ≤ G.1 0 then -6 else G.1 0) → ¬ (0 ≤ a1 ∧ a1 ≤ 5 ∧ 0 ≤ a2 ∧ a2 ≤ 9 ∧ G.1 0 < 7) → mPost (persA a1 a2 G) (persC a1 a2 G) G (persG a1 a2 G) h x kk := fun e hx hn => mPost.ref J1 x1 e hx hn
  refine fun z3 e3 => ⟨fun q1 => (have r1 := xl_lt e3 q1; fun _ _ _ _ _ _ _ ek => ref ek (by omega) (by omega)), fun q1 => (have r1 := xl_ge e3 q1; fun z4 e4 => ⟨fun q2 => (have r2 := xl_gt e4 q2; fun _ _ _ _ _ _ _ ek => ref ek (by omega) (by omega)), fun q2 => (have r2 := xl_le e4 q2; ⟨fun q3 => ⟨fun q4 => fun z5 e5 => ⟨fun q5 => fun v2 k2 hs2 => fun k3 ek3 => fun z7 e7 => fun z8 e8 => (have f8 := wr_f e8; ?_), fun q5 => fun _ _ _ _ _ _ _ ek => ref ek (by omega) (by omega)⟩, fun q4 => fun _ _ _ _ _ _ _ ek => ref ek (by omega) (by omega)⟩, fun q3 => fun _ _ _ _ _ _ _ ek => ref ek (by omega) (by omega)⟩)⟩)⟩
  · obtain ⟨a1', a2'⟩ := sr_personComes hs2 J1.1 W.1.1
    rcases a2' with ⟨b1, b2, b3, b4⟩ | ⟨b1, b2, b3⟩
    · have R3 : RM k3 (comeG G.1 a1 a2) := by
        rw [ek3]
        exact RM_sk b4 (by omega)
      have hO : ∀ c k, (c < 271 ∨ 284 < c ∨ (c = 271 ∧ (k = 28 ∨ k = 19 ∨ k = 38))) → k3 c k = h c k := fun c k n1 => by
        rw [ek3]
        unfold fu
        rw [if_neg (by omega), a1' c k (by omega), ek1]
        unfold fu
        rw [if_neg (by omega)]
      refine ⟨?_, Or.inl ⟨by omega, J.sTP R3 (MP_zero ?_) (fun c k q => hO c k (by omega))⟩, fun c k q => hO c k (by omega)⟩
      · rw [R3.many] at e7
        have c0 : comeG G.1 a1 a2 0 = G.1 0 + 1 := if_pos rfl
        show z8 = _
        rw [if_neg (by omega), if_neg (by omega), if_neg (by omega)]
        omega
      · rw [ek3, fu_e rfl rfl]
    · omega
-- wishes
noncomputable def wishA (a1 a2 : Int) (G : gS) (v : Int) : Prop := v = if a1 < 0 ∨ G.1 0 ≤ a1 ∨ a2 < 0 ∨ 6 < a2 then -1 else G.1 (5 + 5 * a1)
noncomputable def wishC (a1 a2 : Int) (G : gS) : Prop := 0 ≤ a1 ∧ a1 < G.1 0 ∧ 0 ≤ a2 ∧ a2 ≤ 6
noncomputable def wishG (a1 a2 : Int) (G : gS) : gS := sP (sT G (gu G.1 (5 + 5 * a1) a2)) (0, G.2.2.1.2)
theorem cj_wishes (hs : fS 85 [1, a1, a2] h v h') (J : CJ G h) (W : GW G) : cPost (wishA a1 a2 G) (wishC a1 a2 G) G (wishG a1 a2 G) h v h' := by
  have hB := W.1.1.1
  have hD := W.1.2
  have t11 : tw 11 := Or.inl rfl
  have f6 : f_len 4 = 6 := by decide +kernel
  refine vc_wishes hs (fun v h' => (v = if a1 < 0 ∨ G.1 0 ≤ a1 ∨ a2 < 0 ∨ 6 < a2 then -1 else G.1 (5 + 5 * a1)) ∧ (((0 ≤ a1 ∧ a1 < G.1 0 ∧ 0 ≤ a2 ∧ a2 ≤ 6) ∧ CJ (wishG a1 a2 G) h') ∨ (¬ (0 ≤ a1 ∧ a1 < G.1 0 ∧ 0 ≤ a2 ∧ a2 ≤ 6) ∧ CJ G h')) ∧ xC h h') ?_
  have jm : h 11 1 = G.1 0 := J.1.many
  have jd : h 11 15 = G.1 1 := J.1.day
  have ref : ∀ {x c z : Int} {kk : fH}, kk = fu h 3 c z → (x = if a1 < 0 ∨ G.1 0 ≤ a1 ∨ a2 < 0 ∨ 6 < a2 then -1 else G.1 (5 + 5 * a1)) → ¬ (0 ≤ a1 ∧ a1 < G.1 0 ∧ 0 ≤ a2 ∧ a2 ≤ 6) → cPost (wishA a1 a2 G) (wishC a1 a2 G) G (wishG a1 a2 G) h x kk := fun e hx hn => cPost.ref J W e hx hn
  refine ⟨fun q1 => fun _ _ _ _ _ _ _ ek => ref ek (by omega) (by omega), fun q1 => fun z3 e3 => ⟨fun q2 => fun _ _ _ _ _ _ _ ek => ref ek (by omega) (by omega), fun q2 => ⟨fun q3 => fun _ _ _ _ _ _ _ ek => ref ek (by omega) (by omega), fun q3 => ⟨fun q4 => fun _ _ _ _ _ _ _ ek => ref ek (by omega) (by omega), fun q4 => fun z4 e4 => fun k1 ek1 => fun k2 ek2 => ?_⟩⟩⟩⟩
  · have r := J.1.u_wish (p := a1) (z := a2) W.1.1.bg q1 (by omega)
    rw [show (11 : Int) + 6 = 17 from rfl, ← ek1] at r
    have B2 := (WF_wish (z := a2) W.1.1 q1 (by omega) (by omega) (by omega)).bg
    have hO : ∀ c k, c ≠ 17 → (c = 80 → k ≠ 2) → k2 c k = h c k := fun c k n1 n2 => by
      rw [ek2, ek1]
      unfold fu
      rw [if_neg (by omega), if_neg (by omega)]
    have e4' := J.1.wish q1 (by omega : a1 < G.1 0)
    rw [show (11 : Int) + 6 = 17 from rfl] at e4'
    refine ⟨?_, Or.inl ⟨by omega, J.sTP W (by rw [ek2]; exact RC_sk r B2 (by omega)) (CP_zero ?_ ?_) ?_ (fun c k q => hO c k (by omega) (by omega))⟩, fun c k q => hO c k (by omega) (by omega)⟩
    · show z4 = _
      rw [if_neg (by omega), e4, e4']
    · rw [ek2, fu_e rfl rfl]
    · rw [hO _ _ (by omega) (by omega)]
      exact J.2.2.1.2.1
    · exact J.2.2.2.2.2.cg (fun b k hb => hO _ _ (by unfold tw at hb; omega) (by unfold tw at hb; omega))
theorem mj_wishes (hs : fS 190 [271, a1, a2] h v h') (J : MJ G h) (W : GW G) : mPost (wishA a1 a2 G) (wishC a1 a2 G) G (wishG a1 a2 G) h v h' := by
  have hB := W.1.1.1
  have hD := W.1.2
  have t11 : tw 11 := Or.inl rfl
  have f6 : f_len 4 = 6 := by decide +kernel
  refine vr_wishes hs (fun v h' => (v = if a1 < 0 ∨ G.1 0 ≤ a1 ∨ a2 < 0 ∨ 6 < a2 then -1 else G.1 (5 + 5 * a1)) ∧ (((0 ≤ a1 ∧ a1 < G.1 0 ∧ 0 ≤ a2 ∧ a2 ≤ 6) ∧ MJ (wishG a1 a2 G) h') ∨ (¬ (0 ≤ a1 ∧ a1 < G.1 0 ∧ 0 ≤ a2 ∧ a2 ≤ 6) ∧ MJ G h')) ∧ xM h h') ?_
  intro k1 ek1
  have J1 : MJ G k1 := by
    rw [ek1]
    exact J.up (by omega)
  have x1 : xM h k1 := by
    rw [ek1]
    exact (xM.rf h).up (by decide)
  have jm : k1 271 0 = G.1 0 := J1.1.many
  have jd : k1 271 15 = G.1 1 := J1.1.day
  have ref : ∀ {x c z : Int} {kk : fH}, kk = fu k1 285 c z → (x = if a1 < 0 ∨ G.1 0 ≤ a1 ∨ a2 < 0 ∨ 6 < a2 then -1 else G.1 (5 + 5 * a1)) → ¬ (0 ≤ a1 ∧ a1 < G.1 0 ∧ 0 ≤ a2 ∧ a2 ≤ 6) → mPost (wishA a1 a2 G) (wishC a1 a2 G) G (wishG a1 a2 G) h x kk := fun e hx hn => mPost.ref J1 x1 e hx hn
  refine fun z3 e3 => fun z4 e4 => (have f4 := wr_d e4 (by omega) (by omega); fun z5 e5 => ⟨fun q1 => (have r1 := xl_lt e5 q1; fun _ _ _ _ _ _ _ ek => ref ek (by omega) (by omega)), fun q1 => (have r1 := xl_ge e5 q1; fun z6 e6 => ⟨fun q2 => (have r2 := xl_gt e6 q2; fun _ _ _ _ _ _ _ ek => ref ek (by omega) (by omega)), fun q2 => (have r2 := xl_le e6 q2; fun z7 e7 => ⟨fun q3 => (have r3 := xl_lt e7 q3; fun _ _ _ _ _ _ _ ek => ref ek (by omega) (by omega)), fun q3 => (have r3 := xl_ge e7 q3; fun z8 e8 => ⟨fun q4 => (have r4 := xl_gt e8 q4; fun _ _ _ _ _ _ _ ek => ref ek (by omega) (by omega)), fun q4 => (have r4 := xl_le e8 q4; fun z9 e9 => fun k2 ek2 => fun k3 ek3 => ?_)⟩)⟩)⟩)⟩)
  · have r := J1.1.u_wish (p := a1) (z := a2) (by omega) (by omega)
    rw [← ek2] at r
    have hO : ∀ c k, (c < 271 ∨ 284 < c ∨ (c = 271 ∧ (k = 28 ∨ k = 19 ∨ k = 38))) → k3 c k = h c k := fun c k n1 => by
      rw [ek3, ek2, ek1]
      unfold fu
      rw [if_neg (by omega), if_neg (by omega), if_neg (by omega)]
    refine ⟨?_, Or.inl ⟨by omega, J.sTP (by rw [ek3]; exact RM_sk r (by omega)) (MP_zero ?_) (fun c k q => hO c k (by omega))⟩, fun c k q => hO c k (by omega)⟩
    · show z9 = _
      rw [if_neg (by omega), e9, J1.1.wish (by omega) (by omega)]
    · rw [ek3, fu_e rfl rfl]
-- believes
noncomputable def beliA (a1 a2 a3 : Int) (G : gS) (v : Int) : Prop := v = if a1 < 0 ∨ G.1 0 ≤ a1 ∨ a2 < 0 ∨ 4 < a2 then -1 else if a3 < 0 then -4 else if 9 < a3 then -6 else G.1 (38 + 5 * a1 + a2)
noncomputable def beliC (a1 a2 a3 : Int) (G : gS) : Prop := 0 ≤ a1 ∧ a1 < G.1 0 ∧ 0 ≤ a2 ∧ a2 ≤ 4 ∧ 0 ≤ a3 ∧ a3 ≤ 9
noncomputable def beliG (a1 a2 a3 : Int) (G : gS) : gS := sP (sT G (gu G.1 (38 + 5 * a1 + a2) a3)) (keepP G.2.2.1 G.1)
theorem cj_believes (hs : fS 86 [1, a1, a2, a3] h v h') (J : CJ G h) (W : GW G) : cPost (beliA a1 a2 a3 G) (beliC a1 a2 a3 G) G (beliG a1 a2 a3 G) h v h' := by
  have hB := W.1.1.1
  have hD := W.1.2
  have t11 : tw 11 := Or.inl rfl
  have f6 : f_len 4 = 6 := by decide +kernel
  refine vc_believes hs (fun v h' => (v = if a1 < 0 ∨ G.1 0 ≤ a1 ∨ a2 < 0 ∨ 4 < a2 then -1 else if a3 < 0 then -4 else if 9 < a3 then -6 else G.1 (38 + 5 * a1 + a2)) ∧ (((0 ≤ a1 ∧ a1 < G.1 0 ∧ 0 ≤ a2 ∧ a2 ≤ 4 ∧ 0 ≤ a3 ∧ a3 ≤ 9) ∧ CJ (beliG a1 a2 a3 G) h') ∨ (¬ (0 ≤ a1 ∧ a1 < G.1 0 ∧ 0 ≤ a2 ∧ a2 ≤ 4 ∧ 0 ≤ a3 ∧ a3 ≤ 9) ∧ CJ G h')) ∧ xC h h') ?_
  have jm : h 11 1 = G.1 0 := J.1.many
  have jd : h 11 15 = G.1 1 := J.1.day
  have ref : ∀ {x c z : Int} {kk : fH}, kk = fu h 3 c z → (x = if a1 < 0 ∨ G.1 0 ≤ a1 ∨ a2 < 0 ∨ 4 < a2 then -1 else if a3 < 0 then -4 else if 9 < a3 then -6 else G.1 (38 + 5 * a1 + a2)) → ¬ (0 ≤ a1 ∧ a1 < G.1 0 ∧ 0 ≤ a2 ∧ a2 ≤ 4 ∧ 0 ≤ a3 ∧ a3 ≤ 9) → cPost (beliA a1 a2 a3 G) (beliC a1 a2 a3 G) G (beliG a1 a2 a3 G) h x kk := fun e hx hn => cPost.ref J W e hx hn
  refine ⟨fun q1 => fun _ _ _ _ _ _ _ ek => ref ek (by omega) (by omega), fun q1 => fun z4 e4 => ⟨fun q2 => fun _ _ _ _ _ _ _ ek => ref ek (by omega) (by omega), fun q2 => ⟨fun q3 => fun _ _ _ _ _ _ _ ek => ref ek (by omega) (by omega), fun q3 => ⟨fun q4 => fun _ _ _ _ _ _ _ ek => ref ek (by omega) (by omega), fun q4 => ⟨fun q5 => ⟨fun q6 => fun v1 k1 hs1 => fun z6 e6 => fun z7 e7 => fun z8 e8 => fun k2 ek2 => ?_, fun q6 => fun _ _ _ _ _ _ _ ek => ref ek (by omega) (by omega)⟩, fun q5 => fun _ _ _ _ _ _ _ ek => ref ek (by omega) (by omega)⟩⟩⟩⟩⟩
  · obtain ⟨b1, b2⟩ := cj_keep hs1 J W
    have b1' : RC k1 11 G.1 := b1.1
    have r := b1'.u_bel (p := a1) (e := a2) (z := a3) W.1.1.bg q1 (by omega) q3 (by omega)
    have ez : (11 : Int) + 10 + a1 = z8 := by omega
    rw [ez, ← ek2] at r
    have hO : ∀ c k, c ≠ z8 → k2 c k = k1 c k := fun c k n1 => by rw [ek2, fu_c n1]
    refine ⟨?_, Or.inl ⟨by omega, b1.sTP (GW_keep W) r (b1.2.2.1.cg (GW_keep W).bp (fun k n1 => hO _ _ (by omega)) (fun c k n1 n2 => hO _ _ (by omega))) (b1.2.2.2.2.2.cg (fun b k hb => hO _ _ (by unfold tw at hb; omega))) (fun c k q => hO c k (by omega))⟩, b2.tr (fun c k q => hO c k (by omega))⟩
    have e7' := b1'.bel q1 (by omega) q3 (by omega : a2 < 5)
    rw [ez] at e7'
    show z7 = _
    rw [if_neg (by omega), if_neg (by omega), if_neg (by omega), e7, e6, ← e7', show (20 : Int) + 1 + 1 * a1 = z8 by omega]
theorem mj_believes (hs : fS 191 [271, a1, a2, a3] h v h') (J : MJ G h) (W : GW G) : mPost (beliA a1 a2 a3 G) (beliC a1 a2 a3 G) G (beliG a1 a2 a3 G) h v h' := by
  have hB := W.1.1.1
  have hD := W.1.2
  have t11 : tw 11 := Or.inl rfl
  have f6 : f_len 4 = 6 := by decide +kernel
  refine vr_believes hs (fun v h' => (v = if a1 < 0 ∨ G.1 0 ≤ a1 ∨ a2 < 0 ∨ 4 < a2 then -1 else if a3 < 0 then -4 else if 9 < a3 then -6 else G.1 (38 + 5 * a1 + a2)) ∧ (((0 ≤ a1 ∧ a1 < G.1 0 ∧ 0 ≤ a2 ∧ a2 ≤ 4 ∧ 0 ≤ a3 ∧ a3 ≤ 9) ∧ MJ (beliG a1 a2 a3 G) h') ∨ (¬ (0 ≤ a1 ∧ a1 < G.1 0 ∧ 0 ≤ a2 ∧ a2 ≤ 4 ∧ 0 ≤ a3 ∧ a3 ≤ 9) ∧ MJ G h')) ∧ xM h h') ?_
  intro k1 ek1
  have J1 : MJ G k1 := by
    rw [ek1]
    exact J.up (by omega)
  have x1 : xM h k1 := by
    rw [ek1]
    exact (xM.rf h).up (by decide)
  have jm : k1 271 0 = G.1 0 := J1.1.many
  have jd : k1 271 15 = G.1 1 := J1.1.day
  have ref : ∀ {x c z : Int} {kk : fH}, kk = fu k1 285 c z → (x = if a1 < 0 ∨ G.1 0 ≤ a1 ∨ a2 < 0 ∨ 4 < a2 then -1 else if a3 < 0 then -4 else if 9 < a3 then -6 else G.1 (38 + 5 * a1 + a2)) → ¬ (0 ≤ a1 ∧ a1 < G.1 0 ∧ 0 ≤ a2 ∧ a2 ≤ 4 ∧ 0 ≤ a3 ∧ a3 ≤ 9) → mPost (beliA a1 a2 a3 G) (beliC a1 a2 a3 G) G (beliG a1 a2 a3 G) h x kk := fun e hx hn => mPost.ref J1 x1 e hx hn
  refine fun z4 e4 => fun z5 e5 => (have f5 := wr_d e5 (by omega) (by omega); fun z6 e6 => ⟨fun q1 => (have r1 := xl_lt e6 q1; fun _ _ _ _ _ _ _ ek => ref ek (by omega) (by omega)), fun q1 => (have r1 := xl_ge e6 q1; fun z7 e7 => ⟨fun q2 => (have r2 := xl_gt e7 q2; fun _ _ _ _ _ _ _ ek => ref ek (by omega) (by omega)), fun q2 => (have r2 := xl_le e7 q2; fun z8 e8 => ⟨fun q3 => (have r3 := xl_lt e8 q3; fun _ _ _ _ _ _ _ ek => ref ek (by omega) (by omega)), fun q3 => (have r3 := xl_ge e8 q3; fun z9 e9 => ⟨fun q4 => (have r4 := xl_gt e9 q4; fun _ _ _ _ _ _ _ ek => ref ek (by omega) (by omega)), fun q4 => (have r4 := xl_le e9 q4; ⟨fun q5 => ⟨fun q6 => fun v2 k2 hs2 => fun z11 e11 => (have f11 := wr_f e11; fun z12 e12 => (have f12 := wr_f e12; fun z13 e13 => fun z14 e14 => (have f14 := wr_f e14; fun z15 e15 => (have f15 := wr_f e15; fun k3 ek3 => ?_)))), fun q6 => fun _ _ _ _ _ _ _ ek => ref ek (by omega) (by omega)⟩, fun q5 => fun _ _ _ _ _ _ _ ek => ref ek (by omega) (by omega)⟩)⟩)⟩)⟩)⟩)
  · obtain ⟨b1, b2⟩ := mj_keep hs2 J1 W
    have b1' : RM k2 G.1 := b1.1
    have r := b1'.u_bel (i := 5 * a1 + a2) (z := a3) (by omega) (by omega)
    rw [show (38 : Int) + (5 * a1 + a2) = 38 + 5 * a1 + a2 by omega] at r
    have ek3' : k3 = fu k2 277 (5 * a1 + a2) a3 := by
      rw [ek3]
      congr 1
      omega
    rw [← ek3'] at r
    have hO : ∀ c k, c ≠ 277 → k3 c k = k2 c k := fun c k n1 => by rw [ek3, fu_c n1]
    refine ⟨?_, Or.inl ⟨by omega, b1.sTP r (b1.2.2.1.cg (hO _ _ (by omega)) (fun k => hO _ _ (by omega))) (fun c k q => hO c k (by omega))⟩, x1.tr (b2.tr (fun c k q => hO c k (by omega)))⟩
    have e13' := b1'.bel (i := 5 * a1 + a2) (by omega) (by omega)
    rw [show (38 : Int) + (5 * a1 + a2) = 38 + 5 * a1 + a2 by omega] at e13'
    show z13 = _
    rw [if_neg (by omega), if_neg (by omega), if_neg (by omega), e13, ← e13', show z12 = 5 * a1 + a2 by omega]
-- fixes
noncomputable def fixeA (a1 a2 a3 : Int) (G : gS) (v : Int) : Prop := v = if a1 < 0 ∨ 4 < a1 then -1 else if a2 < 1 ∨ a3 < 0 then -4 else if 9 < a2 ∨ 8 < a3 then -6 else 10 * G.1 (73 + 2 * a1) + G.1 (74 + 2 * a1)
noncomputable def fixeC (a1 a2 a3 : Int) (G : gS) : Prop := 0 ≤ a1 ∧ a1 ≤ 4 ∧ 1 ≤ a2 ∧ a2 ≤ 9 ∧ 0 ≤ a3 ∧ a3 ≤ 8
noncomputable def fixeG (a1 a2 a3 : Int) (G : gS) : gS := sP (sT G (gu (gu G.1 (73 + 2 * a1) a2) (74 + 2 * a1) a3)) (keepP G.2.2.1 G.1)
theorem cj_fixes (hs : fS 88 [1, a1, a2, a3] h v h') (J : CJ G h) (W : GW G) : cPost (fixeA a1 a2 a3 G) (fixeC a1 a2 a3 G) G (fixeG a1 a2 a3 G) h v h' := by
  have hB := W.1.1.1
  have hD := W.1.2
  have t11 : tw 11 := Or.inl rfl
  have f6 : f_len 4 = 6 := by decide +kernel
  refine vc_fixes hs (fun v h' => (v = if a1 < 0 ∨ 4 < a1 then -1 else if a2 < 1 ∨ a3 < 0 then -4 else if 9 < a2 ∨ 8 < a3 then -6 else 10 * G.1 (73 + 2 * a1) + G.1 (74 + 2 * a1)) ∧ (((0 ≤ a1 ∧ a1 ≤ 4 ∧ 1 ≤ a2 ∧ a2 ≤ 9 ∧ 0 ≤ a3 ∧ a3 ≤ 8) ∧ CJ (fixeG a1 a2 a3 G) h') ∨ (¬ (0 ≤ a1 ∧ a1 ≤ 4 ∧ 1 ≤ a2 ∧ a2 ≤ 9 ∧ 0 ≤ a3 ∧ a3 ≤ 8) ∧ CJ G h')) ∧ xC h h') ?_
  have jm : h 11 1 = G.1 0 := J.1.many
  have jd : h 11 15 = G.1 1 := J.1.day
  have ref : ∀ {x c z : Int} {kk : fH}, kk = fu h 3 c z → (x = if a1 < 0 ∨ 4 < a1 then -1 else if a2 < 1 ∨ a3 < 0 then -4 else if 9 < a2 ∨ 8 < a3 then -6 else 10 * G.1 (73 + 2 * a1) + G.1 (74 + 2 * a1)) → ¬ (0 ≤ a1 ∧ a1 ≤ 4 ∧ 1 ≤ a2 ∧ a2 ≤ 9 ∧ 0 ≤ a3 ∧ a3 ≤ 8) → cPost (fixeA a1 a2 a3 G) (fixeC a1 a2 a3 G) G (fixeG a1 a2 a3 G) h x kk := fun e hx hn => cPost.ref J W e hx hn
  refine ⟨fun q1 => fun _ _ _ _ _ _ _ ek => ref ek (by omega) (by omega), fun q1 => ⟨fun q2 => fun _ _ _ _ _ _ _ ek => ref ek (by omega) (by omega), fun q2 => ⟨fun q3 => fun _ _ _ _ _ _ _ ek => ref ek (by omega) (by omega), fun q3 => ⟨fun q4 => ⟨fun q5 => fun _ _ _ _ _ _ _ ek => ref ek (by omega) (by omega), fun q5 => ⟨fun q6 => fun v1 k1 hs1 => fun z5 e5 => fun z6 e6 => (have f6 := wr_f e6; fun z7 e7 => fun z8 e8 => (have f8 := wr_f e8; fun k2 ek2 => fun k3 ek3 => ?_)), fun q6 => fun _ _ _ _ _ _ _ ek => ref ek (by omega) (by omega)⟩⟩, fun q4 => fun _ _ _ _ _ _ _ ek => ref ek (by omega) (by omega)⟩⟩⟩⟩
  · obtain ⟨b1, b2⟩ := cj_keep hs1 J W
    have b1' : RC k1 11 G.1 := b1.1
    have we := W.1.1.evt q1 (by omega)
    have r := b1'.u_ev (e := a1) (z := a2) W.1.1.bg q1 (by omega)
    rw [show (11 : Int) + 17 = 28 from rfl, ← ek2] at r
    have r2 := r.u_on (e := a1) (z := a3) (BG_gu W.1.1.bg (by omega)) q1 (by omega)
    rw [show (11 : Int) + 18 = 29 from rfl, ← ek3] at r2
    have hO : ∀ c k, c ≠ 28 → c ≠ 29 → k3 c k = k1 c k := fun c k n1 n2 => by rw [ek3, fu_c n2, ek2, fu_c n1]
    refine ⟨?_, Or.inl ⟨by omega, b1.sTP (GW_keep W) r2 (b1.2.2.1.cg (GW_keep W).bp (fun k n1 => hO _ _ (by omega) (by omega)) (fun c k n1 n2 => hO _ _ (by omega) (by omega))) (b1.2.2.2.2.2.cg (fun b k hb => hO _ _ (by unfold tw at hb; omega) (by unfold tw at hb; omega))) (fun c k q => hO c k (by omega) (by omega))⟩, b2.tr (fun c k q => hO c k (by omega) (by omega))⟩
    have e5' := b1'.ev q1 (by omega : a1 < 5)
    rw [show (11 : Int) + 17 = 28 from rfl, ← e5] at e5'
    have e7' := b1'.on q1 (by omega : a1 < 5)
    rw [show (11 : Int) + 18 = 29 from rfl, ← e7] at e7'
    show z8 = _
    rw [if_neg (by omega), if_neg (by omega), if_neg (by omega)]
    omega
theorem mj_fixes (hs : fS 193 [271, a1, a2, a3] h v h') (J : MJ G h) (W : GW G) : mPost (fixeA a1 a2 a3 G) (fixeC a1 a2 a3 G) G (fixeG a1 a2 a3 G) h v h' := by
  have hB := W.1.1.1
  have hD := W.1.2
  have t11 : tw 11 := Or.inl rfl
  have f6 : f_len 4 = 6 := by decide +kernel
  refine vr_fixes hs (fun v h' => (v = if a1 < 0 ∨ 4 < a1 then -1 else if a2 < 1 ∨ a3 < 0 then -4 else if 9 < a2 ∨ 8 < a3 then -6 else 10 * G.1 (73 + 2 * a1) + G.1 (74 + 2 * a1)) ∧ (((0 ≤ a1 ∧ a1 ≤ 4 ∧ 1 ≤ a2 ∧ a2 ≤ 9 ∧ 0 ≤ a3 ∧ a3 ≤ 8) ∧ MJ (fixeG a1 a2 a3 G) h') ∨ (¬ (0 ≤ a1 ∧ a1 ≤ 4 ∧ 1 ≤ a2 ∧ a2 ≤ 9 ∧ 0 ≤ a3 ∧ a3 ≤ 8) ∧ MJ G h')) ∧ xM h h') ?_
  intro k1 ek1
  have J1 : MJ G k1 := by
    rw [ek1]
    exact J.up (by omega)
  have x1 : xM h k1 := by
    rw [ek1]
    exact (xM.rf h).up (by decide)
  have jm : k1 271 0 = G.1 0 := J1.1.many
  have jd : k1 271 15 = G.1 1 := J1.1.day
  have ref : ∀ {x c z : Int} {kk : fH}, kk = fu k1 285 c z → (x = if a1 < 0 ∨ 4 < a1 then -1 else if a2 < 1 ∨ a3 < 0 then -4 else if 9 < a2 ∨ 8 < a3 then -6 else 10 * G.1 (73 + 2 * a1) + G.1 (74 + 2 * a1)) → ¬ (0 ≤ a1 ∧ a1 ≤ 4 ∧ 1 ≤ a2 ∧ a2 ≤ 9 ∧ 0 ≤ a3 ∧ a3 ≤ 8) → mPost (fixeA a1 a2 a3 G) (fixeC a1 a2 a3 G) G (fixeG a1 a2 a3 G) h x kk := fun e hx hn => mPost.ref J1 x1 e hx hn
  refine fun z4 e4 => ⟨fun q1 => (have r1 := xl_lt e4 q1; fun _ _ _ _ _ _ _ ek => ref ek (by omega) (by omega)), fun q1 => (have r1 := xl_ge e4 q1; fun z5 e5 => ⟨fun q2 => (have r2 := xl_gt e5 q2; fun _ _ _ _ _ _ _ ek => ref ek (by omega) (by omega)), fun q2 => (have r2 := xl_le e5 q2; ⟨fun q3 => fun _ _ _ _ _ _ _ ek => ref ek (by omega) (by omega), fun q3 => ⟨fun q4 => ⟨fun q5 => fun _ _ _ _ _ _ _ ek => ref ek (by omega) (by omega), fun q5 => ⟨fun q6 => fun v2 k2 hs2 => fun z7 e7 => fun z8 e8 => (have f8 := wr_f e8; fun z9 e9 => fun z10 e10 => (have f10 := wr_f e10; fun k3 ek3 => fun k4 ek4 => ?_)), fun q6 => fun _ _ _ _ _ _ _ ek => ref ek (by omega) (by omega)⟩⟩, fun q4 => fun _ _ _ _ _ _ _ ek => ref ek (by omega) (by omega)⟩⟩)⟩)⟩
  · obtain ⟨b1, b2⟩ := mj_keep hs2 J1 W
    have b1' : RM k2 G.1 := b1.1
    have we := W.1.1.evt (e := a1) (by omega) (by omega)
    have r := b1'.u_ev (e := a1) (z := a2) (by omega) (by omega)
    rw [← ek3] at r
    have r2 := r.u_on (e := a1) (z := a3) (by omega) (by omega)
    rw [← ek4] at r2
    have hO : ∀ c k, c ≠ 278 → c ≠ 279 → k4 c k = k2 c k := fun c k n1 n2 => by rw [ek4, fu_c n2, ek3, fu_c n1]
    refine ⟨?_, Or.inl ⟨by omega, b1.sTP r2 (b1.2.2.1.cg (hO _ _ (by omega) (by omega)) (fun k => hO _ _ (by omega) (by omega))) (fun c k q => hO c k (by omega) (by omega))⟩, x1.tr (b2.tr (fun c k q => hO c k (by omega) (by omega)))⟩
    have e7' := b1'.ev (e := a1) (by omega) (by omega)
    rw [← e7] at e7'
    have e9' := b1'.on (e := a1) (by omega) (by omega)
    rw [← e9] at e9'
    show z10 = _
    rw [if_neg (by omega), if_neg (by omega), if_neg (by omega)]
    omega
-- days
noncomputable def daysA (a1 : Int) (G : gS) (v : Int) : Prop := if a1 < 1 then v = -4 else if 60 < a1 ∨ 999 < G.1 1 + a1 then v = -6 else True
noncomputable def daysC (a1 : Int) (G : gS) : Prop := 1 ≤ a1 ∧ a1 ≤ 60 ∧ G.1 1 + a1 ≤ 999
noncomputable def daysG (a1 : Int) (G : gS) : gS := sP (sT G (dayN a1.toNat G.1)) (keepP G.2.2.1 G.1)
theorem cj_days (hs : fS 90 [1, a1] h v h') (J : CJ G h) (W : GW G) : cPost (daysA a1 G) (daysC a1 G) G (daysG a1 G) h v h' := by
  have hB := W.1.1.1
  have hD := W.1.2
  have t11 : tw 11 := Or.inl rfl
  have f6 : f_len 4 = 6 := by decide +kernel
  refine vc_days hs (fun v h' => (if a1 < 1 then v = -4 else if 60 < a1 ∨ 999 < G.1 1 + a1 then v = -6 else True) ∧ (((1 ≤ a1 ∧ a1 ≤ 60 ∧ G.1 1 + a1 ≤ 999) ∧ CJ (daysG a1 G) h') ∨ (¬ (1 ≤ a1 ∧ a1 ≤ 60 ∧ G.1 1 + a1 ≤ 999) ∧ CJ G h')) ∧ xC h h') ?_
  have jm : h 11 1 = G.1 0 := J.1.many
  have jd : h 11 15 = G.1 1 := J.1.day
  have ref : ∀ {x c z : Int} {kk : fH}, kk = fu h 3 c z → (if a1 < 1 then x = -4 else if 60 < a1 ∨ 999 < G.1 1 + a1 then x = -6 else True) → ¬ (1 ≤ a1 ∧ a1 ≤ 60 ∧ G.1 1 + a1 ≤ 999) → cPost (daysA a1 G) (daysC a1 G) G (daysG a1 G) h x kk := fun e hx hn => cPost.ref J W e hx hn
  refine ⟨fun q1 => ⟨fun q2 => fun _ _ _ _ _ _ _ ek => ref ek (by repeat' (first | rfl | omega | trivial | split)) (by omega), fun q2 => fun z2 e2 => fun z3 e3 => (have f3 := wr_d e3 (by omega) (by omega); ⟨fun q3 => fun v1 k1 hs1 => fun v2 k2 hs2 => fun v3 k3 hs3 => ?_, fun q3 => fun _ _ _ _ _ _ _ ek => ref ek (by repeat' (first | rfl | omega | trivial | split)) (by omega)⟩)⟩, fun q1 => fun _ _ _ _ _ _ _ ek => ref ek (by repeat' (first | rfl | omega | trivial | split)) (by omega)⟩
  · obtain ⟨b1, b2⟩ := cj_keep hs1 J W
    have b1' : RC k1 11 G.1 := b1.1
    obtain ⟨c1, c2⟩ := sc_goOn hs2 b1' W.1.1 (by omega) (by omega)
    have e3' : k3 = k2 := S0_eq (rq := [none, none]) (as := [11, 0]) (fun _ => fz_vt_howManyWed) trivial hs3
    subst e3'
    refine ⟨?_, Or.inl ⟨by omega, b1.sTP (GW_keep W) c1 (b1.2.2.1.cg (GW_keep W).bp (fun k n1 => c2 _ _ (by omega)) (fun c k n1 n2 => c2 _ _ (by omega))) (b1.2.2.2.2.2.but t11 c2 c1.rw') (fun c k q => c2 c k (by omega))⟩, b2.tr (fun c k q => c2 c k (by omega))⟩
    repeat' (first | omega | trivial | split)
theorem mj_days (hs : fS 197 [271, a1] h v h') (J : MJ G h) (W : GW G) : mPost (daysA a1 G) (daysC a1 G) G (daysG a1 G) h v h' := by
  have hB := W.1.1.1
  have hD := W.1.2
  have t11 : tw 11 := Or.inl rfl
  have f6 : f_len 4 = 6 := by decide +kernel
  refine vr_days hs (fun v h' => (if a1 < 1 then v = -4 else if 60 < a1 ∨ 999 < G.1 1 + a1 then v = -6 else True) ∧ (((1 ≤ a1 ∧ a1 ≤ 60 ∧ G.1 1 + a1 ≤ 999) ∧ MJ (daysG a1 G) h') ∨ (¬ (1 ≤ a1 ∧ a1 ≤ 60 ∧ G.1 1 + a1 ≤ 999) ∧ MJ G h')) ∧ xM h h') ?_
  intro k1 ek1
  have J1 : MJ G k1 := by
    rw [ek1]
    exact J.up (by omega)
  have x1 : xM h k1 := by
    rw [ek1]
    exact (xM.rf h).up (by decide)
  have jm : k1 271 0 = G.1 0 := J1.1.many
  have jd : k1 271 15 = G.1 1 := J1.1.day
  have ref : ∀ {x c z : Int} {kk : fH}, kk = fu k1 285 c z → (if a1 < 1 then x = -4 else if 60 < a1 ∨ 999 < G.1 1 + a1 then x = -6 else True) → ¬ (1 ≤ a1 ∧ a1 ≤ 60 ∧ G.1 1 + a1 ≤ 999) → mPost (daysA a1 G) (daysC a1 G) G (daysG a1 G) h x kk := fun e hx hn => mPost.ref J1 x1 e hx hn
  refine ⟨fun q1 => ⟨fun q2 => fun z2 e2 => fun z3 e3 => (have f3 := wr_d e3 (by omega) (by omega); ⟨fun q3 => fun v2 k2 hs2 => fun v3 k3 hs3 => fun v4 k4 hs4 => fun v5 k5 hs5 => ?_, fun q3 => fun _ _ _ _ _ _ _ ek => ref ek (by repeat' (first | rfl | omega | trivial | split)) (by omega)⟩), fun q2 => fun _ _ _ _ _ _ _ ek => ref ek (by repeat' (first | rfl | omega | trivial | split)) (by omega)⟩, fun q1 => fun _ _ _ _ _ _ _ ek => ref ek (by repeat' (first | rfl | omega | trivial | split)) (by omega)⟩
  · obtain ⟨b1, b2⟩ := mj_keep hs2 J1 W
    have b1' : RM k2 G.1 := b1.1
    obtain ⟨c1, c2⟩ := sr_goDays hs3 b1' W.1.1 (by omega) (by omega)
    have J3 : MJ (daysG a1 G) k3 := b1.sTP c1 (b1.2.2.1.cg (c2 _ _ (by omega)) (fun k => c2 _ _ (by omega))) (fun c k q => c2 c k (by omega))
    obtain ⟨d1, d2⟩ := mj_ask (as := [271]) (fun g h0 => SQ_lt 0 (fun _ => fp_vr_wedBits)) (by omega) ⟨rfl, trivial⟩ hs4 J3
    obtain ⟨d3, d4⟩ := mj_ask (as := [v4]) (fun g h0 => SQ_lt 0 (fun _ => fp_vr_onesOf)) (by omega) trivial hs5 d1
    refine ⟨?_, Or.inl ⟨by omega, d3⟩, x1.tr (b2.tr ((xM.fr c2).tr (d2.tr d4)))⟩
    repeat' (first | omega | trivial | split)
-- proposes
noncomputable def propA (a1 a2 a3 a4 a5 : Int) (G : gS) (v : Int) : Prop := (v ≠ 0 ∧ proV G.1 a1 a2 a3 a4 a5 v) ∨ (proC G.1 a1 a2 a3 a4 a5 ∧ v = G.1 2 + 1)
noncomputable def propC (a1 a2 a3 a4 a5 : Int) (G : gS) : Prop := proC G.1 a1 a2 a3 a4 a5
noncomputable def propG (a1 a2 a3 a4 a5 : Int) (G : gS) : gS := sP (sT G (proF G.1 a1 a2 a3 a4 a5)) (keepP G.2.2.1 G.1)
theorem cj_proposes (hs : fS 89 [1, a1, a2, a3, a4, a5] h v h') (J : CJ G h) (W : GW G) : cPost (propA a1 a2 a3 a4 a5 G) (propC a1 a2 a3 a4 a5 G) G (propG a1 a2 a3 a4 a5 G) h v h' := by
  have hB := W.1.1.1
  have hD := W.1.2
  have t11 : tw 11 := Or.inl rfl
  have f6 : f_len 4 = 6 := by decide +kernel
  refine vc_proposes hs (fun v h' => ((v ≠ 0 ∧ proV G.1 a1 a2 a3 a4 a5 v) ∨ (proC G.1 a1 a2 a3 a4 a5 ∧ v = G.1 2 + 1)) ∧ (((proC G.1 a1 a2 a3 a4 a5) ∧ CJ (propG a1 a2 a3 a4 a5 G) h') ∨ (¬ (proC G.1 a1 a2 a3 a4 a5) ∧ CJ G h')) ∧ xC h h') ?_
  have jm : h 11 1 = G.1 0 := J.1.many
  have jd : h 11 15 = G.1 1 := J.1.day
  refine fun v1 k1 hs1 => ⟨fun q1 => fun v2 k2 hs2 => fun z8 e8 => fun z9 e9 => fun k3 ek3 => fun k4 ek4 => fun k5 ek5 => fun k6 ek6 => fun k7 ek7 => fun z10 e10 => fun z11 e11 => (have f11 := wr_f e11; fun k8 ek8 => fun z12 e12 => ?_), fun q1 => fun z7 e7 => (have f7 := wr_f e7; fun z8 e8 => fun z9 e9 => (have f9 := wr_f e9; fun k2 ek2 => ?_))⟩
  · obtain ⟨ek1, pv⟩ := sc_refPro hs1 J.1 W.1.1
    have hc : proC G.1 a1 a2 a3 a4 a5 := (proV_0 pv).mp q1
    have h3 := proC_room W.1.1 hc
    rw [ek1] at hs2
    obtain ⟨b1, b2⟩ := cj_keep hs2 J W
    have b1' : RC k2 11 G.1 := b1.1
    rw [b1'.opn] at e8
    subst e8
    have r := sc_pro (a := a1) (c := a2) (e := a3) (s := a4) (d := a5) (z9 := z9) b1' W.1.1.bg h3 e9
    have hz := b1'.wr (w := G.1 2) (by omega) h3
    rw [show (11 : Int) + 19 = 30 from rfl, ← e9] at hz
    have m10 : z10 = G.1 2 := by
      rw [e10, ek7, fu_c (by omega), ek6, fu_c (by omega), ek5, fu_c (by omega), ek4, fu_c (by omega), ek3, fu_c (by omega)]
      exact b1'.opn
    have ek8' : k8 = fu (fu (fu (fu (fu (fu k2 z9 0 a1) z9 1 a2) z9 2 a3) z9 3 a4) z9 4 a5) 11 14 (G.1 2 + 1) := by
      rw [ek8, ek7, ek6, ek5, ek4, ek3, show z11 = G.1 2 + 1 by omega]
    rw [← ek8'] at r
    have hO : ∀ c k, (c < 11 ∨ 33 < c) → k8 c k = k2 c k := fun c k n1 => by
      rw [ek8']
      unfold fu
      rw [if_neg (by omega), if_neg (by omega), if_neg (by omega), if_neg (by omega), if_neg (by omega), if_neg (by omega)]
    refine ⟨Or.inr ⟨hc, by rw [e12, r.opn]; exact proF_2⟩, Or.inl ⟨hc, b1.sTP (GW_keep W) r (b1.2.2.1.cg (GW_keep W).bp (fun k n1 => hO _ _ (by omega)) (fun c k n1 n2 => hO _ _ (by omega))) (b1.2.2.2.2.2.but t11 (fun c k q => hO c k (by omega)) r.rw') (fun c k q => hO c k (by omega))⟩, b2.tr (fun c k q => hO c k (by omega))⟩
  · obtain ⟨ek1, pv⟩ := sc_refPro hs1 J.1 W.1.1
    rw [ek1] at ek2
    exact cPost.ref (A := propA a1 a2 a3 a4 a5 G) (C := propC a1 a2 a3 a4 a5 G) (G' := propG a1 a2 a3 a4 a5 G) J W ek2 (Or.inl ⟨q1, pv⟩) (fun q => q1 ((proV_0 pv).mpr q))
theorem mj_proposes (hs : fS 194 [271, a1, a2, a3, a4, a5] h v h') (J : MJ G h) (W : GW G) : mPost (propA a1 a2 a3 a4 a5 G) (propC a1 a2 a3 a4 a5 G) G (propG a1 a2 a3 a4 a5 G) h v h' := by
  have hB := W.1.1.1
  have hD := W.1.2
  have t11 : tw 11 := Or.inl rfl
  have f6 : f_len 4 = 6 := by decide +kernel
  refine vr_proposes hs (fun v h' => ((v ≠ 0 ∧ proV G.1 a1 a2 a3 a4 a5 v) ∨ (proC G.1 a1 a2 a3 a4 a5 ∧ v = G.1 2 + 1)) ∧ (((proC G.1 a1 a2 a3 a4 a5) ∧ MJ (propG a1 a2 a3 a4 a5 G) h') ∨ (¬ (proC G.1 a1 a2 a3 a4 a5) ∧ MJ G h')) ∧ xM h h') ?_
  intro k1 ek1
  have J1 : MJ G k1 := by
    rw [ek1]
    exact J.up (by omega)
  have x1 : xM h k1 := by
    rw [ek1]
    exact (xM.rf h).up (by decide)
  have jm : k1 271 0 = G.1 0 := J1.1.many
  have jd : k1 271 15 = G.1 1 := J1.1.day
  have ref : ∀ {x c z : Int} {kk : fH}, kk = fu k1 285 c z → x ≠ 0 → (if a1 < 0 ∨ G.1 0 ≤ a1 ∨ a2 < 0 ∨ G.1 0 ≤ a2 ∨ a1 = a2 ∨ a3 < 0 ∨ 5 ≤ a3 then x = -1 else if a4 < 0 ∨ 2 ≤ a4 then x = -2 else if a5 < 1 then x = -4 else if 9 < a5 then x = -6 else (cbF G.1 a1 a2 a3 a4 ∧ x = 0) ∨ (¬ cbF G.1 a1 a2 a3 a4 ∧ x = -3)) → mPost (propA a1 a2 a3 a4 a5 G) (propC a1 a2 a3 a4 a5 G) G (propG a1 a2 a3 a4 a5 G) h x kk := fun {x c z kk} e hx hn => mPost.ref J1 x1 e (Or.inl ⟨hx, hn⟩) (fun q => hx ((proV_0 (show proV G.1 a1 a2 a3 a4 a5 x from hn)).mpr q))
  refine fun z6 e6 => fun z7 e7 => (have f7 := wr_d e7 (by omega) (by omega); fun z8 e8 => ⟨fun q1 => (have r1 := xl_lt e8 q1; fun _ _ _ _ _ _ _ ek => ref ek (by decide) (by repeat' (first | rfl | omega | split))), fun q1 => (have r1 := xl_ge e8 q1; fun z9 e9 => ⟨fun q2 => (have r2 := xl_gt e9 q2; fun _ _ _ _ _ _ _ ek => ref ek (by decide) (by repeat' (first | rfl | omega | split))), fun q2 => (have r2 := xl_le e9 q2; fun z10 e10 => fun z11 e11 => (have f11 := wr_d e11 (by omega) (by omega); fun z12 e12 => ⟨fun q3 => (have r3 := xl_lt e12 q3; fun _ _ _ _ _ _ _ ek => ref ek (by decide) (by repeat' (first | rfl | omega | split))), fun q3 => (have r3 := xl_ge e12 q3; fun z13 e13 => ⟨fun q4 => (have r4 := xl_gt e13 q4; fun _ _ _ _ _ _ _ ek => ref ek (by decide) (by repeat' (first | rfl | omega | split))), fun q4 => (have r4 := xl_le e13 q4; ⟨fun q5 => fun _ _ _ _ _ _ _ ek => ref ek (by decide) (by repeat' (first | rfl | omega | split)), fun q5 => fun z14 e14 => ⟨fun q6 => (have r6 := xl_lt e14 q6; fun _ _ _ _ _ _ _ ek => ref ek (by decide) (by repeat' (first | rfl | omega | split))), fun q6 => (have r6 := xl_ge e14 q6; fun z15 e15 => ⟨fun q7 => (have r7 := xl_gt e15 q7; fun _ _ _ _ _ _ _ ek => ref ek (by decide) (by repeat' (first | rfl | omega | split))), fun q7 => (have r7 := xl_le e15 q7; fun z16 e16 => ⟨fun q8 => (have r8 := xl_lt e16 q8; fun _ _ _ _ _ _ _ ek => ref ek (by decide) (by repeat' (first | rfl | omega | split))), fun q8 => (have r8 := xl_ge e16 q8; fun z17 e17 => ⟨fun q9 => (have r9 := xl_gt e17 q9; fun _ _ _ _ _ _ _ ek => ref ek (by decide) (by repeat' (first | rfl | omega | split))), fun q9 => (have r9 := xl_le e17 q9; ⟨fun q10 => ⟨fun q11 => fun v2 k2 hs2 => ⟨fun q12 => fun z19 e19 => ⟨fun q13 => fun v3 k3 hs3 => fun z21 e21 => fun k4 ek4 => fun z22 e22 => fun k5 ek5 => fun z23 e23 => fun k6 ek6 => fun z24 e24 => fun k7 ek7 => fun z25 e25 => fun k8 ek8 => fun z26 e26 => fun z27 e27 => (have f27 := wr_f e27; fun k9 ek9 => fun z28 e28 => ?_), fun q13 => fun z20 e20 => (have f20 := wr_f e20; fun z21 e21 => fun z22 e22 => (have f22 := wr_f e22; fun k3 ek3 => ?_))⟩, fun q12 => fun z19 e19 => (have f19 := wr_f e19; fun z20 e20 => fun z21 e21 => (have f21 := wr_f e21; fun k3 ek3 => ?_))⟩, fun q11 => fun _ _ _ _ _ _ _ ek => ref ek (by decide) (by repeat' (first | rfl | omega | split))⟩, fun q10 => fun _ _ _ _ _ _ _ ek => ref ek (by decide) (by repeat' (first | rfl | omega | split))⟩)⟩)⟩)⟩)⟩⟩)⟩)⟩))⟩)⟩)
  · obtain ⟨ek2, r0⟩ := sr_couldBe hs2 J1.1 W.1.1 (by omega) (by omega) (by omega) (by omega) (by omega) (by omega)
    rw [ek2] at hs3
    have hc : proC G.1 a1 a2 a3 a4 a5 := ⟨by omega, r0.t q12⟩
    have h3 := proC_room W.1.1 hc
    obtain ⟨b1, b2⟩ := mj_keep hs3 J1 W
    have b1' : RM k3 G.1 := b1.1
    have m1 : z21 = G.1 2 := by rw [e21, b1'.opn]
    have m2 : z22 = G.1 2 := by rw [e22, ek4, fu_c (by omega), b1'.opn]
    have m3 : z23 = G.1 2 := by rw [e23, ek5, fu_c (by omega), ek4, fu_c (by omega), b1'.opn]
    have m4 : z24 = G.1 2 := by rw [e24, ek6, fu_c (by omega), ek5, fu_c (by omega), ek4, fu_c (by omega), b1'.opn]
    have m5 : z25 = G.1 2 := by rw [e25, ek7, fu_c (by omega), ek6, fu_c (by omega), ek5, fu_c (by omega), ek4, fu_c (by omega), b1'.opn]
    have m6 : z26 = G.1 2 := by rw [e26, ek8, fu_c (by omega), ek7, fu_c (by omega), ek6, fu_c (by omega), ek5, fu_c (by omega), ek4, fu_c (by omega), b1'.opn]
    have r := sr_pro (a := a1) (c := a2) (e := a3) (s := a4) (d := a5) (z6 := z27) b1' (by omega) h3 m1 m2 m3 m4 m5 (by omega)
    rw [← ek4, ← ek5, ← ek6, ← ek7, ← ek8, ← ek9] at r
    have hO : ∀ c k, (c < 280 ∨ 284 < c) → (c = 271 → k ≠ 9) → k9 c k = k3 c k := fun c k n1 n2 => by
      rw [ek9, ek8, ek7, ek6, ek5, ek4]
      unfold fu
      rw [if_neg (by omega), if_neg (by omega), if_neg (by omega), if_neg (by omega), if_neg (by omega), if_neg (by omega)]
    refine ⟨Or.inr ⟨hc, by rw [e28, r.opn]; exact proF_2⟩, Or.inl ⟨hc, b1.sTP r (b1.2.2.1.cg (hO _ _ (by omega) (by omega)) (fun k => hO _ _ (by omega) (by omega))) (fun c k q => hO c k (by omega) (by omega))⟩, x1.tr (b2.tr (fun c k q => hO c k (by omega) (by omega)))⟩
  · obtain ⟨ek2, r0⟩ := sr_couldBe hs2 J1.1 W.1.1 (by omega) (by omega) (by omega) (by omega) (by omega) (by omega)
    rw [ek2, J1.1.opn] at e19
    omega
  · obtain ⟨ek2, r0⟩ := sr_couldBe hs2 J1.1 W.1.1 (by omega) (by omega) (by omega) (by omega) (by omega) (by omega)
    rw [ek2] at ek3
    refine ref ek3 (by decide) ?_
    rw [if_neg (by omega), if_neg (by omega), if_neg (by omega), if_neg (by omega)]
    exact Or.inr ⟨r0.f q12, rfl⟩
end PC
