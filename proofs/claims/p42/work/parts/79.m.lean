section
/-! what the methods do, in words of a town as a row of 113 ints (the order in which the reference lays it down): 0 how many, 1 the day, 2 how many wagers; 3 + 5 p .. kind, figure, wish, tears, wed (0 or one more than with whom); 38 + 5 p + e beliefs; 73 + 2 e .. every, on; 83 + 5 w .. one, other, event, side, wait -/
theorem wr_id {z : Int} (h1 : -2147483648 ≤ z) (h2 : z ≤ 2147483647) : wr z = z := Int.bmod_eq_of_le (by omega) (by omega)
theorem fu_e {h : fH} {c k z c' k' : Int} (h1 : c' = c) (h2 : k' = k) : fu h c k z c' k' = z := if_pos ⟨h1, h2⟩
theorem fu_c {h : fH} {c k z c' k' : Int} (h1 : c' ≠ c) : fu h c k z c' k' = h c' k' := if_neg (fun q => h1 q.1)
theorem fu_k {h : fH} {c k z c' k' : Int} (h1 : k' ≠ k) : fu h c k z c' k' = h c' k' := if_neg (fun q => h1 q.2)
noncomputable abbrev gV : Type := Int → Int
noncomputable def gu (g : gV) (i z : Int) : gV := fun j => if j = i then z else g j
theorem gu_e {g : gV} {i z j : Int} (h1 : j = i) : gu g i z j = z := if_pos h1
theorem gu_n {g : gV} {i z j : Int} (h1 : j ≠ i) : gu g i z j = g j := if_neg h1
theorem ofm9 (a x : Int) : a + 9 + 1 + 1 * x = a + 10 + x := by omega
-- kinds
noncomputable def askF (k f : Int) : Int := if k = 0 then 5 else if k = 1 then 6 else if k = 2 then f else if k = 3 then 0 else if k = 4 then 6 + f / 3 else 3
noncomputable def weeF (k f : Int) : Int := if k = 0 then 5 else if k = 1 then 2 else if k = 2 then 10 else if k = 3 then 0 else if k = 4 then 3 else f
noncomputable def lrnF (k : Int) : Int := if k = 1 then 0 else if k = 2 then 2 else if k = 5 then 3 else 1
noncomputable def wedF (z : Int) : Int := if z = 0 then -9 else z - 1
-- the reference's town
noncomputable def mc (i : Int) : Int := if i < 3 then 271 else if i < 38 then 272 + (i - 3) % 5 else if i < 73 then 277 else if i < 83 then 278 + (i - 73) % 2 else 280 + (i - 83) % 5
noncomputable def ms (i : Int) : Int := if i = 0 then 0 else if i = 1 then 15 else if i = 2 then 9 else if i < 38 then (i - 3) / 5 else if i < 73 then i - 38 else if i < 83 then (i - 73) / 2 else (i - 83) / 5
noncomputable def RM (h : fH) (g : gV) : Prop := ∀ i, 0 ≤ i → i < 113 → h (mc i) (ms i) = g i
noncomputable def minv (c k : Int) : Int := if c = 271 then (if k = 0 then 0 else if k = 15 then 1 else 2) else if c < 277 then 3 + (c - 272) + 5 * k else if c = 277 then 38 + k else if c < 280 then 73 + (c - 278) + 2 * k else 83 + (c - 280) + 5 * k
theorem minv_ok {i : Int} (h1 : 0 ≤ i) (h2 : i < 113) : minv (mc i) (ms i) = i := by
  by_cases a1 : i < 3
  · have hi : i = 0 ∨ i = 1 ∨ i = 2 := by omega
    rcases hi with rfl | rfl | rfl <;> rfl
  · unfold mc ms
    rw [if_neg a1, if_neg (show ¬ i = 0 by omega), if_neg (show ¬ i = 1 by omega), if_neg (show ¬ i = 2 by omega)]
    by_cases a2 : i < 38
    · rw [if_pos a2, if_pos a2]
      unfold minv
      rw [if_neg (show ¬ 272 + (i - 3) % 5 = 271 by omega), if_pos (show 272 + (i - 3) % 5 < 277 by omega)]
      omega
    · rw [if_neg a2, if_neg a2]
      by_cases a3 : i < 73
      · rw [if_pos a3, if_pos a3]
        unfold minv
        rw [if_neg (by decide), if_neg (by decide), if_pos rfl]
        omega
      · rw [if_neg a3, if_neg a3]
        by_cases a4 : i < 83
        · rw [if_pos a4, if_pos a4]
          unfold minv
          rw [if_neg (show ¬ 278 + (i - 73) % 2 = 271 by omega), if_neg (show ¬ 278 + (i - 73) % 2 < 277 by omega), if_neg (show ¬ 278 + (i - 73) % 2 = 277 by omega), if_pos (show 278 + (i - 73) % 2 < 280 by omega)]
          omega
        · rw [if_neg a4, if_neg a4]
          unfold minv
          rw [if_neg (show ¬ 280 + (i - 83) % 5 = 271 by omega), if_neg (show ¬ 280 + (i - 83) % 5 < 277 by omega), if_neg (show ¬ 280 + (i - 83) % 5 = 277 by omega), if_neg (show ¬ 280 + (i - 83) % 5 < 280 by omega)]
          omega
theorem m_inj {i j : Int} (h1 : 0 ≤ i) (h2 : i < 113) (h3 : 0 ≤ j) (h4 : j < 113) (e1 : mc i = mc j) (e2 : ms i = ms j) : i = j :=
  (minv_ok h1 h2).symm.trans ((by rw [e1, e2] : minv (mc i) (ms i) = minv (mc j) (ms j)).trans (minv_ok h3 h4))
theorem RM_at {h : fH} {g : gV} (hR : RM h g) {c k : Int} (i : Int) (h1 : 0 ≤ i) (h2 : i < 113) (e1 : mc i = c) (e2 : ms i = k) : h c k = g i := by
  rw [← e1, ← e2]
  exact hR i h1 h2
theorem RM_up {h : fH} {g : gV} (hR : RM h g) {c k z : Int} (i : Int) (h1 : 0 ≤ i) (h2 : i < 113) (e1 : mc i = c) (e2 : ms i = k) : RM (fu h c k z) (gu g i z) := fun j h3 h4 => by
  by_cases hj : j = i
  · subst hj
    rw [fu_e e1 e2, gu_e rfl]
  · rw [gu_n hj, ← hR j h3 h4]
    unfold fu
    rw [if_neg]
    rintro ⟨q1, q2⟩
    exact hj (m_inj h3 h4 h1 h2 (q1.trans e1.symm) (q2.trans e2.symm))
theorem RM_sk {h : fH} {g : gV} (hR : RM h g) {c k z : Int} (hc : c < 271 ∨ 284 < c ∨ (c = 271 ∧ k ≠ 0 ∧ k ≠ 15 ∧ k ≠ 9)) : RM (fu h c k z) g := fun j h3 h4 => by
  rw [← hR j h3 h4]
  unfold fu
  rw [if_neg]
  rintro ⟨q1, q2⟩
  unfold mc at q1
  unfold ms at q2
  omega
theorem RM_cg {h h' : fH} {g : gV} (hR : RM h g) (hc : ∀ c k, 271 ≤ c → c ≤ 284 → (c = 271 → k = 0 ∨ k = 15 ∨ k = 9) → h' c k = h c k) : RM h' g := fun j h3 h4 => by
  rw [← hR j h3 h4]
  refine hc _ _ ?_ ?_ ?_
  · unfold mc
    omega
  · unfold mc
    omega
  · unfold mc ms
    omega
section RMr
variable {h : fH} {g : gV} {p e w i z : Int}
theorem RM.many (hR : RM h g) : h 271 0 = g 0 := RM_at hR 0 (by omega) (by omega) rfl rfl
theorem RM.day (hR : RM h g) : h 271 15 = g 1 := RM_at hR 1 (by omega) (by omega) rfl rfl
theorem RM.opn (hR : RM h g) : h 271 9 = g 2 := RM_at hR 2 (by omega) (by omega) rfl rfl
theorem RM.kind (hR : RM h g) (h1 : 0 ≤ p) (h2 : p < 7) : h 272 p = g (3 + 5 * p) := RM_at hR _ (by omega) (by omega) (by unfold mc; omega) (by unfold ms; omega)
theorem RM.fig (hR : RM h g) (h1 : 0 ≤ p) (h2 : p < 7) : h 273 p = g (4 + 5 * p) := RM_at hR _ (by omega) (by omega) (by unfold mc; omega) (by unfold ms; omega)
theorem RM.wish (hR : RM h g) (h1 : 0 ≤ p) (h2 : p < 7) : h 274 p = g (5 + 5 * p) := RM_at hR _ (by omega) (by omega) (by unfold mc; omega) (by unfold ms; omega)
theorem RM.tears (hR : RM h g) (h1 : 0 ≤ p) (h2 : p < 7) : h 275 p = g (6 + 5 * p) := RM_at hR _ (by omega) (by omega) (by unfold mc; omega) (by unfold ms; omega)
theorem RM.wed (hR : RM h g) (h1 : 0 ≤ p) (h2 : p < 7) : h 276 p = g (7 + 5 * p) := RM_at hR _ (by omega) (by omega) (by unfold mc; omega) (by unfold ms; omega)
theorem RM.bel (hR : RM h g) (h1 : 0 ≤ i) (h2 : i < 35) : h 277 i = g (38 + i) := RM_at hR _ (by omega) (by omega) (by unfold mc; omega) (by unfold ms; omega)
theorem RM.ev (hR : RM h g) (h1 : 0 ≤ e) (h2 : e < 5) : h 278 e = g (73 + 2 * e) := RM_at hR _ (by omega) (by omega) (by unfold mc; omega) (by unfold ms; omega)
theorem RM.on (hR : RM h g) (h1 : 0 ≤ e) (h2 : e < 5) : h 279 e = g (74 + 2 * e) := RM_at hR _ (by omega) (by omega) (by unfold mc; omega) (by unfold ms; omega)
theorem RM.w0 (hR : RM h g) (h1 : 0 ≤ w) (h2 : w < 6) : h 280 w = g (83 + 5 * w) := RM_at hR _ (by omega) (by omega) (by unfold mc; omega) (by unfold ms; omega)
theorem RM.w1 (hR : RM h g) (h1 : 0 ≤ w) (h2 : w < 6) : h 281 w = g (84 + 5 * w) := RM_at hR _ (by omega) (by omega) (by unfold mc; omega) (by unfold ms; omega)
theorem RM.w2 (hR : RM h g) (h1 : 0 ≤ w) (h2 : w < 6) : h 282 w = g (85 + 5 * w) := RM_at hR _ (by omega) (by omega) (by unfold mc; omega) (by unfold ms; omega)
theorem RM.w3 (hR : RM h g) (h1 : 0 ≤ w) (h2 : w < 6) : h 283 w = g (86 + 5 * w) := RM_at hR _ (by omega) (by omega) (by unfold mc; omega) (by unfold ms; omega)
theorem RM.w4 (hR : RM h g) (h1 : 0 ≤ w) (h2 : w < 6) : h 284 w = g (87 + 5 * w) := RM_at hR _ (by omega) (by omega) (by unfold mc; omega) (by unfold ms; omega)
theorem RM.u_many (hR : RM h g) : RM (fu h 271 0 z) (gu g 0 z) := RM_up hR 0 (by omega) (by omega) rfl rfl
theorem RM.u_day (hR : RM h g) : RM (fu h 271 15 z) (gu g 1 z) := RM_up hR 1 (by omega) (by omega) rfl rfl
theorem RM.u_open (hR : RM h g) : RM (fu h 271 9 z) (gu g 2 z) := RM_up hR 2 (by omega) (by omega) rfl rfl
theorem RM.u_kind (hR : RM h g) (h1 : 0 ≤ p) (h2 : p < 7) : RM (fu h 272 p z) (gu g (3 + 5 * p) z) := RM_up hR _ (by omega) (by omega) (by unfold mc; omega) (by unfold ms; omega)
theorem RM.u_fig (hR : RM h g) (h1 : 0 ≤ p) (h2 : p < 7) : RM (fu h 273 p z) (gu g (4 + 5 * p) z) := RM_up hR _ (by omega) (by omega) (by unfold mc; omega) (by unfold ms; omega)
theorem RM.u_wish (hR : RM h g) (h1 : 0 ≤ p) (h2 : p < 7) : RM (fu h 274 p z) (gu g (5 + 5 * p) z) := RM_up hR _ (by omega) (by omega) (by unfold mc; omega) (by unfold ms; omega)
theorem RM.u_tears (hR : RM h g) (h1 : 0 ≤ p) (h2 : p < 7) : RM (fu h 275 p z) (gu g (6 + 5 * p) z) := RM_up hR _ (by omega) (by omega) (by unfold mc; omega) (by unfold ms; omega)
theorem RM.u_wed (hR : RM h g) (h1 : 0 ≤ p) (h2 : p < 7) : RM (fu h 276 p z) (gu g (7 + 5 * p) z) := RM_up hR _ (by omega) (by omega) (by unfold mc; omega) (by unfold ms; omega)
theorem RM.u_bel (hR : RM h g) (h1 : 0 ≤ i) (h2 : i < 35) : RM (fu h 277 i z) (gu g (38 + i) z) := RM_up hR _ (by omega) (by omega) (by unfold mc; omega) (by unfold ms; omega)
theorem RM.u_ev (hR : RM h g) (h1 : 0 ≤ e) (h2 : e < 5) : RM (fu h 278 e z) (gu g (73 + 2 * e) z) := RM_up hR _ (by omega) (by omega) (by unfold mc; omega) (by unfold ms; omega)
theorem RM.u_on (hR : RM h g) (h1 : 0 ≤ e) (h2 : e < 5) : RM (fu h 279 e z) (gu g (74 + 2 * e) z) := RM_up hR _ (by omega) (by omega) (by unfold mc; omega) (by unfold ms; omega)
theorem RM.u_w0 (hR : RM h g) (h1 : 0 ≤ w) (h2 : w < 6) : RM (fu h 280 w z) (gu g (83 + 5 * w) z) := RM_up hR _ (by omega) (by omega) (by unfold mc; omega) (by unfold ms; omega)
theorem RM.u_w1 (hR : RM h g) (h1 : 0 ≤ w) (h2 : w < 6) : RM (fu h 281 w z) (gu g (84 + 5 * w) z) := RM_up hR _ (by omega) (by omega) (by unfold mc; omega) (by unfold ms; omega)
theorem RM.u_w2 (hR : RM h g) (h1 : 0 ≤ w) (h2 : w < 6) : RM (fu h 282 w z) (gu g (85 + 5 * w) z) := RM_up hR _ (by omega) (by omega) (by unfold mc; omega) (by unfold ms; omega)
theorem RM.u_w3 (hR : RM h g) (h1 : 0 ≤ w) (h2 : w < 6) : RM (fu h 283 w z) (gu g (86 + 5 * w) z) := RM_up hR _ (by omega) (by omega) (by unfold mc; omega) (by unfold ms; omega)
theorem RM.u_w4 (hR : RM h g) (h1 : 0 ≤ w) (h2 : w < 6) : RM (fu h 284 w z) (gu g (87 + 5 * w) z) := RM_up hR _ (by omega) (by omega) (by unfold mc; omega) (by unfold ms; omega)
end RMr
-- the class's town whose object is cell b
noncomputable def RC (h : fH) (b : Int) (g : gV) : Prop :=
  (h b 1 = g 0 ∧ h b 15 = g 1 ∧ h b 14 = g 2) ∧
  (∀ p, 0 ≤ p → p < g 0 → h (b + 1) p = g (3 + 5 * p) ∧ h (b + 2) p = g (4 + 5 * p) ∧ h (b + 3) p = askF (g (3 + 5 * p)) (g (4 + 5 * p)) ∧ h (b + 4) p = weeF (g (3 + 5 * p)) (g (4 + 5 * p)) ∧ h (b + 5) p = lrnF (g (3 + 5 * p)) ∧ h (b + 6) p = g (5 + 5 * p) ∧ h (b + 7) p = g (6 + 5 * p) ∧ h (b + 8) p = wedF (g (7 + 5 * p))) ∧
  (∀ p e, 0 ≤ p → p < g 0 → 0 ≤ e → e < 5 → h (b + 10 + p) e = g (38 + 5 * p + e)) ∧
  (∀ e, 0 ≤ e → e < 5 → h (b + 17) e = g (73 + 2 * e) ∧ h (b + 18) e = g (74 + 2 * e)) ∧
  (∀ w j, 0 ≤ w → w < g 2 → 0 ≤ j → j < 5 → h (h (b + 19) w) j = g (83 + 5 * w + j)) ∧
  (∀ w, 0 ≤ w → w < 3 → b + 20 ≤ h (b + 19) w ∧ h (b + 19) w ≤ b + 22) ∧
  (∀ w w', 0 ≤ w → w < w' → w' < 3 → h (b + 19) w ≠ h (b + 19) w')
-- a good town
noncomputable def WF (g : gV) : Prop :=
  (0 ≤ g 0 ∧ g 0 ≤ 7 ∧ 0 ≤ g 1 ∧ g 1 ≤ 5000 ∧ 0 ≤ g 2 ∧ g 2 ≤ 3) ∧
  (∀ p, 0 ≤ p → p < g 0 → 0 ≤ g (3 + 5 * p) ∧ g (3 + 5 * p) ≤ 5 ∧ 0 ≤ g (4 + 5 * p) ∧ g (4 + 5 * p) ≤ 9 ∧ 0 ≤ g (5 + 5 * p) ∧ g (5 + 5 * p) ≤ 6 ∧ 0 ≤ g (6 + 5 * p) ∧ g (6 + 5 * p) ≤ 99 ∧ 0 ≤ g (7 + 5 * p) ∧ g (7 + 5 * p) ≤ g 0) ∧
  (∀ p e, 0 ≤ p → p < g 0 → 0 ≤ e → e < 5 → 0 ≤ g (38 + 5 * p + e) ∧ g (38 + 5 * p + e) ≤ 9) ∧
  (∀ e, 0 ≤ e → e < 5 → 1 ≤ g (73 + 2 * e) ∧ g (73 + 2 * e) ≤ 9 ∧ 0 ≤ g (74 + 2 * e) ∧ g (74 + 2 * e) ≤ 8) ∧
  (∀ w, 0 ≤ w → w < g 2 → 0 ≤ g (83 + 5 * w) ∧ g (83 + 5 * w) < g 0 ∧ 0 ≤ g (84 + 5 * w) ∧ g (84 + 5 * w) < g 0 ∧ g (83 + 5 * w) ≠ g (84 + 5 * w) ∧ 0 ≤ g (85 + 5 * w) ∧ g (85 + 5 * w) < 5 ∧ 0 ≤ g (86 + 5 * w) ∧ g (86 + 5 * w) ≤ 1 ∧ 1 ≤ g (87 + 5 * w) ∧ g (87 + 5 * w) ≤ 9 ∧ g (7 + 5 * g (83 + 5 * w)) = 0 ∧ g (7 + 5 * g (84 + 5 * w)) = 0) ∧
  (∀ w w', 0 ≤ w → w < w' → w' < g 2 → g (83 + 5 * w) ≠ g (83 + 5 * w') ∧ g (83 + 5 * w) ≠ g (84 + 5 * w') ∧ g (84 + 5 * w) ≠ g (83 + 5 * w') ∧ g (84 + 5 * w) ≠ g (84 + 5 * w'))
noncomputable def BG (g : gV) : Prop := 0 ≤ g 0 ∧ g 0 ≤ 7 ∧ 0 ≤ g 2 ∧ g 2 ≤ 3
theorem WF.bg {g : gV} (W : WF g) : BG g := ⟨W.1.1, W.1.2.1, W.1.2.2.2.2.1, W.1.2.2.2.2.2⟩
section RCr
variable {h h' : fH} {b : Int} {g g' : gV} {p e w i j z c k : Int}
theorem RC.many (hR : RC h b g) : h b 1 = g 0 := hR.1.1
theorem RC.day (hR : RC h b g) : h b 15 = g 1 := hR.1.2.1
theorem RC.opn (hR : RC h b g) : h b 14 = g 2 := hR.1.2.2
theorem RC.kind (hR : RC h b g) (h1 : 0 ≤ p) (h2 : p < g 0) : h (b + 1) p = g (3 + 5 * p) := (hR.2.1 p h1 h2).1
theorem RC.fig (hR : RC h b g) (h1 : 0 ≤ p) (h2 : p < g 0) : h (b + 2) p = g (4 + 5 * p) := (hR.2.1 p h1 h2).2.1
theorem RC.ask (hR : RC h b g) (h1 : 0 ≤ p) (h2 : p < g 0) : h (b + 3) p = askF (g (3 + 5 * p)) (g (4 + 5 * p)) := (hR.2.1 p h1 h2).2.2.1
theorem RC.wee (hR : RC h b g) (h1 : 0 ≤ p) (h2 : p < g 0) : h (b + 4) p = weeF (g (3 + 5 * p)) (g (4 + 5 * p)) := (hR.2.1 p h1 h2).2.2.2.1
theorem RC.lrn (hR : RC h b g) (h1 : 0 ≤ p) (h2 : p < g 0) : h (b + 5) p = lrnF (g (3 + 5 * p)) := (hR.2.1 p h1 h2).2.2.2.2.1
theorem RC.wish (hR : RC h b g) (h1 : 0 ≤ p) (h2 : p < g 0) : h (b + 6) p = g (5 + 5 * p) := (hR.2.1 p h1 h2).2.2.2.2.2.1
theorem RC.tears (hR : RC h b g) (h1 : 0 ≤ p) (h2 : p < g 0) : h (b + 7) p = g (6 + 5 * p) := (hR.2.1 p h1 h2).2.2.2.2.2.2.1
theorem RC.wed (hR : RC h b g) (h1 : 0 ≤ p) (h2 : p < g 0) : h (b + 8) p = wedF (g (7 + 5 * p)) := (hR.2.1 p h1 h2).2.2.2.2.2.2.2
theorem RC.bel (hR : RC h b g) (h1 : 0 ≤ p) (h2 : p < g 0) (h3 : 0 ≤ e) (h4 : e < 5) : h (b + 10 + p) e = g (38 + 5 * p + e) := hR.2.2.1 p e h1 h2 h3 h4
theorem RC.ev (hR : RC h b g) (h3 : 0 ≤ e) (h4 : e < 5) : h (b + 17) e = g (73 + 2 * e) := (hR.2.2.2.1 e h3 h4).1
theorem RC.on (hR : RC h b g) (h3 : 0 ≤ e) (h4 : e < 5) : h (b + 18) e = g (74 + 2 * e) := (hR.2.2.2.1 e h3 h4).2
theorem RC.wg (hR : RC h b g) (h1 : 0 ≤ w) (h2 : w < g 2) (h3 : 0 ≤ j) (h4 : j < 5) : h (h (b + 19) w) j = g (83 + 5 * w + j) := hR.2.2.2.2.1 w j h1 h2 h3 h4
theorem RC.wr (hR : RC h b g) (h1 : 0 ≤ w) (h2 : w < 3) : b + 20 ≤ h (b + 19) w ∧ h (b + 19) w ≤ b + 22 := hR.2.2.2.2.2.1 w h1 h2
theorem RC.wn (hR : RC h b g) (h1 : 0 ≤ w) (h2 : w < 3) (h3 : 0 ≤ i) (h4 : i < 3) (h5 : w ≠ i) : h (b + 19) w ≠ h (b + 19) i := by
  rcases Int.lt_or_gt_of_ne h5 with q | q
  · exact hR.2.2.2.2.2.2 w i h1 q h4
  · exact (hR.2.2.2.2.2.2 i w h3 q h2).symm
/-- only the town's own cells count -/
theorem RC_cg (hR : RC h b g) (hB : BG g) (hc : ∀ c k, b ≤ c → c ≤ b + 22 → h' c k = h c k) : RC h' b g := by
  unfold BG at hB
  have e19 : ∀ w, h' (b + 19) w = h (b + 19) w := fun w => hc _ _ (by omega) (by omega)
  refine ⟨⟨?_, ?_, ?_⟩, fun p h3 h4 => ?_, fun p e h3 h4 h5 h6 => ?_, fun e h3 h4 => ?_, fun w j h3 h4 h5 h6 => ?_, fun w h3 h4 => ?_, fun w w' h3 h4 h5 => ?_⟩
  · rw [hc b 1 (by omega) (by omega)]; exact hR.many
  · rw [hc b 15 (by omega) (by omega)]; exact hR.day
  · rw [hc b 14 (by omega) (by omega)]; exact hR.opn
  · rw [hc (b + 1) _ (by omega) (by omega), hc (b + 2) _ (by omega) (by omega), hc (b + 3) _ (by omega) (by omega), hc (b + 4) _ (by omega) (by omega), hc (b + 5) _ (by omega) (by omega), hc (b + 6) _ (by omega) (by omega), hc (b + 7) _ (by omega) (by omega), hc (b + 8) _ (by omega) (by omega)]
    exact hR.2.1 p h3 h4
  · rw [hc (b + 10 + p) _ (by omega) (by omega)]
    exact hR.bel h3 h4 h5 h6
  · rw [hc (b + 17) _ (by omega) (by omega), hc (b + 18) _ (by omega) (by omega)]
    exact hR.2.2.2.1 e h3 h4
  · have := hR.wr h3 (by omega : w < 3)
    rw [e19, hc _ _ (by omega) (by omega)]
    exact hR.wg h3 h4 h5 h6
  · rw [e19]
    exact hR.wr h3 h4
  · rw [e19, e19]
    exact hR.2.2.2.2.2.2 w w' h3 h4 h5
/-- a store outside of the town -/
theorem RC_sk (hR : RC h b g) (hB : BG g) (hc : c < b ∨ b + 22 < c) : RC (fu h c k z) b g := RC_cg hR hB (fun c' k' h1 h2 => fu_c (by omega))
theorem RC.u_wish (hR : RC h b g) (hB : BG g) (h1 : 0 ≤ p) (h2 : p < g 0) : RC (fu h (b + 6) p z) b (gu g (5 + 5 * p) z) := by
  unfold BG at hB
  refine ⟨⟨?_, ?_, ?_⟩, fun q h3 h4 => ?_, fun q e h3 h4 h5 h6 => ?_, fun e h3 h4 => ?_, fun w j h3 h4 h5 h6 => ?_, fun w h3 h4 => ?_, fun w w' h3 h4 h5 => ?_⟩
  · simp (disch := omega) only [fu_e, fu_c, fu_k, gu_e, gu_n]
    exact hR.many
  · simp (disch := omega) only [fu_e, fu_c, fu_k, gu_e, gu_n]
    exact hR.day
  · simp (disch := omega) only [fu_e, fu_c, fu_k, gu_e, gu_n]
    exact hR.opn
  · simp (disch := omega) only [fu_e, fu_c, fu_k, gu_e, gu_n] at h4
    by_cases hq : q = p
    · subst hq
      simp (disch := omega) only [fu_e, fu_c, fu_k, gu_e, gu_n]
      exact ⟨hR.kind h3 h4, hR.fig h3 h4, hR.ask h3 h4, hR.wee h3 h4, hR.lrn h3 h4, trivial, hR.tears h3 h4, hR.wed h3 h4⟩
    · simp (disch := omega) only [fu_e, fu_c, fu_k, gu_e, gu_n]
      exact hR.2.1 q h3 h4
  · simp (disch := omega) only [fu_e, fu_c, fu_k, gu_e, gu_n] at h4
    simp (disch := omega) only [fu_e, fu_c, fu_k, gu_e, gu_n]
    exact hR.bel h3 h4 h5 h6
  · simp (disch := omega) only [fu_e, fu_c, fu_k, gu_e, gu_n]
    exact hR.2.2.2.1 e h3 h4
  · simp (disch := omega) only [fu_e, fu_c, fu_k, gu_e, gu_n] at h4
    have hw := hR.wr h3 (by omega : w < 3)
    simp (disch := omega) only [fu_e, fu_c, fu_k, gu_e, gu_n]
    exact hR.wg h3 h4 h5 h6
  · simp (disch := omega) only [fu_e, fu_c, fu_k, gu_e, gu_n]
    exact hR.wr h3 h4
  · simp (disch := omega) only [fu_e, fu_c, fu_k, gu_e, gu_n]
    exact hR.2.2.2.2.2.2 w w' h3 h4 h5
theorem RC.u_tears (hR : RC h b g) (hB : BG g) (h1 : 0 ≤ p) (h2 : p < g 0) : RC (fu h (b + 7) p z) b (gu g (6 + 5 * p) z) := by
  unfold BG at hB
  refine ⟨⟨?_, ?_, ?_⟩, fun q h3 h4 => ?_, fun q e h3 h4 h5 h6 => ?_, fun e h3 h4 => ?_, fun w j h3 h4 h5 h6 => ?_, fun w h3 h4 => ?_, fun w w' h3 h4 h5 => ?_⟩
  · simp (disch := omega) only [fu_e, fu_c, fu_k, gu_e, gu_n]
    exact hR.many
  · simp (disch := omega) only [fu_e, fu_c, fu_k, gu_e, gu_n]
    exact hR.day
  · simp (disch := omega) only [fu_e, fu_c, fu_k, gu_e, gu_n]
    exact hR.opn
  · simp (disch := omega) only [fu_e, fu_c, fu_k, gu_e, gu_n] at h4
    by_cases hq : q = p
    · subst hq
      simp (disch := omega) only [fu_e, fu_c, fu_k, gu_e, gu_n]
      exact ⟨hR.kind h3 h4, hR.fig h3 h4, hR.ask h3 h4, hR.wee h3 h4, hR.lrn h3 h4, hR.wish h3 h4, trivial, hR.wed h3 h4⟩
    · simp (disch := omega) only [fu_e, fu_c, fu_k, gu_e, gu_n]
      exact hR.2.1 q h3 h4
  · simp (disch := omega) only [fu_e, fu_c, fu_k, gu_e, gu_n] at h4
    simp (disch := omega) only [fu_e, fu_c, fu_k, gu_e, gu_n]
    exact hR.bel h3 h4 h5 h6
  · simp (disch := omega) only [fu_e, fu_c, fu_k, gu_e, gu_n]
    exact hR.2.2.2.1 e h3 h4
  · simp (disch := omega) only [fu_e, fu_c, fu_k, gu_e, gu_n] at h4
    have hw := hR.wr h3 (by omega : w < 3)
    simp (disch := omega) only [fu_e, fu_c, fu_k, gu_e, gu_n]
    exact hR.wg h3 h4 h5 h6
  · simp (disch := omega) only [fu_e, fu_c, fu_k, gu_e, gu_n]
    exact hR.wr h3 h4
  · simp (disch := omega) only [fu_e, fu_c, fu_k, gu_e, gu_n]
    exact hR.2.2.2.2.2.2 w w' h3 h4 h5
theorem RC.u_wed (hR : RC h b g) (hB : BG g) (y : Int) (hy : z = wedF y) (h1 : 0 ≤ p) (h2 : p < g 0) : RC (fu h (b + 8) p z) b (gu g (7 + 5 * p) y) := by
  unfold BG at hB
  refine ⟨⟨?_, ?_, ?_⟩, fun q h3 h4 => ?_, fun q e h3 h4 h5 h6 => ?_, fun e h3 h4 => ?_, fun w j h3 h4 h5 h6 => ?_, fun w h3 h4 => ?_, fun w w' h3 h4 h5 => ?_⟩
  · simp (disch := omega) only [fu_e, fu_c, fu_k, gu_e, gu_n]
    exact hR.many
  · simp (disch := omega) only [fu_e, fu_c, fu_k, gu_e, gu_n]
    exact hR.day
  · simp (disch := omega) only [fu_e, fu_c, fu_k, gu_e, gu_n]
    exact hR.opn
  · simp (disch := omega) only [fu_e, fu_c, fu_k, gu_e, gu_n] at h4
    by_cases hq : q = p
    · subst hq
      simp (disch := omega) only [fu_e, fu_c, fu_k, gu_e, gu_n]
      exact ⟨hR.kind h3 h4, hR.fig h3 h4, hR.ask h3 h4, hR.wee h3 h4, hR.lrn h3 h4, hR.wish h3 h4, hR.tears h3 h4, hy⟩
    · simp (disch := omega) only [fu_e, fu_c, fu_k, gu_e, gu_n]
      exact hR.2.1 q h3 h4
  · simp (disch := omega) only [fu_e, fu_c, fu_k, gu_e, gu_n] at h4
    simp (disch := omega) only [fu_e, fu_c, fu_k, gu_e, gu_n]
    exact hR.bel h3 h4 h5 h6
  · simp (disch := omega) only [fu_e, fu_c, fu_k, gu_e, gu_n]
    exact hR.2.2.2.1 e h3 h4
  · simp (disch := omega) only [fu_e, fu_c, fu_k, gu_e, gu_n] at h4
    have hw := hR.wr h3 (by omega : w < 3)
    simp (disch := omega) only [fu_e, fu_c, fu_k, gu_e, gu_n]
    exact hR.wg h3 h4 h5 h6
  · simp (disch := omega) only [fu_e, fu_c, fu_k, gu_e, gu_n]
    exact hR.wr h3 h4
  · simp (disch := omega) only [fu_e, fu_c, fu_k, gu_e, gu_n]
    exact hR.2.2.2.2.2.2 w w' h3 h4 h5
theorem RC.u_bel (hR : RC h b g) (hB : BG g) (h1 : 0 ≤ p) (h2 : p < g 0) (h1e : 0 ≤ e) (h2e : e < 5) : RC (fu h (b + 10 + p) e z) b (gu g (38 + 5 * p + e) z) := by
  unfold BG at hB
  refine ⟨⟨?_, ?_, ?_⟩, fun q h3 h4 => ?_, fun q f h3 h4 h5 h6 => ?_, fun e h3 h4 => ?_, fun w j h3 h4 h5 h6 => ?_, fun w h3 h4 => ?_, fun w w' h3 h4 h5 => ?_⟩
  · simp (disch := omega) only [fu_e, fu_c, fu_k, gu_e, gu_n]
    exact hR.many
  · simp (disch := omega) only [fu_e, fu_c, fu_k, gu_e, gu_n]
    exact hR.day
  · simp (disch := omega) only [fu_e, fu_c, fu_k, gu_e, gu_n]
    exact hR.opn
  · simp (disch := omega) only [fu_e, fu_c, fu_k, gu_e, gu_n] at h4
    simp (disch := omega) only [fu_e, fu_c, fu_k, gu_e, gu_n]
    exact hR.2.1 q h3 h4
  · simp (disch := omega) only [fu_e, fu_c, fu_k, gu_e, gu_n] at h4
    by_cases hq : q = p ∧ f = e
    · obtain ⟨rfl, rfl⟩ := hq
      simp (disch := omega) only [fu_e, fu_c, fu_k, gu_e, gu_n]
    · have hq2 : ¬ (38 + 5 * q + f = 38 + 5 * p + e) := by omega
      rw [gu_n hq2]
      by_cases hq3 : q = p
      · rw [fu_k (by omega)]
        exact hR.bel h3 h4 h5 h6
      · rw [fu_c (by omega)]
        exact hR.bel h3 h4 h5 h6
  · simp (disch := omega) only [fu_e, fu_c, fu_k, gu_e, gu_n]
    exact hR.2.2.2.1 e h3 h4
  · simp (disch := omega) only [fu_e, fu_c, fu_k, gu_e, gu_n] at h4
    have hw := hR.wr h3 (by omega : w < 3)
    simp (disch := omega) only [fu_e, fu_c, fu_k, gu_e, gu_n]
    exact hR.wg h3 h4 h5 h6
  · simp (disch := omega) only [fu_e, fu_c, fu_k, gu_e, gu_n]
    exact hR.wr h3 h4
  · simp (disch := omega) only [fu_e, fu_c, fu_k, gu_e, gu_n]
    exact hR.2.2.2.2.2.2 w w' h3 h4 h5
theorem RC.u_ev (hR : RC h b g) (hB : BG g) (h1 : 0 ≤ e) (h2 : e < 5) : RC (fu h (b + 17) e z) b (gu g (73 + 2 * e) z) := by
  unfold BG at hB
  refine ⟨⟨?_, ?_, ?_⟩, fun q h3 h4 => ?_, fun q f h3 h4 h5 h6 => ?_, fun f h3 h4 => ?_, fun w j h3 h4 h5 h6 => ?_, fun w h3 h4 => ?_, fun w w' h3 h4 h5 => ?_⟩
  · simp (disch := omega) only [fu_e, fu_c, fu_k, gu_e, gu_n]
    exact hR.many
  · simp (disch := omega) only [fu_e, fu_c, fu_k, gu_e, gu_n]
    exact hR.day
  · simp (disch := omega) only [fu_e, fu_c, fu_k, gu_e, gu_n]
    exact hR.opn
  · simp (disch := omega) only [fu_e, fu_c, fu_k, gu_e, gu_n] at h4
    simp (disch := omega) only [fu_e, fu_c, fu_k, gu_e, gu_n]
    exact hR.2.1 q h3 h4
  · simp (disch := omega) only [fu_e, fu_c, fu_k, gu_e, gu_n] at h4
    simp (disch := omega) only [fu_e, fu_c, fu_k, gu_e, gu_n]
    exact hR.bel h3 h4 h5 h6
  · by_cases hq : f = e
    · subst hq
      simp (disch := omega) only [fu_e, fu_c, fu_k, gu_e, gu_n]
      exact ⟨trivial, hR.on h3 h4⟩
    · simp (disch := omega) only [fu_e, fu_c, fu_k, gu_e, gu_n]
      exact hR.2.2.2.1 f h3 h4
  · simp (disch := omega) only [fu_e, fu_c, fu_k, gu_e, gu_n] at h4
    have hw := hR.wr h3 (by omega : w < 3)
    simp (disch := omega) only [fu_e, fu_c, fu_k, gu_e, gu_n]
    exact hR.wg h3 h4 h5 h6
  · simp (disch := omega) only [fu_e, fu_c, fu_k, gu_e, gu_n]
    exact hR.wr h3 h4
  · simp (disch := omega) only [fu_e, fu_c, fu_k, gu_e, gu_n]
    exact hR.2.2.2.2.2.2 w w' h3 h4 h5
theorem RC.u_on (hR : RC h b g) (hB : BG g) (h1 : 0 ≤ e) (h2 : e < 5) : RC (fu h (b + 18) e z) b (gu g (74 + 2 * e) z) := by
  unfold BG at hB
  refine ⟨⟨?_, ?_, ?_⟩, fun q h3 h4 => ?_, fun q f h3 h4 h5 h6 => ?_, fun f h3 h4 => ?_, fun w j h3 h4 h5 h6 => ?_, fun w h3 h4 => ?_, fun w w' h3 h4 h5 => ?_⟩
  · simp (disch := omega) only [fu_e, fu_c, fu_k, gu_e, gu_n]
    exact hR.many
  · simp (disch := omega) only [fu_e, fu_c, fu_k, gu_e, gu_n]
    exact hR.day
  · simp (disch := omega) only [fu_e, fu_c, fu_k, gu_e, gu_n]
    exact hR.opn
  · simp (disch := omega) only [fu_e, fu_c, fu_k, gu_e, gu_n] at h4
    simp (disch := omega) only [fu_e, fu_c, fu_k, gu_e, gu_n]
    exact hR.2.1 q h3 h4
  · simp (disch := omega) only [fu_e, fu_c, fu_k, gu_e, gu_n] at h4
    simp (disch := omega) only [fu_e, fu_c, fu_k, gu_e, gu_n]
    exact hR.bel h3 h4 h5 h6
  · by_cases hq : f = e
    · subst hq
      simp (disch := omega) only [fu_e, fu_c, fu_k, gu_e, gu_n]
      exact ⟨hR.ev h3 h4, trivial⟩
    · simp (disch := omega) only [fu_e, fu_c, fu_k, gu_e, gu_n]
      exact hR.2.2.2.1 f h3 h4
  · simp (disch := omega) only [fu_e, fu_c, fu_k, gu_e, gu_n] at h4
    have hw := hR.wr h3 (by omega : w < 3)
    simp (disch := omega) only [fu_e, fu_c, fu_k, gu_e, gu_n]
    exact hR.wg h3 h4 h5 h6
  · simp (disch := omega) only [fu_e, fu_c, fu_k, gu_e, gu_n]
    exact hR.wr h3 h4
  · simp (disch := omega) only [fu_e, fu_c, fu_k, gu_e, gu_n]
    exact hR.2.2.2.2.2.2 w w' h3 h4 h5
theorem RC.u_day (hR : RC h b g) (hB : BG g)  : RC (fu h b 15 z) b (gu g 1 z) := by
  unfold BG at hB
  refine ⟨⟨?_, ?_, ?_⟩, fun q h3 h4 => ?_, fun q e h3 h4 h5 h6 => ?_, fun e h3 h4 => ?_, fun w j h3 h4 h5 h6 => ?_, fun w h3 h4 => ?_, fun w w' h3 h4 h5 => ?_⟩
  · simp (disch := omega) only [fu_e, fu_c, fu_k, gu_e, gu_n]
    exact hR.many
  · simp (disch := omega) only [fu_e, fu_c, fu_k, gu_e, gu_n]
  · simp (disch := omega) only [fu_e, fu_c, fu_k, gu_e, gu_n]
    exact hR.opn
  · simp (disch := omega) only [fu_e, fu_c, fu_k, gu_e, gu_n] at h4
    simp (disch := omega) only [fu_e, fu_c, fu_k, gu_e, gu_n]
    exact hR.2.1 q h3 h4
  · simp (disch := omega) only [fu_e, fu_c, fu_k, gu_e, gu_n] at h4
    simp (disch := omega) only [fu_e, fu_c, fu_k, gu_e, gu_n]
    exact hR.bel h3 h4 h5 h6
  · simp (disch := omega) only [fu_e, fu_c, fu_k, gu_e, gu_n]
    exact hR.2.2.2.1 e h3 h4
  · simp (disch := omega) only [fu_e, fu_c, fu_k, gu_e, gu_n] at h4
    have hw := hR.wr h3 (by omega : w < 3)
    simp (disch := omega) only [fu_e, fu_c, fu_k, gu_e, gu_n]
    exact hR.wg h3 h4 h5 h6
  · simp (disch := omega) only [fu_e, fu_c, fu_k, gu_e, gu_n]
    exact hR.wr h3 h4
  · simp (disch := omega) only [fu_e, fu_c, fu_k, gu_e, gu_n]
    exact hR.2.2.2.2.2.2 w w' h3 h4 h5
theorem RC.u_wg (hR : RC h b g) (hB : BG g) (h1 : 0 ≤ w) (h2 : w < g 2) (h1j : 0 ≤ j) (h2j : j < 5) : RC (fu h (h (b + 19) w) j z) b (gu g (83 + 5 * w + j) z) := by
  unfold BG at hB
  have hw0 := hR.wr h1 (by omega : w < 3)
  refine ⟨⟨?_, ?_, ?_⟩, fun q h3 h4 => ?_, fun q e h3 h4 h5 h6 => ?_, fun e h3 h4 => ?_, fun x i h3 h4 h5 h6 => ?_, fun x h3 h4 => ?_, fun x x' h3 h4 h5 => ?_⟩
  · simp (disch := omega) only [fu_e, fu_c, fu_k, gu_e, gu_n]
    exact hR.many
  · simp (disch := omega) only [fu_e, fu_c, fu_k, gu_e, gu_n]
    exact hR.day
  · simp (disch := omega) only [fu_e, fu_c, fu_k, gu_e, gu_n]
    exact hR.opn
  · simp (disch := omega) only [fu_e, fu_c, fu_k, gu_e, gu_n] at h4
    simp (disch := omega) only [fu_e, fu_c, fu_k, gu_e, gu_n]
    exact hR.2.1 q h3 h4
  · simp (disch := omega) only [fu_e, fu_c, fu_k, gu_e, gu_n] at h4
    simp (disch := omega) only [fu_e, fu_c, fu_k, gu_e, gu_n]
    exact hR.bel h3 h4 h5 h6
  · simp (disch := omega) only [fu_e, fu_c, fu_k, gu_e, gu_n]
    exact hR.2.2.2.1 e h3 h4
  · simp (disch := omega) only [fu_e, fu_c, fu_k, gu_e, gu_n] at h4
    have hw := hR.wr h3 (by omega : x < 3)
    by_cases hx : x = w
    · subst hx
      by_cases hi : i = j
      · subst hi
        simp (disch := omega) only [fu_e, fu_c, fu_k, gu_e, gu_n]
      · simp (disch := omega) only [fu_e, fu_c, fu_k, gu_e, gu_n]
        exact hR.wg h3 h4 h5 h6
    · have hne := hR.wn h3 (by omega) h1 (by omega) hx
      simp (disch := omega) only [fu_e, fu_c, fu_k, gu_e, gu_n]
      exact hR.wg h3 h4 h5 h6
  · simp (disch := omega) only [fu_e, fu_c, fu_k, gu_e, gu_n]
    exact hR.wr h3 h4
  · simp (disch := omega) only [fu_e, fu_c, fu_k, gu_e, gu_n]
    exact hR.2.2.2.2.2.2 x x' h3 h4 h5
end RCr
end
section
/-! what small methods answer -/
noncomputable def bR (v : Int) (P : Prop) : Prop := (v = 1 ∧ P) ∨ (v = 0 ∧ ¬ P)
theorem bR.eq {v w : Int} {P R : Prop} (h : bR v P) (h2 : bR w R) (hPR : P ↔ R) : v = w := by
  rcases h with ⟨q1, q2⟩ | ⟨q1, q2⟩ <;> rcases h2 with ⟨q3, q4⟩ | ⟨q3, q4⟩
  · omega
  · exact absurd (hPR.mp q2) q4
  · exact absurd (hPR.mpr q4) q2
  · omega
theorem bR.t {v : Int} {P : Prop} (h : bR v P) (hv : v ≠ 0) : P := by
  rcases h with ⟨q1, q2⟩ | ⟨q1, q2⟩
  · exact q2
  · exact absurd q1 hv
theorem bR.f {v : Int} {P : Prop} (h : bR v P) (hv : v = 0) : ¬ P := by
  rcases h with ⟨q1, q2⟩ | ⟨q1, q2⟩
  · omega
  · exact q2
noncomputable def trF (g : gV) (p e s : Int) : Int := if s = 1 then g (38 + 5 * p + e) else 9 - g (38 + 5 * p + e)
noncomputable def tkF (g : gV) (p f e s : Int) : Prop := g (5 + 5 * p) = f ∨ askF (g (3 + 5 * p)) (g (4 + 5 * p)) ≤ trF g p e s
noncomputable def frF (g : gV) (p : Int) : Prop := g (7 + 5 * p) = 0 ∧ ∀ w, 0 ≤ w → w < g 2 → g (83 + 5 * w) ≠ p ∧ g (84 + 5 * w) ≠ p
noncomputable def cbF (g : gV) (a b e s : Int) : Prop := frF g a ∧ frF g b ∧ trF g a e s ≤ 4 ∧ tkF g b a e s
noncomputable def wwR (g : gV) (p v : Int) : Prop := (v = -9 ∧ ∀ w, 0 ≤ w → w < g 2 → g (83 + 5 * w) ≠ p ∧ g (84 + 5 * w) ≠ p) ∨ (0 ≤ v ∧ v < g 2 ∧ (g (83 + 5 * v) = p ∨ g (84 + 5 * v) = p) ∧ ∀ w, 0 ≤ w → w < v → g (83 + 5 * w) ≠ p ∧ g (84 + 5 * w) ≠ p)
noncomputable abbrev cmF (g : gV) (e d : Int) : Prop := xrem (wr (d + g (74 + 2 * e))) (g (73 + 2 * e)) = 0
section PU
variable {h h' : fH} {b v : Int} {g g' : gV} {p e w s f d : Int}
theorem WF.per (W : WF g) (h1 : 0 ≤ p) (h2 : p < g 0) : 0 ≤ g (3 + 5 * p) ∧ g (3 + 5 * p) ≤ 5 ∧ 0 ≤ g (4 + 5 * p) ∧ g (4 + 5 * p) ≤ 9 ∧ 0 ≤ g (5 + 5 * p) ∧ g (5 + 5 * p) ≤ 6 ∧ 0 ≤ g (6 + 5 * p) ∧ g (6 + 5 * p) ≤ 99 ∧ 0 ≤ g (7 + 5 * p) ∧ g (7 + 5 * p) ≤ g 0 := W.2.1 p h1 h2
theorem WF.bel (W : WF g) (h1 : 0 ≤ p) (h2 : p < g 0) (h3 : 0 ≤ e) (h4 : e < 5) : 0 ≤ g (38 + 5 * p + e) ∧ g (38 + 5 * p + e) ≤ 9 := W.2.2.1 p e h1 h2 h3 h4
theorem WF.evt (W : WF g) (h3 : 0 ≤ e) (h4 : e < 5) : 1 ≤ g (73 + 2 * e) ∧ g (73 + 2 * e) ≤ 9 ∧ 0 ≤ g (74 + 2 * e) ∧ g (74 + 2 * e) ≤ 8 := W.2.2.2.1 e h3 h4
theorem WF.wag (W : WF g) (h1 : 0 ≤ w) (h2 : w < g 2) : 0 ≤ g (83 + 5 * w) ∧ g (83 + 5 * w) < g 0 ∧ 0 ≤ g (84 + 5 * w) ∧ g (84 + 5 * w) < g 0 ∧ g (83 + 5 * w) ≠ g (84 + 5 * w) ∧ 0 ≤ g (85 + 5 * w) ∧ g (85 + 5 * w) < 5 ∧ 0 ≤ g (86 + 5 * w) ∧ g (86 + 5 * w) ≤ 1 ∧ 1 ≤ g (87 + 5 * w) ∧ g (87 + 5 * w) ≤ 9 ∧ g (7 + 5 * g (83 + 5 * w)) = 0 ∧ g (7 + 5 * g (84 + 5 * w)) = 0 := W.2.2.2.2.1 w h1 h2
theorem xdiv_nn {a c : Int} (h1 : 0 ≤ a) (h2 : a ≤ 2147483647) (h3 : 0 < c) : xdiv a c = a / c := by
  unfold xdiv
  rw [Int.tdiv_eq_ediv_of_nonneg h1]
  have h4 : a / c ≤ a := Int.ediv_le_self c h1
  have h5 : 0 ≤ a / c := Int.ediv_nonneg h1 (by omega)
  exact wr_id (by omega) (by omega)
theorem xrem_nn {a c : Int} (h1 : 0 ≤ a) (h2 : a ≤ 2147483647) (h3 : 0 < c) : xrem a c = a % c := by
  unfold xrem
  rw [Int.tdiv_eq_ediv_of_nonneg h1]
  have h4 : a / c ≤ a := Int.ediv_le_self c h1
  have h5 : 0 ≤ a / c := Int.ediv_nonneg h1 (by omega)
  rw [wr_id (z := a / c) (by omega) (by omega)]
  have h6 : a / c * c + a % c = a := Int.ediv_mul_add_emod a c
  have h7 : 0 ≤ a % c := Int.emod_nonneg a (by omega)
  have h8 : 0 ≤ a / c * c := Int.mul_nonneg h5 (by omega)
  rw [wr_id (z := a / c * c) (by omega) (by omega), wr_id (by omega) (by omega)]
  omega
theorem sc_trust (hs : fS 60 [b, p, e, s] h v h') (hR : RC h b g) (W : WF g) (h1 : 0 ≤ p) (h2 : p < g 0) (h3 : 0 ≤ e) (h4 : e < 5) : h' = h ∧ v = trF g p e s := by
  have hb := W.bel h1 h2 h3 h4
  refine vt_trust hs (fun v h' => h' = h ∧ v = trF g p e s) ⟨?_, ?_⟩
  · intro q z4 e4 z5 e5 z6 e6 z7 e7
    subst e4 e5 e6 e7
    rw [ofm9, hR.bel h1 h2 h3 h4, wr_id (by omega) (by omega)]
    exact ⟨rfl, (if_neg q).symm⟩
  · intro q z4 e4 z5 e5 z6 e6
    subst e4 e5 e6
    rw [ofm9, hR.bel h1 h2 h3 h4]
    exact ⟨rfl, (if_pos q).symm⟩
theorem sr_trustOf (hs : fS 168 [271, p, e, s] h v h') (hR : RM h g) (W : WF g) (h1 : 0 ≤ p) (h2 : p < g 0) (h3 : 0 ≤ e) (h4 : e < 5) : h' = h ∧ v = trF g p e s := by
  have hb := W.bel h1 h2 h3 h4
  have hn := W.bg
  unfold BG at hn
  have hB : h 277 (5 * p + e) = g (38 + 5 * p + e) := by
    rw [hR.bel (by omega) (by omega)]
    exact congrArg g (by omega)
  refine vr_trustOf hs (fun v h' => h' = h ∧ v = trF g p e s) ⟨?_, ?_⟩
  · intro q
    intros
    subst_vars
    simp (disch := omega) only [wr_id]
    rw [hB]
    exact ⟨trivial, (if_neg q).symm⟩
  · intro q
    intros
    subst_vars
    simp (disch := omega) only [wr_id]
    rw [hB]
    exact ⟨trivial, (if_pos rfl).symm⟩
theorem sc_wouldTake (hs : fS 61 [b, p, f, e, s] h v h') (hR : RC h b g) (W : WF g) (h1 : 0 ≤ p) (h2 : p < g 0) (h3 : 0 ≤ e) (h4 : e < 5) : h' = h ∧ bR v (tkF g p f e s) := by
  refine vt_wouldTake hs (fun v h' => h' = h ∧ bR v (tkF g p f e s)) ?_
  intro z5 e5 z6 e6
  subst e5 e6
  rw [hR.wish h1 h2]
  refine ⟨fun q => ⟨rfl, Or.inl ⟨rfl, Or.inl q⟩⟩, fun q v1 h1' hs1 z8 e8 z9 e9 => ?_⟩
  obtain ⟨rfl, rfl⟩ := sc_trust hs1 hR W h1 h2 h3 h4
  subst e8 e9
  rw [hR.ask h1 h2]
  refine ⟨fun q2 => ⟨rfl, Or.inr ⟨rfl, ?_⟩⟩, fun q2 => ⟨rfl, Or.inl ⟨rfl, Or.inr q2⟩⟩⟩
  rintro (q3 | q3)
  · exact q q3
  · omega
theorem sc_wagerWith (hs : fS 59 [b, p] h v h') (hR : RC h b g) (W : WF g) : h' = h ∧ wwR g p v := by
  have hn := W.bg
  unfold BG at hn
  refine vt_wagerWith hs (fun x0 x1 x2 k => x0 = b ∧ x1 = p ∧ k = h ∧ 0 ≤ x2 ∧ x2 ≤ g 2 ∧ ∀ w, 0 ≤ w → w < x2 → g (83 + 5 * w) ≠ p ∧ g (84 + 5 * w) ≠ p) (fun v h' => h' = h ∧ wwR g p v) ⟨rfl, rfl, rfl, by omega, by omega, fun w h1 h2 => by omega⟩ ?_
  rintro x0 x1 x2 k ⟨rfl, rfl, rfl, i1, i2, i3⟩ z3 e3
  subst e3
  rw [hR.opn]
  refine ⟨fun q => ⟨rfl, Or.inl ⟨rfl, fun w h1 h2 => i3 w h1 (by omega)⟩⟩, fun q z4 e4 z5 e5 z6 e6 => ?_⟩
  subst e4 e5 e6
  have w0 := hR.wg i1 q (j := 0) (by omega) (by omega)
  have w1 := hR.wg i1 q (j := 1) (by omega) (by omega)
  rw [show 83 + 5 * x2 + 0 = 83 + 5 * x2 by omega] at w0
  rw [show 83 + 5 * x2 + 1 = 84 + 5 * x2 by omega] at w1
  rw [w0]
  refine ⟨fun q2 => ⟨rfl, Or.inr ⟨i1, q, Or.inl q2, i3⟩⟩, fun q2 z7 e7 z8 e8 z9 e9 => ?_⟩
  subst e7 e8 e9
  rw [w1]
  refine ⟨fun q3 z10 e10 => ?_, fun q3 => ⟨rfl, Or.inr ⟨i1, q, Or.inr q3, i3⟩⟩⟩
  rw [wr_id (by omega) (by omega)] at e10
  subst e10
  refine ⟨rfl, rfl, rfl, by omega, by omega, fun w h1 h2 => ?_⟩
  by_cases hw : w = x2
  · subst hw
    exact ⟨q2, q3⟩
  · exact i3 w h1 (by omega)
theorem sc_isFree (hs : fS 57 [b, p] h v h') (hR : RC h b g) (W : WF g) (h1 : 0 ≤ p) (h2 : p < g 0) : h' = h ∧ bR v (frF g p) := by
  have hw := W.per h1 h2
  refine vt_isFree hs (fun v h' => h' = h ∧ bR v (frF g p)) ?_
  intro z2 e2 z3 e3
  subst e2 e3
  rw [hR.wed h1 h2]
  refine ⟨fun q v1 k hs1 => ?_, fun q => ⟨rfl, Or.inr ⟨rfl, fun q2 => q ?_⟩⟩⟩
  · have q0 : g (7 + 5 * p) = 0 := by
      unfold wedF at q
      split at q <;> omega
    obtain ⟨rfl, hv⟩ := sc_wagerWith hs1 hR W
    refine ⟨fun q2 => ⟨rfl, Or.inr ⟨rfl, fun q3 => ?_⟩⟩, fun q2 => ⟨rfl, Or.inl ⟨rfl, q0, ?_⟩⟩⟩
    · rcases hv with ⟨r1, r2⟩ | ⟨r1, r2, r3, r4⟩
      · omega
      · have := q3.2 v1 r1 r2
        omega
    · rcases hv with ⟨r1, r2⟩ | ⟨r1, r2, r3, r4⟩
      · exact r2
      · omega
  · unfold wedF
    rw [if_pos q2.1]
theorem sc_canBe {a c : Int} (hs : fS 56 [b, a, c, e, s] h v h') (hR : RC h b g) (W : WF g) (h1 : 0 ≤ a) (h2 : a < g 0) (h3 : 0 ≤ c) (h4 : c < g 0) (h5 : 0 ≤ e) (h6 : e < 5) : h' = h ∧ bR v (cbF g a c e s) := by
  refine vt_canBe hs (fun v h' => h' = h ∧ bR v (cbF g a c e s)) ?_
  intro v1 k1 hs1
  obtain ⟨rfl, r1⟩ := sc_isFree hs1 hR W h1 h2
  refine ⟨fun q => ⟨rfl, Or.inr ⟨rfl, fun q2 => r1.f q q2.1⟩⟩, fun q v2 k2 hs2 => ?_⟩
  obtain ⟨rfl, r2⟩ := sc_isFree hs2 hR W h3 h4
  refine ⟨fun q2 => ⟨rfl, Or.inr ⟨rfl, fun q3 => r2.f q2 q3.2.1⟩⟩, fun q2 v3 k3 hs3 => ?_⟩
  obtain ⟨rfl, rfl⟩ := sc_trust hs3 hR W h1 h2 h5 h6
  refine ⟨fun q3 => ⟨rfl, Or.inr ⟨rfl, fun q4 => absurd q4.2.2.1 (by omega)⟩⟩, fun q3 v4 k4 hs4 => ?_⟩
  obtain ⟨rfl, r4⟩ := sc_wouldTake hs4 hR W h3 h4 h5 h6
  exact ⟨fun q4 => ⟨rfl, Or.inr ⟨rfl, fun q5 => r4.f q4 q5.2.2.2⟩⟩, fun q4 => ⟨rfl, Or.inl ⟨rfl, r1.t q, r2.t q2, q3, r4.t q4⟩⟩⟩
end PU
end
section
/-! what small methods of the reference answer; days, weddings, learning -/
section PR
variable {h h' : fH} {b v : Int} {g g' : gV} {p e w s f d : Int}
theorem sr_asksOf (hs : fS 170 [271, p] h v h') (hR : RM h g) (W : WF g) (h1 : 0 ≤ p) (h2 : p < g 0) : h' = h ∧ v = askF (g (3 + 5 * p)) (g (4 + 5 * p)) := by
  have hn := W.bg
  unfold BG at hn
  have hp := W.per h1 h2
  have hk := hR.kind h1 (by omega : p < 7)
  have hf := hR.fig h1 (by omega : p < 7)
  refine vr_asksOf hs (fun v h' => h' = h ∧ v = askF (g (3 + 5 * p)) (g (4 + 5 * p))) ?_
  intro z2 e2
  rw [hk] at e2
  subst e2
  unfold askF
  refine ⟨fun q => ⟨rfl, ?_⟩, fun q => ⟨fun q2 z3 e3 => ⟨rfl, ?_⟩, fun q2 => ⟨fun q3 => ⟨rfl, ?_⟩, fun q3 => ⟨fun q4 z3 e3 z4 e4 z5 e5 => ⟨rfl, ?_⟩, fun q4 => ⟨fun q5 => ⟨rfl, ?_⟩, fun q5 => ⟨rfl, ?_⟩⟩⟩⟩⟩⟩
  · rw [q]; rfl
  · rw [e3, hf, q2]; rfl
  · rw [q3]; rfl
  · rw [hf] at e3
    subst e3
    rw [xdiv_nn (by omega) (by omega) (by omega)] at e4
    subst e4
    rw [wr_id (by omega) (by omega)] at e5
    rw [e5, q4]
    rfl
  · rw [q5]; rfl
  · have : g (3 + 5 * p) = 0 := by omega
    rw [this]; rfl
theorem sr_weeps {kk ff : Int} (hs : fS 176 [271, p] h v h') (hk : h 272 p = kk) (hf : h 273 p = ff) (hk1 : 0 ≤ kk) (hk2 : kk ≤ 5) : h' = h ∧ v = weeF kk ff := by
  refine vr_weepsOf hs (fun v h' => h' = h ∧ v = weeF kk ff) ?_
  intro z2 e2
  rw [hk] at e2
  subst e2
  unfold weeF
  refine ⟨fun q => ⟨rfl, ?_⟩, fun q => ⟨fun q2 => ⟨rfl, ?_⟩, fun q2 => ⟨fun q3 => ⟨rfl, ?_⟩, fun q3 => ⟨fun q4 => ⟨rfl, ?_⟩, fun q4 => ⟨fun q5 z3 e3 => ⟨rfl, ?_⟩, fun q5 => ⟨rfl, ?_⟩⟩⟩⟩⟩⟩
  · rw [q]; rfl
  · rw [q2]; rfl
  · rw [q3]; rfl
  · rw [q4]; rfl
  · rw [e3, hf, q5]; rfl
  · have : z2 = 0 := by omega
    rw [this]; rfl
theorem sr_isTaking (hs : fS 169 [271, p, f, e, s] h v h') (hR : RM h g) (W : WF g) (h1 : 0 ≤ p) (h2 : p < g 0) (h3 : 0 ≤ e) (h4 : e < 5) : h' = h ∧ bR v (tkF g p f e s) := by
  have hn := W.bg
  unfold BG at hn
  refine vr_isTaking hs (fun v h' => h' = h ∧ bR v (tkF g p f e s)) ?_
  intro z5 e5
  rw [hR.wish h1 (by omega)] at e5
  subst e5
  refine ⟨fun q => ⟨rfl, Or.inl ⟨rfl, Or.inl q⟩⟩, fun q v1 k1 hs1 v2 k2 hs2 => ?_⟩
  obtain ⟨rfl, rfl⟩ := sr_trustOf hs1 hR W h1 h2 h3 h4
  obtain ⟨rfl, rfl⟩ := sr_asksOf hs2 hR W h1 h2
  refine ⟨fun q2 => ⟨rfl, Or.inr ⟨rfl, ?_⟩⟩, fun q2 => ⟨rfl, Or.inl ⟨rfl, Or.inr q2⟩⟩⟩
  rintro (q3 | q3)
  · exact q q3
  · omega
theorem sr_isFree (hs : fS 167 [271, p] h v h') (hR : RM h g) (W : WF g) (h1 : 0 ≤ p) (h2 : p < g 0) : h' = h ∧ bR v (frF g p) := by
  have hn := W.bg
  unfold BG at hn
  refine vr_isFree hs (fun x0 x1 x2 x3 k => x0 = 271 ∧ x1 = p ∧ k = h ∧ 0 ≤ x3 ∧ x3 ≤ g 2 ∧ bR x2 (g (7 + 5 * p) = 0 ∧ ∀ w, 0 ≤ w → w < x3 → g (83 + 5 * w) ≠ p ∧ g (84 + 5 * w) ≠ p)) (fun v h' => h' = h ∧ bR v (frF g p)) ?_ ?_
  · intro z2 e2
    rw [hR.wed h1 (by omega)] at e2
    subst e2
    exact ⟨fun q => ⟨rfl, rfl, rfl, by omega, by omega, Or.inr ⟨rfl, fun q2 => q q2.1⟩⟩, fun q => ⟨rfl, rfl, rfl, by omega, by omega, Or.inl ⟨rfl, q, fun w h1 h2 => by omega⟩⟩⟩
  · rintro x0 x1 x2 x3 k ⟨rfl, rfl, rfl, i1, i2, i3⟩ z4 e4
    rw [hR.opn] at e4
    subst e4
    have hup : ∀ w, 0 ≤ w → w < x3 + 1 → w < x3 ∨ w = x3 := fun w _ _ => by omega
    refine ⟨fun q => ⟨rfl, ?_⟩, fun q => ⟨fun q2 z5 e5 => ?_, fun q2 z5 e5 => ?_⟩⟩
    · have : x3 = g 2 := by omega
      subst this
      exact i3
    · rw [wr_id (by omega) (by omega)] at e5
      subst e5
      exact ⟨rfl, rfl, rfl, by omega, by omega, Or.inr ⟨rfl, fun q3 => i3.f q2 ⟨q3.1, fun w h1 h2 => q3.2 w h1 (by omega)⟩⟩⟩
    · rw [hR.w0 i1 (by omega)] at e5
      subst e5
      refine ⟨fun q3 z6 e6 => ?_, fun q3 z6 e6 => ?_⟩
      · rw [wr_id (by omega) (by omega)] at e6
        subst e6
        exact ⟨rfl, rfl, rfl, by omega, by omega, Or.inr ⟨rfl, fun q4 => (q4.2 x3 i1 (by omega)).1 q3⟩⟩
      · rw [hR.w1 i1 (by omega)] at e6
        subst e6
        refine ⟨fun q4 z7 e7 => ?_, fun q4 z7 e7 => ?_⟩
        · rw [wr_id (by omega) (by omega)] at e7
          subst e7
          exact ⟨rfl, rfl, rfl, by omega, by omega, Or.inr ⟨rfl, fun q5 => (q5.2 x3 i1 (by omega)).2 q4⟩⟩
        · rw [wr_id (by omega) (by omega)] at e7
          subst e7
          have i4 := i3.t q2
          refine ⟨rfl, rfl, rfl, by omega, by omega, Or.inl ⟨rfl, i4.1, fun w h1 h2 => ?_⟩⟩
          rcases hup w h1 h2 with r | r
          · exact i4.2 w h1 r
          · rw [r]
            exact ⟨q3, q4⟩
theorem sr_couldBe {a c : Int} (hs : fS 166 [271, a, c, e, s] h v h') (hR : RM h g) (W : WF g) (h1 : 0 ≤ a) (h2 : a < g 0) (h3 : 0 ≤ c) (h4 : c < g 0) (h5 : 0 ≤ e) (h6 : e < 5) : h' = h ∧ bR v (cbF g a c e s) := by
  refine vr_couldBe hs (fun v h' => h' = h ∧ bR v (cbF g a c e s)) ?_
  intro v1 k1 hs1
  obtain ⟨rfl, r1⟩ := sr_isFree hs1 hR W h1 h2
  refine ⟨fun q => ⟨rfl, Or.inr ⟨rfl, fun q2 => r1.f q q2.1⟩⟩, fun q v2 k2 hs2 => ?_⟩
  obtain ⟨rfl, r2⟩ := sr_isFree hs2 hR W h3 h4
  refine ⟨fun q2 => ⟨rfl, Or.inr ⟨rfl, fun q3 => r2.f q2 q3.2.1⟩⟩, fun q2 v3 k3 hs3 => ?_⟩
  obtain ⟨rfl, rfl⟩ := sr_trustOf hs3 hR W h1 h2 h5 h6
  refine ⟨fun q3 => ⟨rfl, Or.inr ⟨rfl, fun q4 => absurd q4.2.2.1 (by omega)⟩⟩, fun q3 v4 k4 hs4 => ?_⟩
  obtain ⟨rfl, r4⟩ := sr_isTaking hs4 hR W h3 h4 h5 h6
  exact ⟨fun q4 => ⟨rfl, Or.inr ⟨rfl, fun q5 => r4.f q4 q5.2.2.2⟩⟩, fun q4 => ⟨rfl, Or.inl ⟨rfl, r1.t q, r2.t q2, q3, r4.t q4⟩⟩⟩
theorem sr_held {a c : Int} (hs : fS 177 [a, c] h v h') : h' = h ∧ v = (if a < 0 then 0 else if c < a then c else a) := by
  refine vr_held hs (fun v h' => h' = h ∧ v = (if a < 0 then 0 else if c < a then c else a)) ⟨fun q => ⟨fun q2 => ⟨rfl, ?_⟩, fun q2 => ⟨rfl, ?_⟩⟩, fun q => ⟨rfl, ?_⟩⟩
  · rw [if_neg (by omega), if_neg (by omega)]
  · rw [if_neg (by omega), if_pos q2]
  · rw [if_pos q]
end PR
end
section
/-! a day: wagers come out, beliefs learn -/
noncomputable def dropF (g : gV) (w : Int) : gV := fun i => if i = 2 then g 2 - 1 else if 83 + 5 * w ≤ i ∧ i < 83 + 5 * (g 2 - 1) then g (i + 5) else g i
noncomputable def tearF (g : gV) (p : Int) : Int := if 99 < g (6 + 5 * p) + weeF (g (3 + 5 * p)) (g (4 + 5 * p)) then 99 else g (6 + 5 * p) + weeF (g (3 + 5 * p)) (g (4 + 5 * p))
noncomputable def weddF (g : gV) (a c : Int) : gV := gu (gu (gu (gu g (7 + 5 * a) (c + 1)) (7 + 5 * c) (a + 1)) (6 + 5 * a) (tearF g a)) (6 + 5 * c) (tearF g c)
noncomputable def lnF (c : Bool) (x y : Int) : Int := match c with
  | true => if 9 < x + y then 9 else x + y
  | false => if x - y < 0 then 0 else x - y
noncomputable def outF (H : Int → Bool) : Nat → Int → gV → gV
  | 0, _, g => g
  | n + 1, w, g => if 0 < g (87 + 5 * w) - 1 then outF H n (w + 1) (gu g (87 + 5 * w) (g (87 + 5 * w) - 1)) else outF H n w (dropF (if H (g (85 + 5 * w)) = true ↔ g (86 + 5 * w) = 1 then gu g (87 + 5 * w) (g (87 + 5 * w) - 1) else weddF (gu g (87 + 5 * w) (g (87 + 5 * w) - 1)) (g (83 + 5 * w)) (g (84 + 5 * w))) w)
noncomputable def learnF (H : Int → Bool) (g : gV) : gV := fun i => if 38 ≤ i ∧ i < 38 + 5 * g 0 then lnF (H ((i - 38) % 5)) (g i) (lrnF (g (3 + 5 * ((i - 38) / 5)))) else g i
noncomputable def hapF (g : gV) (d : Int) : Int → Bool := fun e => decide (cmF g e d)
noncomputable def dayF (g : gV) : gV := learnF (hapF g (g 1 + 1)) (outF (hapF g (g 1 + 1)) (g 2).toNat 0 (gu g 1 (g 1 + 1)))
/-- only the reference's town has changed -/
noncomputable def frM (h h' : fH) : Prop := ∀ c k, (c < 271 ∨ 284 < c ∨ (c = 271 ∧ k ≠ 0 ∧ k ≠ 15 ∧ k ≠ 9)) → h' c k = h c k
/-- only the town at b has changed -/
noncomputable def frC (b : Int) (h h' : fH) : Prop := ∀ c k, (c < b ∨ b + 22 < c) → h' c k = h c k
section DY
variable {h h' h1 h2 : fH} {b v : Int} {g g' : gV} {p e w s f d z c k : Int} {H : Int → Bool}
theorem frM.rf (h : fH) : frM h h := fun _ _ _ => rfl
theorem frM.tr (a : frM h h1) (b : frM h1 h2) : frM h h2 := fun c k q => (b c k q).trans (a c k q)
theorem frM.up (a : frM h h1) (hc : 271 ≤ c ∧ c ≤ 284 ∧ (c = 271 → k = 0 ∨ k = 15 ∨ k = 9)) : frM h (fu h1 c k z) := fun c' k' q => by
  rw [← a c' k' q]
  unfold fu
  rw [if_neg]
  omega
theorem frC.rf (b : Int) (h : fH) : frC b h h := fun _ _ _ => rfl
theorem frC.tr (a : frC b h h1) (c : frC b h1 h2) : frC b h h2 := fun x k q => (c x k q).trans (a x k q)
theorem frC.up (a : frC b h h1) (hc : b ≤ c ∧ c ≤ b + 22) : frC b h (fu h1 c k z) := fun c' k' q => by
  rw [← a c' k' q]
  exact fu_c (by omega)
theorem RM_ext (hR : RM h g) (he : ∀ i, 0 ≤ i → i < 113 → g i = g' i) : RM h g' := fun i h1 h2 => (hR i h1 h2).trans (he i h1 h2)
theorem RC_frC {b' : Int} (hR : RC h b g) (hB : BG g) (hf : frC b' h h') (hb : b + 22 < b' ∨ b' + 22 < b) : RC h' b g := RC_cg hR hB (fun c k h1 h2 => hf c k (by omega))
/-- a town of the class speaks only of what there is -/
theorem RC_ext (hR : RC h b g) (hB : BG g) (e0 : g' 0 = g 0) (e1 : g' 1 = g 1) (e2 : g' 2 = g 2) (hp : ∀ i, 3 ≤ i → i < 3 + 5 * g 0 → g' i = g i) (hb : ∀ i, 38 ≤ i → i < 38 + 5 * g 0 → g' i = g i) (he : ∀ i, 73 ≤ i → i < 83 → g' i = g i) (hw : ∀ i, 83 ≤ i → i < 83 + 5 * g 2 → g' i = g i) : RC h b g' := by
  unfold BG at hB
  refine ⟨⟨by rw [e0]; exact hR.many, by rw [e1]; exact hR.day, by rw [e2]; exact hR.opn⟩, fun q h3 h4 => ?_, fun q e h3 h4 h5 h6 => ?_, fun e h3 h4 => ?_, fun w j h3 h4 h5 h6 => ?_, hR.2.2.2.2.2.1, hR.2.2.2.2.2.2⟩
  · rw [e0] at h4
    rw [hp _ (by omega) (by omega), hp _ (by omega) (by omega), hp _ (by omega) (by omega), hp _ (by omega) (by omega), hp _ (by omega) (by omega)]
    exact hR.2.1 q h3 h4
  · rw [e0] at h4
    rw [hb _ (by omega) (by omega)]
    exact hR.bel h3 h4 h5 h6
  · rw [he _ (by omega) (by omega), he _ (by omega) (by omega)]
    exact hR.2.2.2.1 e h3 h4
  · rw [e2] at h4
    rw [hw _ (by omega) (by omega)]
    exact hR.wg h3 h4 h5 h6
theorem sr_dropWager (hs : fS 178 [271, w] h v h') (hR : RM h g) (h1 : 0 ≤ w) (h2 : w < g 2) (h3 : g 2 ≤ 6) : RM h' (dropF g w) ∧ frM h h' := by
  refine vr_dropWager hs (fun x0 x2 k => x0 = 271 ∧ w ≤ x2 ∧ x2 ≤ g 2 - 1 ∧ RM k (fun i => if i = 2 then g 2 - 1 else if 83 + 5 * w ≤ i ∧ i < 83 + 5 * x2 then g (i + 5) else g i) ∧ frM h k) (fun v h' => RM h' (dropF g w) ∧ frM h h') ?_ ?_
  · intro z2 e2 z3 e3 k1 ek
    rw [hR.opn] at e2
    subst e2
    rw [wr_id (by omega) (by omega)] at e3
    subst e3
    subst ek
    refine ⟨rfl, by omega, by omega, RM_ext hR.u_open (fun i i1 i2 => ?_), (frM.rf h).up (by omega)⟩
    by_cases hi : i = 2
    · subst hi
      rw [gu_e rfl, if_pos rfl]
    · rw [gu_n hi, if_neg hi, if_neg (by omega)]
  · rintro x0 x2 k ⟨rfl, i1, i2, i3, i4⟩ z2 e2
    have e0 := i3.opn
    rw [if_pos rfl] at e0
    rw [e0] at e2
    subst e2
    refine ⟨fun q => ⟨RM_ext i3 (fun i j1 j2 => ?_), i4⟩, fun q => ?_⟩
    · have : x2 = g 2 - 1 := by omega
      subst this
      rfl
    · intro z3 e3 z4 e4 k1 ek1 z5 e5 z6 e6 k2 ek2 z7 e7 z8 e8 k3 ek3 z9 e9 z10 e10 k4 ek4 z11 e11 z12 e12 k5 ek5 z13 e13
      rw [wr_id (by omega) (by omega)] at e3 e5 e7 e9 e11 e13
      subst e3 e5 e7 e9 e11 e13
      rw [i3.w0 (by omega) (by omega)] at e4
      have r1 := i3.u_w0 (w := x2) (z := z4) (by omega) (by omega)
      rw [← ek1] at r1
      rw [r1.w1 (by omega) (by omega)] at e6
      have r2 := r1.u_w1 (w := x2) (z := z6) (by omega) (by omega)
      rw [← ek2] at r2
      rw [r2.w2 (by omega) (by omega)] at e8
      have r3 := r2.u_w2 (w := x2) (z := z8) (by omega) (by omega)
      rw [← ek3] at r3
      rw [r3.w3 (by omega) (by omega)] at e10
      have r4 := r3.u_w3 (w := x2) (z := z10) (by omega) (by omega)
      rw [← ek4] at r4
      rw [r4.w4 (by omega) (by omega)] at e12
      have r5 := r4.u_w4 (w := x2) (z := z12) (by omega) (by omega)
      rw [← ek5] at r5
      refine ⟨rfl, by omega, by omega, RM_ext r5 (fun i j1 j2 => ?_), ?_⟩
      · simp (disch := omega) only [gu_n, if_neg] at e4 e6 e8 e10 e12
        by_cases c0 : i = 83 + 5 * x2
        · subst c0
          simp (disch := omega) only [gu_n, gu_e, if_neg, if_pos]
          rw [e4]
          exact congrArg g (by omega)
        · by_cases c1 : i = 84 + 5 * x2
          · subst c1
            simp (disch := omega) only [gu_n, gu_e, if_neg, if_pos]
            rw [e6]
            exact congrArg g (by omega)
          · by_cases c2 : i = 85 + 5 * x2
            · subst c2
              simp (disch := omega) only [gu_n, gu_e, if_neg, if_pos]
              rw [e8]
              exact congrArg g (by omega)
            · by_cases c3 : i = 86 + 5 * x2
              · subst c3
                simp (disch := omega) only [gu_n, gu_e, if_neg, if_pos]
                rw [e10]
                exact congrArg g (by omega)
              · by_cases c4 : i = 87 + 5 * x2
                · subst c4
                  simp (disch := omega) only [gu_n, gu_e, if_neg, if_pos]
                  rw [e12]
                  exact congrArg g (by omega)
                · simp (disch := omega) only [gu_n]
                  by_cases d0 : i = 2
                  · rw [if_pos d0, if_pos d0]
                  · rw [if_neg d0, if_neg d0]
                    by_cases d1 : 83 + 5 * w ≤ i ∧ i < 83 + 5 * x2
                    · rw [if_pos d1, if_pos (by omega)]
                    · rw [if_neg d1, if_neg (by omega)]
      · rw [ek5, ek4, ek3, ek2, ek1]
        exact ((((i4.up (by omega)).up (by omega)).up (by omega)).up (by omega)).up (by omega)
theorem sc_close (hs : fS 70 [b, w] h v h') (hR : RC h b g) (hB : BG g) (h1 : 0 ≤ w) (h2 : w < g 2) : RC h' b (dropF g w) ∧ frC b h h' := by
  unfold BG at hB
  have e19 : b + 19 ≠ b := by omega
  refine vt_close hs (fun x0 x2 x3 k => x0 = b ∧ x2 = h (b + 19) w ∧ w + 1 ≤ x3 ∧ x3 ≤ g 2 ∧ (∀ c j, c ≠ b + 19 → k c j = h c j) ∧ (∀ j, k (b + 19) j = if w ≤ j ∧ j < x3 - 1 then h (b + 19) (j + 1) else h (b + 19) j)) (fun v h' => RC h' b (dropF g w) ∧ frC b h h') ?_ ?_
  · intro z2 e2 z3 e3 z4 e4
    subst e2
    rw [wr_id (by omega) (by omega)] at e4
    subst e4
    refine ⟨rfl, e3, by omega, by omega, fun _ _ _ => rfl, fun j => ?_⟩
    rw [if_neg (by omega)]
  · rintro x0 x2 x3 k ⟨rfl, i1, i2, i3, i4, i5⟩ z3 e3
    rw [i4 _ _ (Ne.symm e19), hR.opn] at e3
    subst e3
    refine ⟨fun q z4 e4 z5 e5 k1 ek1 z6 e6 z7 e7 k2 ek2 => ?_, fun q z4 e4 z5 e5 z6 e6 z7 e7 k1 ek1 z8 e8 => ?_⟩
    · have hx : x3 = g 2 := by omega
      subst hx
      rw [i4 _ _ (Ne.symm e19), hR.opn] at e4
      subst e4
      rw [wr_id (by omega) (by omega)] at e5
      subst e5
      subst e6
      rw [ek1, fu_e rfl rfl] at e7
      subst e7
      -- the cells behind
      have hA : ∀ j, k2 (x0 + 19) j = h (x0 + 19) (if w ≤ j ∧ j < g 2 - 1 then j + 1 else if j = g 2 - 1 then w else j) := fun j => by
        rw [ek2]
        by_cases hj : j = g 2 - 1
        · rw [fu_e rfl hj, i1, if_neg (by omega), if_pos hj]
        · rw [fu_k hj, ek1, fu_c e19, i5]
          by_cases hj2 : w ≤ j ∧ j < g 2 - 1
          · rw [if_pos hj2, if_pos hj2]
          · rw [if_neg hj2, if_neg hj2, if_neg hj]
      have hO : ∀ c j, c ≠ x0 + 19 → (c = x0 → j ≠ 14) → k2 c j = h c j := fun c j c1 c2 => by
        rw [ek2, fu_c c1, ek1]
        by_cases hc : c = x0
        · rw [fu_k (c2 hc), i4 _ _ c1]
        · rw [fu_c hc, i4 _ _ c1]
      have h14 : k2 x0 14 = g 2 - 1 := by
        rw [ek2, fu_c (by omega), ek1, fu_e rfl rfl]
      have hin : ∀ j, 0 ≤ j → j < 3 → 0 ≤ (if w ≤ j ∧ j < g 2 - 1 then j + 1 else if j = g 2 - 1 then w else j) ∧ (if w ≤ j ∧ j < g 2 - 1 then j + 1 else if j = g 2 - 1 then w else j) < 3 := fun j j1 j2 => by
        split
        · omega
        · split <;> omega
      refine ⟨⟨⟨?_, ?_, ?_⟩, fun q h3 h4 => ?_, fun q e h3 h4 h5 h6 => ?_, fun e h3 h4 => ?_, fun x j h3 h4 h5 h6 => ?_, fun x h3 h4 => ?_, fun x x' h3 h4 h5 => ?_⟩, fun c j hc => hO c j (by omega) (by omega)⟩
      · rw [hO _ _ (by omega) (by omega), hR.many]
        unfold dropF
        rw [if_neg (by omega), if_neg (by omega)]
      · rw [hO _ _ (by omega) (by omega), hR.day]
        unfold dropF
        rw [if_neg (by omega), if_neg (by omega)]
      · rw [h14]
        unfold dropF
        rw [if_pos rfl]
      · have d0 : dropF g w 0 = g 0 := by
          unfold dropF
          rw [if_neg (by omega), if_neg (by omega)]
        rw [d0] at h4
        have dd : ∀ i, 3 ≤ i → i < 83 → dropF g w i = g i := fun i j1 j2 => by
          unfold dropF
          rw [if_neg (by omega), if_neg (by omega)]
        rw [dd _ (by omega) (by omega), dd _ (by omega) (by omega), dd _ (by omega) (by omega), dd _ (by omega) (by omega), dd _ (by omega) (by omega)]
        rw [hO (x0 + 1) _ (by omega) (by omega), hO (x0 + 2) _ (by omega) (by omega), hO (x0 + 3) _ (by omega) (by omega), hO (x0 + 4) _ (by omega) (by omega), hO (x0 + 5) _ (by omega) (by omega), hO (x0 + 6) _ (by omega) (by omega), hO (x0 + 7) _ (by omega) (by omega), hO (x0 + 8) _ (by omega) (by omega)]
        exact hR.2.1 q h3 h4
      · have d0 : dropF g w 0 = g 0 := by
          unfold dropF
          rw [if_neg (by omega), if_neg (by omega)]
        rw [d0] at h4
        rw [hO _ _ (by omega) (by omega), hR.bel h3 h4 h5 h6]
        unfold dropF
        rw [if_neg (by omega), if_neg (by omega)]
      · have dd : ∀ i, 3 ≤ i → i < 83 → dropF g w i = g i := fun i j1 j2 => by
          unfold dropF
          rw [if_neg (by omega), if_neg (by omega)]
        rw [hO (x0 + 17) _ (by omega) (by omega), hO (x0 + 18) _ (by omega) (by omega), dd _ (by omega) (by omega), dd _ (by omega) (by omega)]
        exact hR.2.2.2.1 e h3 h4
      · have d2 : dropF g w 2 = g 2 - 1 := by
          unfold dropF
          rw [if_pos rfl]
        rw [d2] at h4
        rw [hA]
        by_cases hx : w ≤ x ∧ x < g 2 - 1
        · rw [if_pos hx]
          have hw := hR.wr (w := x + 1) (by omega) (by omega)
          rw [hO _ _ (by omega) (by omega), hR.wg (by omega) (by omega) h5 h6]
          unfold dropF
          rw [if_neg (by omega), if_pos (by omega)]
          exact congrArg g (by omega)
        · rw [if_neg hx, if_neg (by omega)]
          have hw := hR.wr (w := x) (by omega) (by omega)
          rw [hO _ _ (by omega) (by omega), hR.wg (by omega) (by omega) h5 h6]
          unfold dropF
          rw [if_neg (by omega), if_neg (by omega)]
      · rw [hA]
        obtain ⟨n1, n2⟩ := hin x h3 h4
        exact hR.wr n1 n2
      · rw [hA, hA]
        obtain ⟨n1, n2⟩ := hin x h3 (by omega)
        obtain ⟨n3, n4⟩ := hin x' (by omega) h5
        refine hR.wn n1 n2 n3 n4 ?_
        clear n1 n2 n3 n4 hin hA
        repeat' (first | omega | split)
    · subst e4
      subst e6
      rw [wr_id (by omega) (by omega)] at e5 e8
      subst e5
      subst e8
      refine ⟨rfl, i1, by omega, by omega, fun c j hc => ?_, fun j => ?_⟩
      · rw [ek1, fu_c hc]
        exact i4 c j hc
      · rw [ek1]
        rw [i5, if_neg (by omega)] at e7
        by_cases hj : j = x3 - 1
        · rw [fu_e rfl hj, e7, if_pos (by omega), hj]
          exact congrArg _ (by omega)
        · rw [fu_k hj, i5]
          by_cases hj2 : w ≤ j ∧ j < x3 - 1
          · rw [if_pos hj2, if_pos (by omega)]
          · rw [if_neg hj2, if_neg (by omega)]
end DY
end
section
/-! weddings; wagers that come out -/
theorem wee_b {k f : Int} (h1 : 0 ≤ f) (h2 : f ≤ 9) : 0 ≤ weeF k f ∧ weeF k f ≤ 10 := by
  unfold weeF
  split
  · omega
  · split
    · omega
    · split
      · omega
      · split
        · omega
        · split <;> omega
theorem tear_b {g : gV} {p : Int} (h1 : 0 ≤ g (4 + 5 * p)) (h2 : g (4 + 5 * p) ≤ 9) (h3 : 0 ≤ g (6 + 5 * p)) : 0 ≤ tearF g p ∧ tearF g p ≤ 99 := by
  have := wee_b (k := g (3 + 5 * p)) h1 h2
  unfold tearF
  split <;> omega
theorem tear_eq {g g' : gV} {p : Int} (e3 : g' (3 + 5 * p) = g (3 + 5 * p)) (e4 : g' (4 + 5 * p) = g (4 + 5 * p)) (e6 : g' (6 + 5 * p) = g (6 + 5 * p)) : tearF g' p = tearF g p := by
  unfold tearF
  rw [e3, e4, e6]
theorem BG_gu {g : gV} {i z : Int} (hB : BG g) (hi : 3 ≤ i) : BG (gu g i z) := by
  unfold BG at *
  rw [gu_n (by omega), gu_n (by omega)]
  exact hB
section OU
variable {h h' h1 h2 : fH} {b v : Int} {g g' : gV} {p e w s f d z c k a : Int} {H : Int → Bool}
theorem sc_withMore (hs : fS 69 [b, p] h v h') (hR : RC h b g) (h1 : 0 ≤ p) (h2 : p < g 0) (h3 : 0 ≤ g (4 + 5 * p)) (h4 : g (4 + 5 * p) ≤ 9) (h5 : 0 ≤ g (6 + 5 * p)) (h6 : g (6 + 5 * p) ≤ 99) : h' = h ∧ v = tearF g p := by
  have hw := wee_b (k := g (3 + 5 * p)) h3 h4
  refine vt_withMore hs (fun v h' => h' = h ∧ v = tearF g p) ?_
  intro z2 e2 z3 e3 z4 e4 z5 e5 z6 e6 z7 e7
  subst e2 e4
  rw [hR.tears h1 h2] at e3
  rw [hR.wee h1 h2] at e5
  subst e3 e5
  rw [wr_id (by omega) (by omega)] at e6
  subst e6
  refine ⟨rfl, ?_⟩
  rw [e7]
  unfold xmin tearF
  split <;> split <;> omega
theorem sc_marry (hs : fS 68 [b, a, c] h v h') (hR : RC h b g) (hB : BG g) (pa : 0 ≤ g (3 + 5 * a) ∧ g (3 + 5 * a) ≤ 5 ∧ 0 ≤ g (4 + 5 * a) ∧ g (4 + 5 * a) ≤ 9 ∧ 0 ≤ g (5 + 5 * a) ∧ g (5 + 5 * a) ≤ 6 ∧ 0 ≤ g (6 + 5 * a) ∧ g (6 + 5 * a) ≤ 99 ∧ 0 ≤ g (7 + 5 * a) ∧ g (7 + 5 * a) ≤ g 0) (pc : 0 ≤ g (3 + 5 * c) ∧ g (3 + 5 * c) ≤ 5 ∧ 0 ≤ g (4 + 5 * c) ∧ g (4 + 5 * c) ≤ 9 ∧ 0 ≤ g (5 + 5 * c) ∧ g (5 + 5 * c) ≤ 6 ∧ 0 ≤ g (6 + 5 * c) ∧ g (6 + 5 * c) ≤ 99 ∧ 0 ≤ g (7 + 5 * c) ∧ g (7 + 5 * c) ≤ g 0) (h1 : 0 ≤ a) (h2 : a < g 0) (h3 : 0 ≤ c) (h4 : c < g 0) (hne : a ≠ c) : RC h' b (weddF g a c) ∧ frC b h h' := by
  refine vt_marry hs (fun v h' => RC h' b (weddF g a c) ∧ frC b h h') ?_
  intro z3 e3 k1 ek1 z4 e4 k2 ek2 z5 e5 v3 k3 hs3 k4 ek4 z7 e7 v5 k5 hs5 k6 ek6
  subst e3 e4 e5 e7
  have r1 : RC k1 b (gu g (7 + 5 * a) (c + 1)) := by
    rw [ek1]
    exact hR.u_wed hB (c + 1) (by unfold wedF; split <;> omega) h1 h2
  have B1 := BG_gu (i := 7 + 5 * a) (z := c + 1) hB (by omega)
  have r2 : RC k2 b (gu (gu g (7 + 5 * a) (c + 1)) (7 + 5 * c) (a + 1)) := by
    rw [ek2]
    exact r1.u_wed B1 (a + 1) (by unfold wedF; split <;> omega) h3 (by rw [gu_n (by omega)]; exact h4)
  have B2 := BG_gu (i := 7 + 5 * c) (z := a + 1) B1 (by omega)
  obtain ⟨rfl, ev3⟩ := sc_withMore hs3 r2 h1 (by rw [gu_n (by omega), gu_n (by omega)]; exact h2) (by rw [gu_n (by omega), gu_n (by omega)]; omega) (by rw [gu_n (by omega), gu_n (by omega)]; omega) (by rw [gu_n (by omega), gu_n (by omega)]; omega) (by rw [gu_n (by omega), gu_n (by omega)]; omega)
  rw [tear_eq (g := g) (by rw [gu_n (by omega), gu_n (by omega)]) (by rw [gu_n (by omega), gu_n (by omega)]) (by rw [gu_n (by omega), gu_n (by omega)])] at ev3
  have r4 : RC k4 b (gu (gu (gu g (7 + 5 * a) (c + 1)) (7 + 5 * c) (a + 1)) (6 + 5 * a) (tearF g a)) := by
    rw [ek4, ev3]
    exact r2.u_tears B2 h1 (by rw [gu_n (by omega), gu_n (by omega)]; exact h2)
  have B4 := BG_gu (i := 6 + 5 * a) (z := tearF g a) B2 (by omega)
  obtain ⟨rfl, ev5⟩ := sc_withMore hs5 r4 h3 (by rw [gu_n (by omega), gu_n (by omega), gu_n (by omega)]; exact h4) (by rw [gu_n (by omega), gu_n (by omega), gu_n (by omega)]; omega) (by rw [gu_n (by omega), gu_n (by omega), gu_n (by omega)]; omega) (by rw [gu_n (by omega), gu_n (by omega), gu_n (by omega)]; omega) (by rw [gu_n (by omega), gu_n (by omega), gu_n (by omega)]; omega)
  rw [tear_eq (g := g) (by rw [gu_n (by omega), gu_n (by omega), gu_n (by omega)]) (by rw [gu_n (by omega), gu_n (by omega), gu_n (by omega)]) (by rw [gu_n (by omega), gu_n (by omega), gu_n (by omega)])] at ev5
  refine ⟨?_, ?_⟩
  · rw [ek6, ev5]
    exact r4.u_tears B4 h3 (by rw [gu_n (by omega), gu_n (by omega), gu_n (by omega)]; exact h4)
  · rw [ek6, ek4, ek2, ek1]
    exact ((((frC.rf b h).up (by omega)).up (by omega)).up (by omega)).up (by omega)
theorem sr_wed (hs : fS 175 [271, a, c] h v h') (hR : RM h g) (hB : BG g) (pa : 0 ≤ g (3 + 5 * a) ∧ g (3 + 5 * a) ≤ 5 ∧ 0 ≤ g (4 + 5 * a) ∧ g (4 + 5 * a) ≤ 9 ∧ 0 ≤ g (5 + 5 * a) ∧ g (5 + 5 * a) ≤ 6 ∧ 0 ≤ g (6 + 5 * a) ∧ g (6 + 5 * a) ≤ 99 ∧ 0 ≤ g (7 + 5 * a) ∧ g (7 + 5 * a) ≤ g 0) (pc : 0 ≤ g (3 + 5 * c) ∧ g (3 + 5 * c) ≤ 5 ∧ 0 ≤ g (4 + 5 * c) ∧ g (4 + 5 * c) ≤ 9 ∧ 0 ≤ g (5 + 5 * c) ∧ g (5 + 5 * c) ≤ 6 ∧ 0 ≤ g (6 + 5 * c) ∧ g (6 + 5 * c) ≤ 99 ∧ 0 ≤ g (7 + 5 * c) ∧ g (7 + 5 * c) ≤ g 0) (h1 : 0 ≤ a) (h2 : a < g 0) (h3 : 0 ≤ c) (h4 : c < g 0) (hne : a ≠ c) : RM h' (weddF g a c) ∧ frM h h' := by
  unfold BG at hB
  have wa := wee_b (k := g (3 + 5 * a)) (f := g (4 + 5 * a)) (by omega) (by omega)
  have wc := wee_b (k := g (3 + 5 * c)) (f := g (4 + 5 * c)) (by omega) (by omega)
  refine vr_wed hs (fun v h' => RM h' (weddF g a c) ∧ frM h h') ?_
  intro z3 e3 k1 ek1 z4 e4 k2 ek2 z5 e5 v3 k3 hs3 z7 e7 v4 k4 hs4 k5 ek5 z9 e9 v6 k6 hs6 z11 e11 v7 k7 hs7 k8 ek8
  rw [wr_id (by omega) (by omega)] at e3 e4
  subst e3 e4
  have r1 : RM k1 (gu g (7 + 5 * a) (c + 1)) := by
    rw [ek1]
    exact hR.u_wed h1 (by omega)
  have r2 : RM k2 (gu (gu g (7 + 5 * a) (c + 1)) (7 + 5 * c) (a + 1)) := by
    rw [ek2]
    exact r1.u_wed h3 (by omega)
  have hk3 : k3 = k2 ∧ v3 = weeF (g (3 + 5 * a)) (g (4 + 5 * a)) := by
    have q1 := r2.kind h1 (by omega : a < 7)
    have q2 := r2.fig h1 (by omega : a < 7)
    rw [gu_n (by omega), gu_n (by omega)] at q1 q2
    exact sr_weeps hs3 q1 q2 (by omega) (by omega)
  obtain ⟨rfl, rfl⟩ := hk3
  rw [r2.tears h1 (by omega), gu_n (by omega), gu_n (by omega)] at e5
  subst e5
  rw [wr_id (by omega) (by omega)] at e7
  obtain ⟨rfl, ev4⟩ := sr_held hs4
  have t4 : v4 = tearF g a := by
    rw [ev4, e7]
    unfold tearF
    rw [if_neg (by omega)]
  have r5 : RM k5 (gu (gu (gu g (7 + 5 * a) (c + 1)) (7 + 5 * c) (a + 1)) (6 + 5 * a) (tearF g a)) := by
    rw [ek5, t4]
    exact r2.u_tears h1 (by omega)
  have hk6 : k6 = k5 ∧ v6 = weeF (g (3 + 5 * c)) (g (4 + 5 * c)) := by
    have q1 := r5.kind h3 (by omega : c < 7)
    have q2 := r5.fig h3 (by omega : c < 7)
    rw [gu_n (by omega), gu_n (by omega), gu_n (by omega)] at q1 q2
    exact sr_weeps hs6 q1 q2 (by omega) (by omega)
  obtain ⟨rfl, rfl⟩ := hk6
  rw [r5.tears h3 (by omega), gu_n (by omega), gu_n (by omega), gu_n (by omega)] at e9
  subst e9
  rw [wr_id (by omega) (by omega)] at e11
  obtain ⟨rfl, ev7⟩ := sr_held hs7
  have t7 : v7 = tearF g c := by
    rw [ev7, e11]
    unfold tearF
    rw [if_neg (by omega)]
  refine ⟨?_, ?_⟩
  · rw [ek8, t7]
    exact r5.u_tears h3 (by omega)
  · rw [ek8, ek5, ek2, ek1]
    exact ((((frM.rf h).up (by omega)).up (by omega)).up (by omega)).up (by omega)
-- a wager is lost
noncomputable def lsF (g : gV) (w d : Int) : Prop := ¬ (cmF g (g (85 + 5 * w)) d ↔ g (86 + 5 * w) = 1)
theorem sc_isLost (hs : fS 66 [b, w] h v h') (hR : RC h b g) (h1 : 0 ≤ w) (h2 : w < g 2) (h3 : 0 ≤ g (85 + 5 * w)) (h4 : g (85 + 5 * w) < 5) (h5 : 0 ≤ g 1) (h6 : g 1 ≤ 6000) (h7 : 0 ≤ g (87 + 5 * w)) (h8 : g (87 + 5 * w) ≤ 9) : h' = h ∧ bR v (lsF g w (g 1 + g (87 + 5 * w))) := by
  have w2 := hR.wg h1 h2 (j := 2) (by omega) (by omega)
  have w3 := hR.wg h1 h2 (j := 3) (by omega) (by omega)
  have w4 := hR.wg h1 h2 (j := 4) (by omega) (by omega)
  rw [show 83 + 5 * w + 2 = 85 + 5 * w by omega] at w2
  rw [show 83 + 5 * w + 3 = 86 + 5 * w by omega] at w3
  rw [show 83 + 5 * w + 4 = 87 + 5 * w by omega] at w4
  refine vt_isLost hs (fun v h' => h' = h ∧ bR v (lsF g w (g 1 + g (87 + 5 * w)))) ?_
  intro z2 e2 z3 e3 z4 e4 z5 e5 z6 e6 z7 e7 z8 e8 z9 e9 z10 e10 z11 e11 z12 e12 z13 e13
  subst e2 e3 e8 e11
  rw [w2] at e4
  rw [hR.day] at e5
  rw [w4] at e6
  subst e4 e5 e6
  rw [wr_id (by omega) (by omega)] at e7
  rw [hR.on h3 h4] at e9
  rw [hR.ev h3 h4] at e12
  subst e7 e9 e10 e12
  have hcm : z13 = 0 ↔ cmF g (g (85 + 5 * w)) (g 1 + g (87 + 5 * w)) := by
    unfold cmF
    rw [← e13]
  unfold lsF
  refine ⟨fun q z14 e14 => ?_, fun q z14 e14 => ?_⟩
  · rw [w3] at e14
    subst e14
    refine ⟨fun q2 => ⟨rfl, Or.inr ⟨rfl, fun q3 => q3 ⟨fun q4 => absurd (hcm.mpr q4) q, fun q4 => absurd q4 q2⟩⟩⟩, fun q2 => ⟨rfl, Or.inl ⟨rfl, fun q3 => q (hcm.mpr (q3.mpr q2))⟩⟩⟩
  · rw [w3] at e14
    subst e14
    refine ⟨fun q2 => ⟨rfl, Or.inl ⟨rfl, fun q3 => q2 (q3.mp (hcm.mp q))⟩⟩, fun q2 => ⟨rfl, Or.inr ⟨rfl, fun q3 => q3 ⟨fun _ => q2, fun _ => hcm.mp q⟩⟩⟩⟩
theorem WF_drop {G : gV} (W : WF g) (h1 : 0 ≤ w) (h2 : w < g 2) (hG : ∀ i, i ≠ 7 + 5 * g (83 + 5 * w) → i ≠ 7 + 5 * g (84 + 5 * w) → i ≠ 6 + 5 * g (83 + 5 * w) → i ≠ 6 + 5 * g (84 + 5 * w) → i ≠ 87 + 5 * w → G i = g i) (v1 : 0 ≤ G (7 + 5 * g (83 + 5 * w)) ∧ G (7 + 5 * g (83 + 5 * w)) ≤ g 0) (v2 : 0 ≤ G (7 + 5 * g (84 + 5 * w)) ∧ G (7 + 5 * g (84 + 5 * w)) ≤ g 0) (v3 : 0 ≤ G (6 + 5 * g (83 + 5 * w)) ∧ G (6 + 5 * g (83 + 5 * w)) ≤ 99) (v4 : 0 ≤ G (6 + 5 * g (84 + 5 * w)) ∧ G (6 + 5 * g (84 + 5 * w)) ≤ 99) : WF (dropF G w) := by
  have hB := W.bg
  unfold BG at hB
  have ww := W.wag h1 h2
  have g0 : G 0 = g 0 := hG 0 (by omega) (by omega) (by omega) (by omega) (by omega)
  have g1 : G 1 = g 1 := hG 1 (by omega) (by omega) (by omega) (by omega) (by omega)
  have g2 : G 2 = g 2 := hG 2 (by omega) (by omega) (by omega) (by omega) (by omega)
  have d2 : dropF G w 2 = g 2 - 1 := by
    unfold dropF
    rw [if_pos rfl, g2]
  have dd : ∀ i, i ≠ 2 → i < 83 → dropF G w i = G i := fun i j1 j2 => by
    unfold dropF
    rw [if_neg j1, if_neg (by omega)]
  have hs : ∀ x, 0 ≤ x → x < g 2 - 1 → ∃ y, (x < w → y = x) ∧ (w ≤ x → y = x + 1) ∧ y ≠ w ∧ 0 ≤ y ∧ y < g 2 ∧ ∀ j, 0 ≤ j → j < 5 → dropF G w (83 + 5 * x + j) = g (83 + 5 * y + j) := fun x x1 x2 => by
    by_cases hx : x < w
    · refine ⟨x, fun _ => rfl, fun q => by omega, by omega, x1, by omega, fun j j1 j2 => ?_⟩
      unfold dropF
      rw [if_neg (by omega), if_neg (by omega)]
      exact hG _ (by omega) (by omega) (by omega) (by omega) (by omega)
    · refine ⟨x + 1, fun q => by omega, fun _ => rfl, by omega, by omega, by omega, fun j j1 j2 => ?_⟩
      unfold dropF
      rw [g2, if_neg (by omega), if_pos (by omega)]
      rw [hG _ (by omega) (by omega) (by omega) (by omega) (by omega)]
      exact congrArg g (by omega)
  refine ⟨?_, fun p h3 h4 => ?_, fun p e h3 h4 h5 h6 => ?_, fun e h3 h4 => ?_, fun x h3 h4 => ?_, fun x x' h3 h4 h5 => ?_⟩
  · rw [dd 0 (by omega) (by omega), dd 1 (by omega) (by omega), d2, g0, g1]
    have := W.1
    omega
  · rw [dd 0 (by omega) (by omega), g0] at h4
    have pp := W.per h3 h4
    rw [dd 0 (by omega) (by omega), dd _ (by omega) (by omega), dd _ (by omega) (by omega), dd _ (by omega) (by omega), dd _ (by omega) (by omega), dd _ (by omega) (by omega), g0]
    rw [hG (3 + 5 * p) (by omega) (by omega) (by omega) (by omega) (by omega), hG (4 + 5 * p) (by omega) (by omega) (by omega) (by omega) (by omega), hG (5 + 5 * p) (by omega) (by omega) (by omega) (by omega) (by omega)]
    have t6 : 0 ≤ G (6 + 5 * p) ∧ G (6 + 5 * p) ≤ 99 := by
      by_cases q1 : p = g (83 + 5 * w)
      · rw [q1]
        exact v3
      · by_cases q2 : p = g (84 + 5 * w)
        · rw [q2]
          exact v4
        · rw [hG _ (by omega) (by omega) (by omega) (by omega) (by omega)]
          omega
    have t7 : 0 ≤ G (7 + 5 * p) ∧ G (7 + 5 * p) ≤ g 0 := by
      by_cases q1 : p = g (83 + 5 * w)
      · rw [q1]
        exact v1
      · by_cases q2 : p = g (84 + 5 * w)
        · rw [q2]
          exact v2
        · rw [hG _ (by omega) (by omega) (by omega) (by omega) (by omega)]
          omega
    omega
  · rw [dd 0 (by omega) (by omega), g0] at h4
    rw [dd _ (by omega) (by omega), hG _ (by omega) (by omega) (by omega) (by omega) (by omega)]
    exact W.bel h3 h4 h5 h6
  · rw [dd _ (by omega) (by omega), dd _ (by omega) (by omega), hG _ (by omega) (by omega) (by omega) (by omega) (by omega), hG _ (by omega) (by omega) (by omega) (by omega) (by omega)]
    exact W.evt h3 h4
  · rw [d2] at h4
    obtain ⟨y, y1, y2, y3, y4, y5, y6⟩ := hs x h3 h4
    have wy := W.wag y4 y5
    have c0 := y6 0 (by omega) (by omega)
    have c1 := y6 1 (by omega) (by omega)
    have c2 := y6 2 (by omega) (by omega)
    have c3 := y6 3 (by omega) (by omega)
    have c4 := y6 4 (by omega) (by omega)
    rw [show 83 + 5 * x + 0 = 83 + 5 * x by omega, show 83 + 5 * y + 0 = 83 + 5 * y by omega] at c0
    rw [show 83 + 5 * x + 1 = 84 + 5 * x by omega, show 83 + 5 * y + 1 = 84 + 5 * y by omega] at c1
    rw [show 83 + 5 * x + 2 = 85 + 5 * x by omega, show 83 + 5 * y + 2 = 85 + 5 * y by omega] at c2
    rw [show 83 + 5 * x + 3 = 86 + 5 * x by omega, show 83 + 5 * y + 3 = 86 + 5 * y by omega] at c3
    rw [show 83 + 5 * x + 4 = 87 + 5 * x by omega, show 83 + 5 * y + 4 = 87 + 5 * y by omega] at c4
    rw [c0, c1, c2, c3, c4, dd 0 (by omega) (by omega), g0]
    have hd : g (83 + 5 * w) ≠ g (83 + 5 * y) ∧ g (83 + 5 * w) ≠ g (84 + 5 * y) ∧ g (84 + 5 * w) ≠ g (83 + 5 * y) ∧ g (84 + 5 * w) ≠ g (84 + 5 * y) := by
      rcases Int.lt_or_gt_of_ne y3 with q | q
      · have := W.2.2.2.2.2 y w y4 q h2
        omega
      · exact W.2.2.2.2.2 w y h1 q y5
    rw [dd _ (by omega) (by omega), dd _ (by omega) (by omega)]
    rw [hG (7 + 5 * g (83 + 5 * y)) (by omega) (by omega) (by omega) (by omega) (by omega), hG (7 + 5 * g (84 + 5 * y)) (by omega) (by omega) (by omega) (by omega) (by omega)]
    exact wy
  · rw [d2] at h5
    obtain ⟨y, y1, y2, y3, y4, y5, y6⟩ := hs x h3 (by omega)
    obtain ⟨y', y1', y2', y3', y4', y5', y6'⟩ := hs x' (by omega) h5
    have hlt : y < y' := by
      by_cases q1 : x < w <;> by_cases q2 : x' < w
      · rw [y1 q1, y1' q2]; exact h4
      · rw [y1 q1, y2' (by omega)]; omega
      · omega
      · rw [y2 (by omega), y2' (by omega)]; omega
    have c0 := y6 0 (by omega) (by omega)
    have c1 := y6 1 (by omega) (by omega)
    have c0' := y6' 0 (by omega) (by omega)
    have c1' := y6' 1 (by omega) (by omega)
    rw [show 83 + 5 * x + 0 = 83 + 5 * x by omega, show 83 + 5 * y + 0 = 83 + 5 * y by omega] at c0
    rw [show 83 + 5 * x + 1 = 84 + 5 * x by omega, show 83 + 5 * y + 1 = 84 + 5 * y by omega] at c1
    rw [show 83 + 5 * x' + 0 = 83 + 5 * x' by omega, show 83 + 5 * y' + 0 = 83 + 5 * y' by omega] at c0'
    rw [show 83 + 5 * x' + 1 = 84 + 5 * x' by omega, show 83 + 5 * y' + 1 = 84 + 5 * y' by omega] at c1'
    rw [c0, c1, c0', c1']
    exact W.2.2.2.2.2 y y' y4 hlt y5'
theorem WF_wait (W : WF g) (h1 : 0 ≤ w) (h2 : w < g 2) (h3 : 1 ≤ z) (h4 : z ≤ 9) : WF (gu g (87 + 5 * w) z) := by
  have hB := W.bg
  unfold BG at hB
  have nn : ∀ i, i ≠ 87 + 5 * w → gu g (87 + 5 * w) z i = g i := fun i hi => gu_n hi
  refine ⟨?_, fun p h3 h4 => ?_, fun p e h3 h4 h5 h6 => ?_, fun e h3 h4 => ?_, fun x h5 h6 => ?_, fun x x' h3 h4 h5 => ?_⟩
  · rw [nn 0 (by omega), nn 1 (by omega), nn 2 (by omega)]
    exact W.1
  · rw [nn 0 (by omega)] at h4
    rw [nn 0 (by omega), nn _ (by omega), nn _ (by omega), nn _ (by omega), nn _ (by omega), nn _ (by omega)]
    exact W.2.1 p h3 h4
  · rw [nn 0 (by omega)] at h4
    rw [nn _ (by omega)]
    exact W.bel h3 h4 h5 h6
  · rw [nn _ (by omega), nn _ (by omega)]
    exact W.evt h3 h4
  · rw [nn 2 (by omega)] at h6
    have wx := W.wag h5 h6
    rw [nn 0 (by omega), nn (83 + 5 * x) (by omega), nn (84 + 5 * x) (by omega), nn (85 + 5 * x) (by omega), nn (86 + 5 * x) (by omega), nn (7 + 5 * g (83 + 5 * x)) (by omega), nn (7 + 5 * g (84 + 5 * x)) (by omega)]
    by_cases hx : x = w
    · subst hx
      rw [gu_e rfl]
      omega
    · rw [nn _ (by omega)]
      exact wx
  · rw [nn 2 (by omega)] at h5
    rw [nn (83 + 5 * x) (by omega), nn (84 + 5 * x) (by omega), nn (83 + 5 * x') (by omega), nn (84 + 5 * x') (by omega)]
    exact W.2.2.2.2.2 x x' h3 h4 h5
end OU
end
section
/-! days -/
noncomputable def KP (g G : gV) : Prop := ∀ i, (i = 0 ∨ i = 1 ∨ (3 ≤ i ∧ i < 38 ∧ (i - 3) % 5 ≤ 2) ∨ (38 ≤ i ∧ i < 83)) → G i = g i
noncomputable def dayH (H : Int → Bool) (g : gV) : gV := learnF H (outF H (g 2).toNat 0 (gu g 1 (g 1 + 1)))
noncomputable def dayN : Nat → gV → gV
  | 0, g => g
  | n + 1, g => dayF (dayN n g)
section DA
variable {h h' h1 h2 : fH} {b v : Int} {g g' G : gV} {p e w s f d z c k a : Int} {H : Int → Bool}
theorem dayF_eq (g : gV) : dayF g = dayH (hapF g (g 1 + 1)) g := rfl
theorem KP.rf (g : gV) : KP g g := fun _ _ => rfl
theorem cmF_eq {g G : gV} (hk : ∀ i, 73 ≤ i → i < 83 → G i = g i) (h3 : 0 ≤ e) (h4 : e < 5) (d : Int) : cmF G e d ↔ cmF g e d := by
  unfold cmF
  rw [hk _ (by omega) (by omega), hk _ (by omega) (by omega)]
/-- a wager that has come out -/
noncomputable def stepF (H : Int → Bool) (g : gV) (w : Int) : gV := dropF (if H (g (85 + 5 * w)) = true ↔ g (86 + 5 * w) = 1 then gu g (87 + 5 * w) (g (87 + 5 * w) - 1) else weddF (gu g (87 + 5 * w) (g (87 + 5 * w) - 1)) (g (83 + 5 * w)) (g (84 + 5 * w))) w
theorem outF_s (H : Int → Bool) (n : Nat) (w : Int) (g : gV) : outF H (n + 1) w g = if 0 < g (87 + 5 * w) - 1 then outF H n (w + 1) (gu g (87 + 5 * w) (g (87 + 5 * w) - 1)) else outF H n w (stepF H g w) := rfl
theorem wedd_n {i : Int} (n1 : i ≠ 7 + 5 * a) (n2 : i ≠ 7 + 5 * c) (n3 : i ≠ 6 + 5 * a) (n4 : i ≠ 6 + 5 * c) : weddF g a c i = g i := by
  unfold weddF
  rw [gu_n n4, gu_n n3, gu_n n2, gu_n n1]
theorem step_ok (W : WF g) (h1 : 0 ≤ w) (h2 : w < g 2) (H : Int → Bool) : WF (stepF H g w) ∧ KP g (stepF H g w) ∧ stepF H g w 2 = g 2 - 1 := by
  have hB := W.bg
  unfold BG at hB
  have ww := W.wag h1 h2
  have pa := W.per ww.1 ww.2.1
  have pc := W.per ww.2.2.1 ww.2.2.2.1
  have ta := tear_b (g := gu g (87 + 5 * w) (g (87 + 5 * w) - 1)) (p := g (83 + 5 * w)) (by rw [gu_n (by omega)]; omega) (by rw [gu_n (by omega)]; omega) (by rw [gu_n (by omega)]; omega)
  have tc := tear_b (g := gu g (87 + 5 * w) (g (87 + 5 * w) - 1)) (p := g (84 + 5 * w)) (by rw [gu_n (by omega)]; omega) (by rw [gu_n (by omega)]; omega) (by rw [gu_n (by omega)]; omega)
  have hd : ∀ (G : gV) (i : Int), i < 83 → i ≠ 2 → dropF G w i = G i := fun G i j1 j2 => by
    unfold dropF
    rw [if_neg j2, if_neg (by omega)]
  have hd2 : ∀ G : gV, dropF G w 2 = G 2 - 1 := fun G => by
    unfold dropF
    rw [if_pos rfl]
  unfold stepF
  split
  · refine ⟨WF_drop W h1 h2 (fun i _ _ _ _ n5 => gu_n n5) ?_ ?_ ?_ ?_, fun i hi => ?_, ?_⟩
    · rw [gu_n (by omega)]
      omega
    · rw [gu_n (by omega)]
      omega
    · rw [gu_n (by omega)]
      omega
    · rw [gu_n (by omega)]
      omega
    · rw [hd _ _ (by omega) (by omega), gu_n (by omega)]
    · rw [hd2, gu_n (by omega)]
  · have hne := ww.2.2.2.2.1
    refine ⟨WF_drop W h1 h2 (fun i n1 n2 n3 n4 n5 => by rw [wedd_n n1 n2 n3 n4, gu_n n5]) ?_ ?_ ?_ ?_, fun i hi => ?_, ?_⟩
    · unfold weddF
      rw [gu_n (by omega), gu_n (by omega), gu_n (by omega), gu_e rfl]
      omega
    · unfold weddF
      rw [gu_n (by omega), gu_n (by omega), gu_e rfl]
      omega
    · unfold weddF
      rw [gu_n (by omega), gu_e rfl]
      exact ta
    · unfold weddF
      rw [gu_e rfl]
      exact tc
    · rw [hd _ _ (by omega) (by omega), wedd_n (by omega) (by omega) (by omega) (by omega), gu_n (by omega)]
    · rw [hd2, wedd_n (by omega) (by omega) (by omega) (by omega), gu_n (by omega)]
theorem KP.tr {g1 g2 g3 : gV} (x : KP g1 g2) (y : KP g2 g3) : KP g1 g3 := fun i hi => (y i hi).trans (x i hi)
theorem KP.wt (h1 : 0 ≤ w) : KP g (gu g (87 + 5 * w) z) := fun i hi => gu_n (by omega)
theorem out_ok (H : Int → Bool) : ∀ (n : Nat) (w : Int) (g : gV), WF g → 0 ≤ w → w + n = g 2 → WF (outF H n w g) ∧ KP g (outF H n w g)
  | 0, w, g, W, _, _ => ⟨W, KP.rf g⟩
  | n + 1, w, g, W, h1, h2 => by
    rw [outF_s]
    have hw : w < g 2 := by omega
    have ww := W.wag h1 hw
    split
    · have := out_ok H n (w + 1) _ (WF_wait (z := g (87 + 5 * w) - 1) W h1 hw (by omega) (by omega)) (by omega) (by rw [gu_n (by omega)]; omega)
      exact ⟨this.1, (KP.wt h1).tr this.2⟩
    · obtain ⟨s1, s2, s3⟩ := step_ok W h1 hw H
      have := out_ok H n w _ s1 h1 (by rw [s3]; omega)
      exact ⟨this.1, s2.tr this.2⟩
theorem lnF_b {cc : Bool} {x y : Int} (h1 : 0 ≤ x) (h2 : x ≤ 9) (h3 : 0 ≤ y) : 0 ≤ lnF cc x y ∧ lnF cc x y ≤ 9 := by
  cases cc <;> simp only [lnF] <;> split <;> omega
theorem lrn_b (k : Int) : 0 ≤ lrnF k ∧ lrnF k ≤ 3 := by
  unfold lrnF
  split
  · omega
  · split
    · omega
    · split <;> omega
theorem learn_o {i : Int} (hi : i < 38 ∨ 38 + 5 * g 0 ≤ i) : learnF H g i = g i := by
  unfold learnF
  rw [if_neg (by omega)]
theorem WF_learn (W : WF g) (H : Int → Bool) : WF (learnF H g) := by
  have hB := W.bg
  unfold BG at hB
  have nn : ∀ i, i < 38 ∨ 73 ≤ i → learnF H g i = g i := fun i hi => learn_o (by omega)
  refine ⟨?_, fun p h3 h4 => ?_, fun p e h3 h4 h5 h6 => ?_, fun e h3 h4 => ?_, fun x h5 h6 => ?_, fun x x' h3 h4 h5 => ?_⟩
  · rw [nn 0 (by omega), nn 1 (by omega), nn 2 (by omega)]
    exact W.1
  · rw [nn 0 (by omega)] at h4
    rw [nn 0 (by omega), nn _ (by omega), nn _ (by omega), nn _ (by omega), nn _ (by omega), nn _ (by omega)]
    exact W.2.1 p h3 h4
  · rw [nn 0 (by omega)] at h4
    have := W.bel h3 h4 h5 h6
    unfold learnF
    rw [if_pos (by omega)]
    exact lnF_b this.1 this.2 (lrn_b _).1
  · rw [nn _ (by omega), nn _ (by omega)]
    exact W.evt h3 h4
  · rw [nn 2 (by omega)] at h6
    have wx := W.wag h5 h6
    rw [nn 0 (by omega), nn (83 + 5 * x) (by omega), nn (84 + 5 * x) (by omega), nn (85 + 5 * x) (by omega), nn (86 + 5 * x) (by omega), nn (87 + 5 * x) (by omega), nn (7 + 5 * g (83 + 5 * x)) (by omega), nn (7 + 5 * g (84 + 5 * x)) (by omega)]
    exact wx
  · rw [nn 2 (by omega)] at h5
    rw [nn (83 + 5 * x) (by omega), nn (84 + 5 * x) (by omega), nn (83 + 5 * x') (by omega), nn (84 + 5 * x') (by omega)]
    exact W.2.2.2.2.2 x x' h3 h4 h5
theorem WF_day1 (W : WF g) (hd : 0 ≤ z ∧ z ≤ 5000) : WF (gu g 1 z) := by
  have nn : ∀ i, i ≠ 1 → gu g 1 z i = g i := fun i hi => gu_n hi
  have hB := W.bg
  unfold BG at hB
  refine ⟨?_, fun p h3 h4 => ?_, fun p e h3 h4 h5 h6 => ?_, fun e h3 h4 => ?_, fun x h5 h6 => ?_, fun x x' h3 h4 h5 => ?_⟩
  · rw [nn 0 (by omega), nn 2 (by omega), gu_e rfl]
    have := W.1
    omega
  · rw [nn 0 (by omega)] at h4
    rw [nn 0 (by omega), nn _ (by omega), nn _ (by omega), nn _ (by omega), nn _ (by omega), nn _ (by omega)]
    exact W.2.1 p h3 h4
  · rw [nn 0 (by omega)] at h4
    rw [nn _ (by omega)]
    exact W.bel h3 h4 h5 h6
  · rw [nn _ (by omega), nn _ (by omega)]
    exact W.evt h3 h4
  · rw [nn 2 (by omega)] at h6
    have wx := W.wag h5 h6
    rw [nn 0 (by omega), nn (83 + 5 * x) (by omega), nn (84 + 5 * x) (by omega), nn (85 + 5 * x) (by omega), nn (86 + 5 * x) (by omega), nn (87 + 5 * x) (by omega), nn (7 + 5 * g (83 + 5 * x)) (by omega), nn (7 + 5 * g (84 + 5 * x)) (by omega)]
    exact wx
  · rw [nn 2 (by omega)] at h5
    rw [nn (83 + 5 * x) (by omega), nn (84 + 5 * x) (by omega), nn (83 + 5 * x') (by omega), nn (84 + 5 * x') (by omega)]
    exact W.2.2.2.2.2 x x' h3 h4 h5
theorem day_ok (W : WF g) (hd : g 1 ≤ 4999) (H : Int → Bool) : WF (dayH H g) ∧ dayH H g 0 = g 0 ∧ dayH H g 1 = g 1 + 1 ∧ (∀ i, 73 ≤ i → i < 83 → dayH H g i = g i) ∧ (∀ p, 0 ≤ p → p < 7 → dayH H g (3 + 5 * p) = g (3 + 5 * p) ∧ dayH H g (4 + 5 * p) = g (4 + 5 * p) ∧ dayH H g (5 + 5 * p) = g (5 + 5 * p)) := by
  have hB := W.1
  have W1 : WF (gu g 1 (g 1 + 1)) := WF_day1 W (by omega)
  obtain ⟨o1, o2⟩ := out_ok H (g 2).toNat 0 (gu g 1 (g 1 + 1)) W1 (by omega) (by rw [gu_n (by omega)]; omega)
  have hB2 := o1.1
  have e0 : outF H (g 2).toNat 0 (gu g 1 (g 1 + 1)) 0 = g 0 := (o2 0 (by omega)).trans (gu_n (by omega))
  unfold dayH
  refine ⟨WF_learn o1 H, ?_, ?_, fun i j1 j2 => ?_, fun p j1 j2 => ⟨?_, ?_, ?_⟩⟩
  · rw [learn_o (by omega), e0]
  · rw [learn_o (by omega), o2 1 (by omega), gu_e rfl]
  · rw [learn_o (by omega), o2 i (by omega), gu_n (by omega)]
  · rw [learn_o (by omega), o2 _ (by omega), gu_n (by omega)]
  · rw [learn_o (by omega), o2 _ (by omega), gu_n (by omega)]
  · rw [learn_o (by omega), o2 _ (by omega), gu_n (by omega)]
/-- the class: wagers come out (the day has been counted) -/
theorem sc_comeOut (hs : fS 65 [b] h v h') (hR : RC h b g) (W : WF g) : RC h' b (outF (hapF g (g 1)) (g 2).toNat 0 g) ∧ frC b h h' := by
  have hB := W.1
  refine vt_comeOut hs (fun x0 x1 x2 k => x0 = b ∧ frC b h k ∧ 0 ≤ x1 ∧ ∃ G, RC k b G ∧ WF G ∧ KP g G ∧ x1 ≤ G 2 ∧ x2 = G 2 - x1 ∧ outF (hapF g (g 1)) x2.toNat x1 G = outF (hapF g (g 1)) (g 2).toNat 0 g) (fun v h' => RC h' b (outF (hapF g (g 1)) (g 2).toNat 0 g) ∧ frC b h h') ?_ ?_
  · intro z1 e1
    rw [hR.opn] at e1
    subst e1
    exact ⟨rfl, frC.rf b h, by omega, g, hR, W, KP.rf g, by omega, by omega, rfl⟩
  · rintro x0 x1 x2 k ⟨rfl, i1, i2, G, iR, iW, iK, i3, i4, i5⟩
    refine ⟨fun q => ?_, fun q z3 e3 z4 e4 z5 e5 z6 e6 k1 ek1 z7 e7 => ?_⟩
    · have : x2.toNat = 0 := by omega
      rw [this] at i5
      have i5 : G = _ := i5
      rw [← i5]
      exact ⟨iR, i1⟩
    · subst e3
      have hw : x1 < G 2 := by omega
      have gB := iW.1
      have ww := iW.wag i2 hw
      have w4 := iR.wg i2 hw (j := 4) (by omega) (by omega)
      have hwr := iR.wr i2 (by omega : x1 < 3)
      rw [show 83 + 5 * x1 + 4 = 87 + 5 * x1 by omega] at w4
      rw [e4, w4] at e5
      subst e5
      rw [wr_id (by omega) (by omega)] at e6
      subst e6
      rw [ek1, fu_e rfl rfl] at e7
      subst e7
      have r1 : RC k1 x0 (gu G (87 + 5 * x1) (G (87 + 5 * x1) - 1)) := by
        have := iR.u_wg iW.bg i2 hw (j := 4) (z := G (87 + 5 * x1) - 1) (by omega) (by omega)
        rw [show 83 + 5 * x1 + 4 = 87 + 5 * x1 by omega, ← e4, ← ek1] at this
        exact this
      have f1 : frC x0 h k1 := by
        rw [ek1]
        exact i1.up (by omega)
      have hn : x2.toNat = (x2 - 1).toNat + 1 := by omega
      rw [hn, outF_s] at i5
      have B1 := BG_gu (i := 87 + 5 * x1) (z := G (87 + 5 * x1) - 1) iW.bg (by omega)
      refine ⟨fun q2 v2 k2 hs2 => ?_, fun q2 z8 e8 z9 e9 => ?_⟩
      · rw [if_neg (by omega)] at i5
        have hz : G (87 + 5 * x1) = 1 := by omega
        obtain ⟨s1, s2, s3⟩ := step_ok iW i2 hw (hapF g (g 1))
        have l1 : gu G (87 + 5 * x1) (G (87 + 5 * x1) - 1) 1 = g 1 := by
          rw [gu_n (by omega)]
          exact iK 1 (by omega)
        obtain ⟨rfl, hl⟩ := sc_isLost hs2 r1 i2 (by rw [gu_n (by omega)]; exact hw) (by rw [gu_n (by omega)]; omega) (by rw [gu_n (by omega)]; omega) (by rw [l1]; omega) (by rw [l1]; omega) (by rw [gu_e rfl]; omega) (by rw [gu_e rfl]; omega)
        have hcond : lsF (gu G (87 + 5 * x1) (G (87 + 5 * x1) - 1)) x1 (gu G (87 + 5 * x1) (G (87 + 5 * x1) - 1) 1 + gu G (87 + 5 * x1) (G (87 + 5 * x1) - 1) (87 + 5 * x1)) ↔ ¬ (hapF g (g 1) (G (85 + 5 * x1)) = true ↔ G (86 + 5 * x1) = 1) := by
          unfold lsF hapF
          rw [l1, gu_e rfl, gu_n (by omega), gu_n (by omega), hz, show g 1 + (1 - 1) = g 1 by omega, decide_eq_true_eq]
          rw [cmF_eq (g := g) (fun i j1 j2 => by rw [gu_n (by omega)]; exact iK i (by omega)) (by omega) (by omega)]
        have hR2 : 0 < G 2 := by omega
        refine ⟨fun q3 v3 k3 hs3 z10 e10 => ?_, fun q3 z9 e9 z10 e10 v3 k3 hs3 v4 k4 hs4 z13 e13 => ?_⟩
        · have hf := hl.f q3
          have hf := Classical.byContradiction (fun r => hf (hcond.mpr r))
          obtain ⟨c1, c2⟩ := sc_close hs3 r1 B1 i2 (by rw [gu_n (by omega)]; exact hw)
          have es : stepF (hapF g (g 1)) G x1 = dropF (gu G (87 + 5 * x1) (G (87 + 5 * x1) - 1)) x1 := by
            unfold stepF
            rw [if_pos hf]
          rw [← es] at c1
          rw [wr_id (by omega) (by omega)] at e10
          subst e10
          refine ⟨rfl, f1.tr c2, i2, _, c1, s1, iK.tr s2, by rw [s3]; omega, by rw [s3]; omega, ?_⟩
          rw [show x2 + -1 = x2 - 1 by omega]
          exact i5
        · have ht := hl.t q3
          rw [hcond] at ht
          have a0 := r1.wg i2 (by rw [gu_n (by omega)]; exact hw) (j := 0) (by omega) (by omega)
          have a1 := r1.wg i2 (by rw [gu_n (by omega)]; exact hw) (j := 1) (by omega) (by omega)
          have er : k2 (x0 + 19) x1 = z4 := by
            rw [ek1, fu_c (by omega), e4]
          rw [er, gu_n (by omega), show 83 + 5 * x1 + 0 = 83 + 5 * x1 by omega] at a0
          rw [er, gu_n (by omega), show 83 + 5 * x1 + 1 = 84 + 5 * x1 by omega] at a1
          rw [a0] at e9
          rw [a1] at e10
          subst e9 e10
          have pa := iW.per ww.1 ww.2.1
          have pc := iW.per ww.2.2.1 ww.2.2.2.1
          obtain ⟨c1, c2⟩ := sc_marry hs3 r1 B1 (by rw [gu_n (by omega), gu_n (by omega), gu_n (by omega), gu_n (by omega), gu_n (by omega), gu_n (by omega)]; exact pa) (by rw [gu_n (by omega), gu_n (by omega), gu_n (by omega), gu_n (by omega), gu_n (by omega), gu_n (by omega)]; exact pc) ww.1 (by rw [gu_n (by omega)]; omega) ww.2.2.1 (by rw [gu_n (by omega)]; omega) ww.2.2.2.2.1
          have w2 : weddF (gu G (87 + 5 * x1) (G (87 + 5 * x1) - 1)) (G (83 + 5 * x1)) (G (84 + 5 * x1)) 2 = G 2 := by
            rw [wedd_n (by omega) (by omega) (by omega) (by omega), gu_n (by omega)]
          have w0 : weddF (gu G (87 + 5 * x1) (G (87 + 5 * x1) - 1)) (G (83 + 5 * x1)) (G (84 + 5 * x1)) 0 = G 0 := by
            rw [wedd_n (by omega) (by omega) (by omega) (by omega), gu_n (by omega)]
          obtain ⟨d1, d2⟩ := sc_close hs4 c1 (by unfold BG; rw [w0, w2]; omega) i2 (by rw [w2]; exact hw)
          have es : stepF (hapF g (g 1)) G x1 = dropF (weddF (gu G (87 + 5 * x1) (G (87 + 5 * x1) - 1)) (G (83 + 5 * x1)) (G (84 + 5 * x1))) x1 := by
            unfold stepF
            rw [if_neg ht]
          rw [← es] at d1
          rw [wr_id (by omega) (by omega)] at e13
          subst e13
          refine ⟨rfl, (f1.tr c2).tr d2, i2, _, d1, s1, iK.tr s2, by rw [s3]; omega, by rw [s3]; omega, ?_⟩
          rw [show x2 + -1 = x2 - 1 by omega]
          exact i5
      · rw [if_pos (by omega)] at i5
        rw [wr_id (by omega) (by omega)] at e8 e9
        subst e8 e9
        refine ⟨rfl, f1, by omega, _, r1, WF_wait iW i2 hw (by omega) (by omega), iK.tr (KP.wt i2), by rw [gu_n (by omega)]; omega, by rw [gu_n (by omega)]; omega, ?_⟩
        rw [show x2 + -1 = x2 - 1 by omega]
        exact i5
end DA
end
section
/-! beliefs learn; days whole -/
section LE
variable {h h' h1 h2 : fH} {b v : Int} {g g' G : gV} {p e w s f d z c k a x y n : Int} {H : Int → Bool}
theorem sc_learned (hs : fS 72 [x, y, c] h v h') (h1 : 0 ≤ x) (h2 : x ≤ 9) (h3 : 0 ≤ y) (h4 : y ≤ 3) : h' = h ∧ v = lnF (decide (c ≠ 0)) x y := by
  refine vt_learned hs (fun v h' => h' = h ∧ v = lnF (decide (c ≠ 0)) x y) ⟨fun q z3 e3 z4 e4 => ?_, fun q z3 e3 z4 e4 => ?_⟩
  · rw [wr_id (by omega) (by omega)] at e3
    subst e3
    refine ⟨rfl, ?_⟩
    rw [e4, decide_eq_false (by omega)]
    unfold xmax
    simp only [lnF]
    split <;> split <;> omega
  · rw [wr_id (by omega) (by omega)] at e3
    subst e3
    refine ⟨rfl, ?_⟩
    rw [e4, decide_eq_true q]
    unfold xmin
    simp only [lnF]
    split <;> split <;> omega
/-- learned as far as event e, person p -/
noncomputable def lgF (H : Int → Bool) (G : gV) (e p : Int) : gV := fun i => if 38 ≤ i ∧ i < 38 + 5 * G 0 ∧ ((i - 38) % 5 < e ∨ ((i - 38) % 5 = e ∧ (i - 38) / 5 < p)) then lnF (H ((i - 38) % 5)) (G i) (lrnF (G (3 + 5 * ((i - 38) / 5)))) else G i
theorem lg_o {i : Int} (hi : i < 38 ∨ 38 + 5 * G 0 ≤ i) : lgF H G e p i = G i := by
  unfold lgF
  rw [if_neg (by omega)]
theorem sc_learn (hs : fS 71 [b] h v h') (hR : RC h b G) (W : WF G) : RC h' b (learnF (hapF G (G 1)) G) ∧ frC b h h' := by
  have hB := W.1
  have gB := W.bg
  refine vt_learn hs (fun x0 x1 k => x0 = b ∧ frC b h k ∧ 0 ≤ x1 ∧ x1 ≤ 5 ∧ RC k b (lgF (hapF G (G 1)) G x1 0)) (fun x0 x1 x2 x3 k => x0 = b ∧ frC b h k ∧ 0 ≤ x1 ∧ x1 < 5 ∧ decide (x2 ≠ 0) = hapF G (G 1) x1 ∧ 0 ≤ x3 ∧ x3 ≤ G 0 ∧ RC k b (lgF (hapF G (G 1)) G x1 x3)) (fun v h' => RC h' b (learnF (hapF G (G 1)) G) ∧ frC b h h') ?_ ?_ ?_
  · refine ⟨rfl, frC.rf b h, by omega, by omega, RC_ext hR gB (lg_o (by omega)) (lg_o (by omega)) (lg_o (by omega)) (fun i j1 j2 => lg_o (by omega)) (fun i j1 j2 => ?_) (fun i j1 j2 => lg_o (by omega)) (fun i j1 j2 => lg_o (by omega))⟩
    unfold lgF
    rw [if_neg (by omega)]
  · rintro x0 x1 k ⟨rfl, i1, i2, i3, i4⟩
    have B4 : BG (lgF (hapF G (G 1)) G x1 0) := by
      unfold BG
      rw [lg_o (by omega), lg_o (by omega)]
      exact gB
    refine ⟨fun q => ⟨RC_ext i4 B4 ?_ ?_ ?_ (fun i j1 j2 => ?_) (fun i j1 j2 => ?_) (fun i j1 j2 => ?_) (fun i j1 j2 => ?_), i1⟩, fun q z2 e2 z3 e3 z4 e4 z5 e5 z6 e6 z7 e7 z8 e8 => ?_⟩
    · rw [learn_o (by omega), lg_o (by omega)]
    · rw [learn_o (by omega), lg_o (by omega)]
    · rw [learn_o (by omega), lg_o (by omega)]
    · rw [lg_o (by omega)] at j2
      rw [learn_o (by omega), lg_o (by omega)]
    · rw [lg_o (by omega)] at j2
      unfold learnF lgF
      rw [if_pos (by omega), if_pos (by omega)]
    · rw [learn_o (by omega), lg_o (by omega)]
    · rw [learn_o (by omega), lg_o (by omega)]
    · subst e3 e6
      rw [i4.day, lg_o (by omega)] at e2
      rw [i4.on i2 q, lg_o (by omega)] at e4
      rw [i4.ev i2 q, lg_o (by omega)] at e7
      subst e2 e4 e5 e7
      have hh : (z8 = 0 ↔ hapF G (G 1) x1 = true) := by
        unfold hapF cmF
        rw [decide_eq_true_eq, e8]
      refine ⟨fun q2 => ⟨rfl, i1, i2, q, ?_, by omega, by omega, i4⟩, fun q2 => ⟨rfl, i1, i2, q, ?_, by omega, by omega, i4⟩⟩
      · have : hapF G (G 1) x1 = false := by
          cases hc : hapF G (G 1) x1
          · rfl
          · exact absurd (hh.mpr hc) q2
        rw [this]
        rfl
      · rw [hh.mp q2]
        rfl
  · rintro x0 x1 x2 x3 k ⟨rfl, i1, i2, i3, i4, i5, i6, i7⟩ z4 e4
    have l0 : lgF (hapF G (G 1)) G x1 x3 0 = G 0 := lg_o (by omega)
    have B7 : BG (lgF (hapF G (G 1)) G x1 x3) := by
      unfold BG
      rw [lg_o (by omega), lg_o (by omega)]
      exact gB
    rw [i7.many, l0] at e4
    subst e4
    refine ⟨fun q z5 e5 => ?_, fun q z5 e5 z6 e6 z7 e7 z8 e8 z9 e9 z10 e10 z11 e11 v1 k1 hs1 k2 ek2 z13 e13 => ?_⟩
    · rw [wr_id (by omega) (by omega)] at e5
      subst e5
      refine ⟨rfl, i1, by omega, by omega, RC_ext i7 B7 ?_ ?_ ?_ (fun i j1 j2 => ?_) (fun i j1 j2 => ?_) (fun i j1 j2 => ?_) (fun i j1 j2 => ?_)⟩
      · rw [lg_o (by omega), lg_o (by omega)]
      · rw [lg_o (by omega), lg_o (by omega)]
      · rw [lg_o (by omega), lg_o (by omega)]
      · rw [l0] at j2
        rw [lg_o (by omega), lg_o (by omega)]
      · rw [l0] at j2
        unfold lgF
        by_cases hc : (i - 38) % 5 < x1 ∨ ((i - 38) % 5 = x1 ∧ (i - 38) / 5 < x3)
        · rw [if_pos (by omega), if_pos (by omega)]
        · rw [if_neg (by omega), if_neg (by omega)]
      · rw [lg_o (by omega), lg_o (by omega)]
      · rw [lg_o (by omega), lg_o (by omega)]
    · subst e5 e7
      subst e6 e8
      rw [ofm9] at e9 ek2
      have hb := W.bel i5 q i2 i3
      have lb : lgF (hapF G (G 1)) G x1 x3 (38 + 5 * x3 + x1) = G (38 + 5 * x3 + x1) := by
        unfold lgF
        rw [if_neg (by omega)]
      rw [i7.bel i5 (by rw [l0]; exact q) i2 i3, lb] at e9
      subst e10
      rw [i7.lrn i5 (by rw [l0]; exact q), lg_o (by omega)] at e11
      subst e9 e11
      have hl := lrn_b (G (3 + 5 * x3))
      obtain ⟨rfl, ev⟩ := sc_learned hs1 hb.1 hb.2 hl.1 hl.2
      rw [i4] at ev
      rw [wr_id (by omega) (by omega)] at e13
      subst e13
      have r2 : RC k2 x0 (gu (lgF (hapF G (G 1)) G x1 x3) (38 + 5 * x3 + x1) v1) := by
        rw [ek2]
        exact i7.u_bel B7 i5 (by rw [l0]; exact q) i2 i3
      have f2 : frC x0 h k2 := by
        rw [ek2]
        exact i1.up (by omega)
      have B8 := BG_gu (i := 38 + 5 * x3 + x1) (z := v1) B7 (by omega)
      refine ⟨rfl, f2, i2, i3, i4, by omega, by omega, RC_ext r2 B8 ?_ ?_ ?_ (fun i j1 j2 => ?_) (fun i j1 j2 => ?_) (fun i j1 j2 => ?_) (fun i j1 j2 => ?_)⟩
      · rw [gu_n (by omega), lg_o (by omega), lg_o (by omega)]
      · rw [gu_n (by omega), lg_o (by omega), lg_o (by omega)]
      · rw [gu_n (by omega), lg_o (by omega), lg_o (by omega)]
      · rw [gu_n (by omega), l0] at j2
        rw [gu_n (by omega), lg_o (by omega), lg_o (by omega)]
      · rw [gu_n (by omega), l0] at j2
        by_cases hi : i = 38 + 5 * x3 + x1
        · subst hi
          rw [gu_e rfl, ev]
          unfold lgF
          rw [if_pos (by omega), show (38 + 5 * x3 + x1 - 38) % 5 = x1 by omega, show (38 + 5 * x3 + x1 - 38) / 5 = x3 by omega]
        · rw [gu_n hi]
          unfold lgF
          by_cases hc : (i - 38) % 5 < x1 ∨ ((i - 38) % 5 = x1 ∧ (i - 38) / 5 < x3)
          · rw [if_pos (by omega), if_pos (by omega)]
          · rw [if_neg (by omega), if_neg (by omega)]
      · rw [gu_n (by omega), lg_o (by omega), lg_o (by omega)]
      · rw [gu_n (by omega), lg_o (by omega), lg_o (by omega)]
theorem hap_eq {g G : gV} (hk : ∀ i, 73 ≤ i → i < 83 → G i = g i) (d : Int) {e : Int} (h3 : 0 ≤ e) (h4 : e < 5) : hapF G d e = hapF g d e := by
  unfold hapF
  exact decide_eq_decide.mpr (cmF_eq hk h3 h4 d)
theorem learn_H {H H' : Int → Bool} (hH : ∀ e, 0 ≤ e → e < 5 → H e = H' e) (G : gV) : learnF H G = learnF H' G := by
  funext i
  unfold learnF
  split
  · rw [hH _ (by omega) (by omega)]
  · rfl
theorem out_H {H H' : Int → Bool} (hH : ∀ e, 0 ≤ e → e < 5 → H e = H' e) : ∀ (n : Nat) (w : Int) (g : gV), WF g → 0 ≤ w → w + n = g 2 → outF H n w g = outF H' n w g
  | 0, _, _, _, _, _ => rfl
  | n + 1, w, g, W, h1, h2 => by
    rw [outF_s, outF_s]
    have hw : w < g 2 := by omega
    have ww := W.wag h1 hw
    have hs : stepF H g w = stepF H' g w := by
      unfold stepF
      rw [hH _ (by omega) (by omega)]
    split
    · exact out_H hH n (w + 1) _ (WF_wait (z := g (87 + 5 * w) - 1) W h1 hw (by omega) (by omega)) (by omega) (by rw [gu_n (by omega)]; omega)
    · obtain ⟨s1, s2, s3⟩ := step_ok W h1 hw H
      rw [← hs]
      exact out_H hH n w _ s1 h1 (by rw [s3]; omega)
/-- the class: a day -/
theorem sc_day {k1 k2 : fH} {v2 v3 : Int} (hR : RC h b g) (W : WF g) (hd : g 1 ≤ 4999) (ek : h1 = fu h b 15 (g 1 + 1)) (hs2 : fS 65 [b] h1 v2 k1) (hs3 : fS 71 [b] k1 v3 k2) : RC k2 b (dayF g) ∧ frC b h k2 := by
  have hB := W.1
  have W1 : WF (gu g 1 (g 1 + 1)) := WF_day1 W (by omega)
  have r1 : RC h1 b (gu g 1 (g 1 + 1)) := by
    rw [ek]
    exact hR.u_day W.bg
  obtain ⟨r2, f2⟩ := sc_comeOut hs2 r1 W1
  rw [gu_e rfl, gu_n (by omega)] at r2
  have hH : ∀ e, 0 ≤ e → e < 5 → hapF (gu g 1 (g 1 + 1)) (g 1 + 1) e = hapF g (g 1 + 1) e := fun e j1 j2 => hap_eq (fun i j3 j4 => gu_n (by omega)) _ j1 j2
  obtain ⟨o1, o2⟩ := out_ok (hapF g (g 1 + 1)) (g 2).toNat 0 (gu g 1 (g 1 + 1)) W1 (by omega) (by rw [gu_n (by omega)]; omega)
  rw [out_H hH _ _ _ W1 (by omega) (by rw [gu_n (by omega)]; omega)] at r2
  obtain ⟨r3, f3⟩ := sc_learn hs3 r2 o1
  have e1 : outF (hapF g (g 1 + 1)) (g 2).toNat 0 (gu g 1 (g 1 + 1)) 1 = g 1 + 1 := by
    rw [o2 1 (by omega), gu_e rfl]
  rw [e1, learn_H (fun e j1 j2 => hap_eq (g := g) (fun i j3 j4 => by rw [o2 i (by omega), gu_n (by omega)]) _ j1 j2)] at r3
  refine ⟨r3, ?_⟩
  refine frC.tr ?_ (f2.tr f3)
  rw [ek]
  exact (frC.rf b h).up (by omega)
theorem dayN_ok (W : WF g) : ∀ n : Nat, g 1 + n ≤ 5000 → WF (dayN n g) ∧ dayN n g 0 = g 0 ∧ dayN n g 1 = g 1 + n
  | 0, _ => ⟨W, rfl, by simp [dayN]⟩
  | n + 1, hd => by
    obtain ⟨w1, w2, w3⟩ := dayN_ok W n (by omega)
    obtain ⟨d1, d2, d3, -⟩ := day_ok w1 (by omega) (hapF (dayN n g) (dayN n g 1 + 1))
    rw [← dayF_eq] at d1 d2 d3
    refine ⟨d1, d2.trans w2, ?_⟩
    show dayF (dayN n g) 1 = _
    rw [d3, w3]
    omega
theorem sc_goOn (hs : fS 64 [b, n] h v h') (hR : RC h b g) (W : WF g) (hn : 0 ≤ n) (hd : g 1 + n ≤ 5000) : RC h' b (dayN n.toNat g) ∧ frC b h h' := by
  have hB := W.1
  refine vt_goOn hs (fun x0 x1 x2 k => x0 = b ∧ x1 = n ∧ 0 ≤ x2 ∧ x2 ≤ n ∧ RC k b (dayN x2.toNat g) ∧ frC b h k) (fun v h' => RC h' b (dayN n.toNat g) ∧ frC b h h') ⟨rfl, rfl, by omega, hn, hR, frC.rf b h⟩ ?_
  rintro x0 x1 x2 k ⟨rfl, rfl, i1, i2, i3, i4⟩
  refine ⟨fun q => ?_, fun q z3 e3 z4 e4 k1 ek1 v2 k2 hs2 v3 k3 hs3 z7 e7 => ?_⟩
  · have : x2 = x1 := by omega
    subst this
    exact ⟨i3, i4⟩
  · obtain ⟨w1, w2, w3⟩ := dayN_ok W x2.toNat (by omega)
    rw [i3.day] at e3
    subst e3
    rw [wr_id (by omega) (by omega)] at e4
    subst e4
    obtain ⟨r1, f1⟩ := sc_day i3 w1 (by omega) ek1 hs2 hs3
    rw [wr_id (by omega) (by omega)] at e7
    subst e7
    refine ⟨rfl, rfl, by omega, by omega, ?_, i4.tr f1⟩
    rw [show (x2 + 1).toNat = x2.toNat + 1 by omega]
    exact r1
end LE
end
section
/-! the reference: days -/
section DR
variable {h h' h1 h2 : fH} {b v : Int} {g g' G : gV} {p e w s f d z c k a x y n : Int} {H : Int → Bool}
theorem sr_learns {kk : Int} (hs : fS 179 [271, p] h v h') (hk : h 272 p = kk) (hk1 : 0 ≤ kk) (hk2 : kk ≤ 5) : h' = h ∧ v = lrnF kk := by
  refine vr_learnsOf hs (fun v h' => h' = h ∧ v = lrnF kk) ?_
  intro z2 e2
  rw [hk] at e2
  subst e2
  unfold lrnF
  refine ⟨fun q => ⟨rfl, ?_⟩, fun q => ⟨fun q2 => ⟨rfl, ?_⟩, fun q2 => ⟨fun q3 => ⟨rfl, ?_⟩, fun q3 => ⟨fun q4 => ⟨rfl, ?_⟩, fun q4 => ⟨fun q5 => ⟨rfl, ?_⟩, fun q5 => ⟨rfl, ?_⟩⟩⟩⟩⟩⟩
  · rw [q]; rfl
  · rw [q2]; rfl
  · rw [q3]; rfl
  · rw [q4]; rfl
  · rw [q5]; rfl
  · have : z2 = 0 := by omega
    rw [this]; rfl
noncomputable def sfH (sf : Int) (g : gV) : Int → Bool := fun e => decide (sf ≠ 0) || hapF g (g 1 + 1) e
noncomputable def lpF (H : Int → Bool) (G : gV) (i : Int) : gV := fun j => if 38 ≤ j ∧ j < 38 + i then lnF (H ((j - 38) % 5)) (G j) (lrnF (G (3 + 5 * ((j - 38) / 5)))) else G j
theorem lp_o {i j : Int} (hj : j < 38 ∨ 38 + i ≤ j) : lpF H G i j = G j := by
  unfold lpF
  rw [if_neg (by omega)]
theorem sr_dayBy {sf : Int} (hs : fS 173 [271, sf] h v h') (hR : RM h g) (W : WF g) (hd : g 1 ≤ 4999) : RM h' (dayH (sfH sf g) g) ∧ frM h h' := by
  have hB := W.1
  have W1 : WF (gu g 1 (g 1 + 1)) := WF_day1 W (by omega)
  obtain ⟨o1, o2⟩ := out_ok (sfH sf g) (g 2).toNat 0 (gu g 1 (g 1 + 1)) W1 (by omega) (by rw [gu_n (by omega)]; omega)
  have oB := o1.1
  refine vr_dayBy hs (fun x0 x1 x2 k => x0 = 271 ∧ x1 = sf ∧ frM h k ∧ 0 ≤ x2 ∧ ∃ G, RM k G ∧ WF G ∧ KP (gu g 1 (g 1 + 1)) G ∧ x2 ≤ G 2 ∧ outF (sfH sf g) (G 2 - x2).toNat x2 G = outF (sfH sf g) (g 2).toNat 0 (gu g 1 (g 1 + 1))) (fun x0 x1 x3 k => x0 = 271 ∧ x1 = sf ∧ frM h k ∧ 0 ≤ x3 ∧ x3 ≤ 5 * g 0 ∧ RM k (lpF (sfH sf g) (outF (sfH sf g) (g 2).toNat 0 (gu g 1 (g 1 + 1))) x3)) (fun v h' => RM h' (dayH (sfH sf g) g) ∧ frM h h') ?_ ?_ ?_
  · intro z2 e2 z3 e3 k1 ek1
    rw [hR.day] at e2
    subst e2
    rw [wr_id (by omega) (by omega)] at e3
    subst e3
    subst ek1
    refine ⟨rfl, rfl, (frM.rf h).up (by omega), by omega, _, hR.u_day, W1, KP.rf _, by rw [gu_n (by omega)]; omega, ?_⟩
    rw [gu_n (by omega), show g 2 - 0 = g 2 by omega]
  · rintro x0 x1 x2 k ⟨rfl, rfl, i1, i2, G, iR, iW, iK, i3, i5⟩ z3 e3
    rw [iR.opn] at e3
    subst e3
    have gB := iW.1
    refine ⟨fun q => ?_, fun q z4 e4 z5 e5 k1 ek1 z6 e6 => ?_⟩
    · have : (G 2 - x2).toNat = 0 := by omega
      rw [this] at i5
      have i5 : G = _ := i5
      refine ⟨rfl, rfl, i1, by omega, by omega, RM_ext iR (fun i j1 j2 => ?_)⟩
      rw [lp_o (by omega), ← i5]
    · have ww := iW.wag i2 q
      have pa := iW.per ww.1 ww.2.1
      have pc := iW.per ww.2.2.1 ww.2.2.2.1
      rw [iR.w4 i2 (by omega)] at e4
      subst e4
      rw [wr_id (by omega) (by omega)] at e5
      subst e5
      have r1 : RM k1 (gu G (87 + 5 * x2) (G (87 + 5 * x2) - 1)) := by
        rw [ek1]
        exact iR.u_w4 i2 (by omega)
      have f1 : frM h k1 := by
        rw [ek1]
        exact i1.up (by omega)
      rw [r1.w4 i2 (by omega), gu_e rfl] at e6
      subst e6
      have B1 := BG_gu (i := 87 + 5 * x2) (z := G (87 + 5 * x2) - 1) iW.bg (by omega)
      have hn : (G 2 - x2).toNat = (G 2 - x2 - 1).toNat + 1 := by omega
      rw [hn, outF_s] at i5
      obtain ⟨s1, s2, s3⟩ := step_ok iW i2 q (sfH x1 g)
      refine ⟨fun q2 => ?_, fun q2 z7 e7 => ?_⟩
      · rw [if_neg (by omega)] at i5
        have hdrop : ∀ v2 k2, fS 178 [271, x2] k1 v2 k2 → (sfH x1 g (G (85 + 5 * x2)) = true ↔ G (86 + 5 * x2) = 1) → ((271 : Int) = 271 ∧ x1 = x1 ∧ frM h k2 ∧ 0 ≤ x2 ∧ ∃ G, RM k2 G ∧ WF G ∧ KP (gu g 1 (g 1 + 1)) G ∧ x2 ≤ G 2 ∧ outF (sfH x1 g) (G 2 - x2).toNat x2 G = outF (sfH x1 g) (g 2).toNat 0 (gu g 1 (g 1 + 1))) := by
          intro v2 k2 hs2 hc
          obtain ⟨c1, c2⟩ := sr_dropWager hs2 r1 i2 (by rw [gu_n (by omega)]; exact q) (by rw [gu_n (by omega)]; omega)
          have es : stepF (sfH x1 g) G x2 = dropF (gu G (87 + 5 * x2) (G (87 + 5 * x2) - 1)) x2 := by
            unfold stepF
            rw [if_pos hc]
          rw [← es] at c1
          refine ⟨rfl, rfl, f1.tr c2, i2, _, c1, s1, iK.tr s2, by rw [s3]; omega, ?_⟩
          rw [s3, show G 2 - 1 - x2 = G 2 - x2 - 1 by omega]
          exact i5
        have hwed : ∀ v2 k2 v3 k3, fS 175 [271, G (83 + 5 * x2), G (84 + 5 * x2)] k1 v2 k2 → fS 178 [271, x2] k2 v3 k3 → ¬ (sfH x1 g (G (85 + 5 * x2)) = true ↔ G (86 + 5 * x2) = 1) → ((271 : Int) = 271 ∧ x1 = x1 ∧ frM h k3 ∧ 0 ≤ x2 ∧ ∃ G, RM k3 G ∧ WF G ∧ KP (gu g 1 (g 1 + 1)) G ∧ x2 ≤ G 2 ∧ outF (sfH x1 g) (G 2 - x2).toNat x2 G = outF (sfH x1 g) (g 2).toNat 0 (gu g 1 (g 1 + 1))) := by
          intro v2 k2 v3 k3 hs2 hs3 hc
          obtain ⟨c1, c2⟩ := sr_wed hs2 r1 B1 (by rw [gu_n (by omega), gu_n (by omega), gu_n (by omega), gu_n (by omega), gu_n (by omega), gu_n (by omega)]; exact pa) (by rw [gu_n (by omega), gu_n (by omega), gu_n (by omega), gu_n (by omega), gu_n (by omega), gu_n (by omega)]; exact pc) ww.1 (by rw [gu_n (by omega)]; omega) ww.2.2.1 (by rw [gu_n (by omega)]; omega) ww.2.2.2.2.1
          have w2 : weddF (gu G (87 + 5 * x2) (G (87 + 5 * x2) - 1)) (G (83 + 5 * x2)) (G (84 + 5 * x2)) 2 = G 2 := by
            rw [wedd_n (by omega) (by omega) (by omega) (by omega), gu_n (by omega)]
          obtain ⟨d1, d2⟩ := sr_dropWager hs3 c1 i2 (by rw [w2]; exact q) (by rw [w2]; omega)
          have es : stepF (sfH x1 g) G x2 = dropF (weddF (gu G (87 + 5 * x2) (G (87 + 5 * x2) - 1)) (G (83 + 5 * x2)) (G (84 + 5 * x2))) x2 := by
            unfold stepF
            rw [if_neg hc]
          rw [← es] at d1
          refine ⟨rfl, rfl, (f1.tr c2).tr d2, i2, _, d1, s1, iK.tr s2, by rw [s3]; omega, ?_⟩
          rw [s3, show G 2 - 1 - x2 = G 2 - x2 - 1 by omega]
          exact i5
        have m0 : k1 280 x2 = G (83 + 5 * x2) := by
          rw [r1.w0 i2 (by omega), gu_n (by omega)]
        have m1 : k1 281 x2 = G (84 + 5 * x2) := by
          rw [r1.w1 i2 (by omega), gu_n (by omega)]
        have m2 : k1 282 x2 = G (85 + 5 * x2) := by
          rw [r1.w2 i2 (by omega), gu_n (by omega)]
        have m3 : k1 283 x2 = G (86 + 5 * x2) := by
          rw [r1.w3 i2 (by omega), gu_n (by omega)]
        refine ⟨fun q3 z7 e7 => ?_, fun q3 z7 e7 z8 e8 z9 e9 z10 e10 z11 e11 z12 e12 => ?_⟩
        · have hH : sfH x1 g (G (85 + 5 * x2)) = true := by
            unfold sfH
            rw [decide_eq_true q3]
            rfl
          rw [m3] at e7
          subst e7
          refine ⟨fun q4 z8 e8 z9 e9 v2 k2 hs2 v3 k3 hs3 => ?_, fun q4 v2 k2 hs2 => ?_⟩
          · rw [m0] at e8
            rw [m1] at e9
            subst e8 e9
            exact hwed v2 k2 v3 k3 hs2 hs3 (fun r => q4 (r.mp hH))
          · exact hdrop v2 k2 hs2 ⟨fun _ => q4, fun _ => hH⟩
        · rw [m2] at e7
          subst e7
          rw [r1.day, gu_n (by omega), iK 1 (by omega), gu_e rfl] at e8
          have ee : ∀ i, 73 ≤ i → i < 83 → gu G (87 + 5 * x2) (G (87 + 5 * x2) - 1) i = g i := fun i j1 j2 => by
            rw [gu_n (by omega), iK i (by omega), gu_n (by omega)]
          rw [r1.on (by omega) (by omega), ee _ (by omega) (by omega)] at e9
          rw [r1.ev (by omega) (by omega), ee _ (by omega) (by omega)] at e11
          subst e8 e9 e10 e11
          have hH : z12 = 0 ↔ sfH x1 g (G (85 + 5 * x2)) = true := by
            unfold sfH hapF cmF
            rw [decide_eq_false (by omega : ¬ x1 ≠ 0), Bool.false_or, decide_eq_true_eq, e12]
          refine ⟨fun q4 z13 e13 => ?_, fun q4 z13 e13 => ?_⟩
          · rw [m3] at e13
            subst e13
            refine ⟨fun q5 v2 k2 hs2 => ?_, fun q5 z14 e14 z15 e15 v2 k2 hs2 v3 k3 hs3 => ?_⟩
            · exact hdrop v2 k2 hs2 ⟨fun r => absurd (hH.mpr r) q4, fun r => absurd r q5⟩
            · rw [m0] at e14
              rw [m1] at e15
              subst e14 e15
              exact hwed v2 k2 v3 k3 hs2 hs3 (fun r => q4 (hH.mpr (r.mpr q5)))
          · rw [m3] at e13
            subst e13
            refine ⟨fun q5 z14 e14 z15 e15 v2 k2 hs2 v3 k3 hs3 => ?_, fun q5 v2 k2 hs2 => ?_⟩
            · rw [m0] at e14
              rw [m1] at e15
              subst e14 e15
              exact hwed v2 k2 v3 k3 hs2 hs3 (fun r => q5 (r.mp (hH.mp q4)))
            · exact hdrop v2 k2 hs2 ⟨fun _ => q5, fun _ => hH.mp q4⟩
      · rw [if_pos (by omega)] at i5
        rw [wr_id (by omega) (by omega)] at e7
        subst e7
        refine ⟨rfl, rfl, f1, by omega, _, r1, WF_wait iW i2 q (by omega) (by omega), iK.tr (KP.wt i2), by rw [gu_n (by omega)]; omega, ?_⟩
        rw [gu_n (by omega), show G 2 - (x2 + 1) = G 2 - x2 - 1 by omega]
        exact i5
  · rintro x0 x1 x3 k ⟨rfl, rfl, i1, i2, i3, i4⟩ z3 e3 z4 e4
    have o0 : outF (sfH x1 g) (g 2).toNat 0 (gu g 1 (g 1 + 1)) 0 = g 0 := by rw [o2 0 (by omega), gu_n (by omega)]
    have o11 : outF (sfH x1 g) (g 2).toNat 0 (gu g 1 (g 1 + 1)) 1 = g 1 + 1 := by rw [o2 1 (by omega), gu_e rfl]
    have oe : ∀ i, 73 ≤ i → i < 83 → outF (sfH x1 g) (g 2).toNat 0 (gu g 1 (g 1 + 1)) i = g i := fun i j1 j2 => by rw [o2 i (by omega), gu_n (by omega)]
    rw [i4.many, lp_o (by omega), o0] at e3
    subst e3
    rw [wr_id (by omega) (by omega)] at e4
    subst e4
    generalize hG : outF (sfH x1 g) (g 2).toNat 0 (gu g 1 (g 1 + 1)) = G at *
    refine ⟨fun q => ⟨RM_ext i4 (fun i j1 j2 => ?_), i1⟩, fun q z5 e5 v1 k1 hs1 z7 e7 => ?_⟩
    · unfold dayH
      rw [hG]
      have : x3 = 5 * g 0 := by omega
      subst this
      unfold learnF lpF
      rw [o0]
    · rw [xdiv_nn i2 (by omega) (by omega)] at e5
      subst e5
      have pp := o1.per (p := x3 / 5) (by omega) (by omega)
      obtain ⟨rfl, rfl⟩ := sr_learns hs1 (by rw [i4.kind (by omega) (by omega), lp_o (by omega)]) pp.1 pp.2.1
      rw [i4.bel i2 (by omega), lp_o (by omega)] at e7
      have hb := o1.bel (p := x3 / 5) (e := x3 % 5) (by omega) (by omega) (by omega) (by omega)
      rw [show 38 + 5 * (x3 / 5) + x3 % 5 = 38 + x3 by omega] at hb
      have hl := lrn_b (G (3 + 5 * (x3 / 5)))
      subst e7
      -- what is behind, once the value is known
      have fin : ∀ (vv : Int) (k3 : fH) (z10 : Int), vv = lnF (sfH x1 g (x3 % 5)) (G (38 + x3)) (lrnF (G (3 + 5 * (x3 / 5)))) → k3 = fu k1 277 x3 vv → z10 = wr (x3 + 1) → ((271 : Int) = 271 ∧ x1 = x1 ∧ frM h k3 ∧ 0 ≤ z10 ∧ z10 ≤ 5 * g 0 ∧ RM k3 (lpF (sfH x1 g) G z10)) := by
        intro vv k3 z10 hv ek3 e10
        rw [wr_id (by omega) (by omega)] at e10
        subst e10
        have r3 : RM k3 (gu (lpF (sfH x1 g) G x3) (38 + x3) vv) := by
          rw [ek3]
          exact i4.u_bel i2 (by omega)
        refine ⟨rfl, rfl, ?_, by omega, by omega, RM_ext r3 (fun i j1 j2 => ?_)⟩
        · rw [ek3]
          exact i1.up (by omega)
        · by_cases hi : i = 38 + x3
          · subst hi
            rw [gu_e rfl, hv]
            unfold lpF
            rw [if_pos (by omega), show 38 + x3 - 38 = x3 by omega]
          · rw [gu_n hi]
            unfold lpF
            by_cases hc : 38 ≤ i ∧ i < 38 + x3
            · rw [if_pos hc, if_pos (by omega)]
            · rw [if_neg hc, if_neg (by omega)]
      refine ⟨fun q3 z8 e8 v2 k2 hs2 k3 ek3 z10 e10 => ?_, fun q3 z8 e8 z9 e9 z10 e10 z11 e11 z12 e12 z13 e13 => ?_⟩
      · rw [wr_id (by omega) (by omega)] at e8
        subst e8
        obtain ⟨rfl, ev⟩ := sr_held hs2
        refine fin v2 k3 z10 ?_ ek3 e10
        rw [ev]
        have : sfH x1 g (x3 % 5) = true := by
          unfold sfH
          rw [decide_eq_true q3]
          rfl
        rw [this]
        simp only [lnF]
        split <;> split <;> omega
      · rw [xrem_nn i2 (by omega) (by omega)] at e8
        subst e8
        rw [i4.day, lp_o (by omega), o11] at e9
        rw [i4.on (by omega) (by omega), lp_o (by omega), oe _ (by omega) (by omega)] at e10
        rw [i4.ev (by omega) (by omega), lp_o (by omega), oe _ (by omega) (by omega)] at e12
        subst e9 e10 e11 e12
        have hH : z13 = 0 ↔ sfH x1 g (x3 % 5) = true := by
          unfold sfH hapF cmF
          rw [decide_eq_false (by omega : ¬ x1 ≠ 0), Bool.false_or, decide_eq_true_eq, e13]
        refine ⟨fun q4 z14 e14 z15 e15 v2 k2 hs2 k3 ek3 z17 e17 => ?_, fun q4 z14 e14 v2 k2 hs2 k3 ek3 z16 e16 => ?_⟩
        · rw [wr_id (by omega) (by omega)] at e14
          subst e14
          rw [wr_id (by omega) (by omega)] at e15
          subst e15
          obtain ⟨rfl, ev⟩ := sr_held hs2
          refine fin v2 k3 z17 ?_ ek3 e17
          rw [ev]
          have : sfH x1 g (x3 % 5) = false := by
            cases hc : sfH x1 g (x3 % 5)
            · rfl
            · exact absurd (hH.mpr hc) q4
          rw [this]
          simp only [lnF]
          split
          · split <;> omega
          · split
            · omega
            · split <;> omega
        · rw [wr_id (by omega) (by omega)] at e14
          subst e14
          obtain ⟨rfl, ev⟩ := sr_held hs2
          refine fin v2 k3 z16 ?_ ek3 e16
          rw [ev, hH.mp q4]
          simp only [lnF]
          split <;> split <;> omega
theorem sr_day0 (hs : fS 173 [271, 0] h v h') (hR : RM h g) (W : WF g) (hd : g 1 ≤ 4999) : RM h' (dayF g) ∧ frM h h' := by
  have := sr_dayBy hs hR W hd
  have e : sfH 0 g = hapF g (g 1 + 1) := by
    funext e
    unfold sfH
    rw [decide_eq_false (by omega), Bool.false_or]
  rw [e] at this
  exact this
theorem sr_goDays (hs : fS 172 [271, n] h v h') (hR : RM h g) (W : WF g) (hn : 0 ≤ n) (hd : g 1 + n ≤ 5000) : RM h' (dayN n.toNat g) ∧ frM h h' := by
  have hB := W.1
  refine vr_goDays hs (fun x0 x1 x2 k => x0 = 271 ∧ x1 = n ∧ 0 ≤ x2 ∧ x2 ≤ n ∧ RM k (dayN x2.toNat g) ∧ frM h k) (fun v h' => RM h' (dayN n.toNat g) ∧ frM h h') ⟨rfl, rfl, by omega, hn, hR, frM.rf h⟩ ?_
  rintro x0 x1 x2 k ⟨rfl, rfl, i1, i2, i3, i4⟩
  refine ⟨fun q => ?_, fun q v1 k1 hs1 z4 e4 => ?_⟩
  · have : x2 = x1 := by omega
    subst this
    exact ⟨i3, i4⟩
  · obtain ⟨w1, w2, w3⟩ := dayN_ok W x2.toNat (by omega)
    obtain ⟨r1, f1⟩ := sr_day0 hs1 i3 w1 (by omega)
    rw [wr_id (by omega) (by omega)] at e4
    subst e4
    refine ⟨rfl, rfl, by omega, by omega, ?_, i4.tr f1⟩
    rw [show (x2 + 1).toNat = x2.toNat + 1 by omega]
    exact r1
end DR
end
section
/-! towns laid over towns -/
theorem fcp_e {h : fH} {i j n c k : Int} (h1 : c = j) (h2 : 0 ≤ k) (h3 : k < n) : fcp h i j n c k = h i k := if_pos ⟨h1, h2, h3⟩
theorem fcp_c {h : fH} {i j n c k : Int} (h1 : c ≠ j) : fcp h i j n c k = h c k := if_neg (fun q => h1 q.1)
/-- the objects of the class's towns -/
noncomputable def tw (b : Int) : Prop := b = 11 ∨ b = 34 ∨ b = 57 ∨ b = 82 ∨ b = 105 ∨ b = 128 ∨ b = 151 ∨ b = 174 ∨ b = 197 ∨ b = 220 ∨ b = 243
/-- the wagers of a town, one behind the other in some order -/
noncomputable def RW (h : fH) (b : Int) : Prop := (∀ w, 0 ≤ w → w < 3 → b + 20 ≤ h (b + 19) w ∧ h (b + 19) w ≤ b + 22) ∧ (∀ w w', 0 ≤ w → w < w' → w' < 3 → h (b + 19) w ≠ h (b + 19) w')
section CP
variable {h h' h1 h2 : fH} {b b2 v : Int} {g g' G : gV} {p e w s f d z c k a x y n i : Int}
theorem tw_len (hb : tw b) : f_len (b + 1) = 7 ∧ f_len (b + 2) = 7 ∧ f_len (b + 3) = 7 ∧ f_len (b + 4) = 7 ∧ f_len (b + 5) = 7 ∧ f_len (b + 6) = 7 ∧ f_len (b + 7) = 7 ∧ f_len (b + 8) = 7 ∧ f_len (b + 17) = 5 ∧ f_len (b + 18) = 5 := by
  rcases hb with rfl | rfl | rfl | rfl | rfl | rfl | rfl | rfl | rfl | rfl | rfl <;> decide +kernel
theorem tw_row (hb : tw b) (h1 : 0 ≤ p) (h2 : p < 7) : f_len (b + 10 + p) = 5 := by
  have hp : p = 0 ∨ p = 1 ∨ p = 2 ∨ p = 3 ∨ p = 4 ∨ p = 5 ∨ p = 6 := by omega
  rcases hb with rfl | rfl | rfl | rfl | rfl | rfl | rfl | rfl | rfl | rfl | rfl <;> rcases hp with rfl | rfl | rfl | rfl | rfl | rfl | rfl <;> decide +kernel
theorem RC.rw' (hR : RC h b g) : RW h b := hR.2.2.2.2.2
theorem RW.at (hR : RW h b) (h1 : 0 ≤ w) (h2 : w < 3) : b + 20 ≤ h (b + 19) w ∧ h (b + 19) w ≤ b + 22 := hR.1 w h1 h2
theorem RW.ne (hR : RW h b) (h1 : 0 ≤ w) (h2 : w < 3) (h3 : 0 ≤ i) (h4 : i < 3) (h5 : w ≠ i) : h (b + 19) w ≠ h (b + 19) i := by
  rcases Int.lt_or_gt_of_ne h5 with q | q
  · exact hR.2 w i h1 q h4
  · exact (hR.2 i w h3 q h2).symm
theorem RW_frC {b' : Int} (hR : RW h b) (hf : frC b' h h') (hb : b + 22 < b' ∨ b' + 22 < b) : RW h' b := by
  have e : ∀ w, h' (b + 19) w = h (b + 19) w := fun w => hf _ _ (by omega)
  exact ⟨fun w j1 j2 => by rw [e]; exact hR.1 w j1 j2, fun w w' j1 j2 j3 => by rw [e, e]; exact hR.2 w w' j1 j2 j3⟩
theorem sc_copy (hs : fS 24 [a, c] h v h') : h' = fcp h a c (f_len c) := by
  refine vt_copy hs (fun v h' => h' = fcp h a c (f_len c)) ?_
  intro z2 e2 k1 ek1
  rw [ek1, e2]
theorem sc_beLike (hs : fS 25 [a, c] h v h') (hne : a ≠ c) : h' = fcp h c a 5 := by
  refine vg_beLike hs (fun v h' => h' = fcp h c a 5) ?_
  intro z2 e2 k1 ek1 z3 e3 k2 ek2 z4 e4 k3 ek3 z5 e5 k4 ek4 z6 e6 k5 ek5
  rw [ek1, fu_c (Ne.symm hne)] at e3
  rw [ek2, fu_c (Ne.symm hne), ek1, fu_c (Ne.symm hne)] at e4
  rw [ek3, fu_c (Ne.symm hne), ek2, fu_c (Ne.symm hne), ek1, fu_c (Ne.symm hne)] at e5
  rw [ek4, fu_c (Ne.symm hne), ek3, fu_c (Ne.symm hne), ek2, fu_c (Ne.symm hne), ek1, fu_c (Ne.symm hne)] at e6
  funext x j
  by_cases hx : x = a
  · subst hx
    by_cases hj : 0 ≤ j ∧ j < 5
    · rw [fcp_e rfl hj.1 hj.2, ek5]
      by_cases j4 : j = 4
      · rw [fu_e rfl j4, e6, j4]
      · rw [fu_k j4, ek4]
        by_cases j3 : j = 3
        · rw [fu_e rfl j3, e5, j3]
        · rw [fu_k j3, ek3]
          by_cases j2 : j = 2
          · rw [fu_e rfl j2, e4, j2]
          · rw [fu_k j2, ek2]
            by_cases j1 : j = 1
            · rw [fu_e rfl j1, e3, j1]
            · have j0 : j = 0 := by omega
              rw [fu_k j1, ek1, fu_e rfl j0, e2, j0]
    · unfold fcp
      rw [if_neg (by omega), ek5, fu_k (by omega), ek4, fu_k (by omega), ek3, fu_k (by omega), ek2, fu_k (by omega), ek1, fu_k (by omega)]
  · rw [fcp_c hx, ek5, fu_c hx, ek4, fu_c hx, ek3, fu_c hx, ek2, fu_c hx, ek1, fu_c hx]
theorem sc_copyFrom (hs : fS 23 [b, b2] h v h') (hR : RC h b2 g) (hB : BG g) (hW : RW h b) (hb : tw b) (hb2 : tw b2) (hne : b + 22 < b2 ∨ b2 + 22 < b) : RC h' b g ∧ frC b h h' := by
  unfold BG at hB
  obtain ⟨l1, l2, l3, l4, l5, l6, l7, l8, l9, l10⟩ := tw_len hb
  -- the town's cells but rows of beliefs and wagers
  refine vt_copyFrom hs (fun x0 x1 x2 k => x0 = b ∧ x1 = b2 ∧ 0 ≤ x2 ∧ x2 ≤ g 0 ∧ frC b h k ∧ (k b 1 = g 0 ∧ k b 15 = g 1 ∧ k b 14 = g 2) ∧ (∀ p, 0 ≤ p → p < 7 → k (b + 1) p = h (b2 + 1) p ∧ k (b + 2) p = h (b2 + 2) p ∧ k (b + 3) p = h (b2 + 3) p ∧ k (b + 4) p = h (b2 + 4) p ∧ k (b + 5) p = h (b2 + 5) p ∧ k (b + 6) p = h (b2 + 6) p ∧ k (b + 7) p = h (b2 + 7) p ∧ k (b + 8) p = h (b2 + 8) p) ∧ (∀ e, 0 ≤ e → e < 5 → k (b + 17) e = h (b2 + 17) e ∧ k (b + 18) e = h (b2 + 18) e) ∧ (∀ c j, b + 19 ≤ c → c ≤ b + 22 → k c j = h c j) ∧ (∀ q e, 0 ≤ q → q < x2 → 0 ≤ e → e < 5 → k (b + 10 + q) e = h (b2 + 10 + q) e)) (fun x0 x1 x2 k => x0 = b ∧ x1 = b2 ∧ 0 ≤ x2 ∧ x2 ≤ g 2 ∧ frC b h k ∧ (k b 1 = g 0 ∧ k b 15 = g 1 ∧ k b 14 = g 2) ∧ (∀ p, 0 ≤ p → p < 7 → k (b + 1) p = h (b2 + 1) p ∧ k (b + 2) p = h (b2 + 2) p ∧ k (b + 3) p = h (b2 + 3) p ∧ k (b + 4) p = h (b2 + 4) p ∧ k (b + 5) p = h (b2 + 5) p ∧ k (b + 6) p = h (b2 + 6) p ∧ k (b + 7) p = h (b2 + 7) p ∧ k (b + 8) p = h (b2 + 8) p) ∧ (∀ e, 0 ≤ e → e < 5 → k (b + 17) e = h (b2 + 17) e ∧ k (b + 18) e = h (b2 + 18) e) ∧ (∀ j, k (b + 19) j = h (b + 19) j) ∧ (∀ q e, 0 ≤ q → q < g 0 → 0 ≤ e → e < 5 → k (b + 10 + q) e = h (b2 + 10 + q) e) ∧ (∀ w j, 0 ≤ w → w < x2 → 0 ≤ j → j < 5 → k (h (b + 19) w) j = h (h (b2 + 19) w) j)) (fun v h' => RC h' b g ∧ frC b h h') ?_ ?_ ?_
  · intro z2 e2 k1 ek1 z3 e3 k2 ek2 z4 e4 k3 ek3 z5 e5 z6 e6 v4 k4 hs4 z8 e8 z9 e9 v5 k5 hs5 z11 e11 z12 e12 v6 k6 hs6 z14 e14 z15 e15 v7 k7 hs7 z17 e17 z18 e18 v8 k8 hs8 z20 e20 z21 e21 v9 k9 hs9 z23 e23 z24 e24 v10 k10 hs10 z26 e26 z27 e27 v11 k11 hs11 z29 e29 z30 e30 v12 k12 hs12 z32 e32 z33 e33 v13 k13 hs13
    subst e5 e6 e8 e9 e11 e12 e14 e15 e17 e18 e20 e21 e23 e24 e26 e27 e29 e30 e32 e33
    have q4 := sc_copy hs4
    have q5 := sc_copy hs5
    have q6 := sc_copy hs6
    have q7 := sc_copy hs7
    have q8 := sc_copy hs8
    have q9 := sc_copy hs9
    have q10 := sc_copy hs10
    have q11 := sc_copy hs11
    have q12 := sc_copy hs12
    have q13 := sc_copy hs13
    rw [l1] at q4
    rw [l2] at q5
    rw [l3] at q6
    rw [l4] at q7
    rw [l5] at q8
    rw [l6] at q9
    rw [l7] at q10
    rw [l8] at q11
    rw [l9] at q12
    rw [l10] at q13
    rw [hR.many] at e2
    rw [ek1, fu_c (by omega), hR.opn] at e3
    rw [ek2, fu_c (by omega), ek1, fu_c (by omega), hR.day] at e4
    subst e2 e3 e4
    have hO : ∀ c j, c ≠ b → c ≠ b + 1 → c ≠ b + 2 → c ≠ b + 3 → c ≠ b + 4 → c ≠ b + 5 → c ≠ b + 6 → c ≠ b + 7 → c ≠ b + 8 → c ≠ b + 17 → c ≠ b + 18 → k13 c j = h c j := by
      intro c j n0 n1 n2 n3 n4 n5 n6 n7 n8 n9 n10
      rw [q13, fcp_c n10, q12, fcp_c n9, q11, fcp_c n8, q10, fcp_c n7, q9, fcp_c n6, q8, fcp_c n5, q7, fcp_c n4, q6, fcp_c n3, q5, fcp_c n2, q4, fcp_c n1, ek3, fu_c n0, ek2, fu_c n0, ek1, fu_c n0]
    refine ⟨rfl, rfl, by omega, by omega, fun c j hc => hO c j (by omega) (by omega) (by omega) (by omega) (by omega) (by omega) (by omega) (by omega) (by omega) (by omega) (by omega), ⟨?_, ?_, ?_⟩, fun p j1 j2 => ⟨?_, ?_, ?_, ?_, ?_, ?_, ?_, ?_⟩, fun e j1 j2 => ⟨?_, ?_⟩, fun c j j1 j2 => hO c j (by omega) (by omega) (by omega) (by omega) (by omega) (by omega) (by omega) (by omega) (by omega) (by omega) (by omega), fun q e j1 j2 => by omega⟩
    · simp (disch := omega) only [q13, q12, q11, q10, q9, q8, q7, q6, q5, q4, ek3, ek2, ek1, fcp_c, fcp_e, fu_c, fu_e, fu_k]
    · simp (disch := omega) only [q13, q12, q11, q10, q9, q8, q7, q6, q5, q4, ek3, ek2, ek1, fcp_c, fcp_e, fu_c, fu_e, fu_k]
    · simp (disch := omega) only [q13, q12, q11, q10, q9, q8, q7, q6, q5, q4, ek3, ek2, ek1, fcp_c, fcp_e, fu_c, fu_e, fu_k]
    · simp (disch := omega) only [q13, q12, q11, q10, q9, q8, q7, q6, q5, q4, ek3, ek2, ek1, fcp_c, fcp_e, fu_c, fu_e, fu_k]
    · simp (disch := omega) only [q13, q12, q11, q10, q9, q8, q7, q6, q5, q4, ek3, ek2, ek1, fcp_c, fcp_e, fu_c, fu_e, fu_k]
    · simp (disch := omega) only [q13, q12, q11, q10, q9, q8, q7, q6, q5, q4, ek3, ek2, ek1, fcp_c, fcp_e, fu_c, fu_e, fu_k]
    · simp (disch := omega) only [q13, q12, q11, q10, q9, q8, q7, q6, q5, q4, ek3, ek2, ek1, fcp_c, fcp_e, fu_c, fu_e, fu_k]
    · simp (disch := omega) only [q13, q12, q11, q10, q9, q8, q7, q6, q5, q4, ek3, ek2, ek1, fcp_c, fcp_e, fu_c, fu_e, fu_k]
    · simp (disch := omega) only [q13, q12, q11, q10, q9, q8, q7, q6, q5, q4, ek3, ek2, ek1, fcp_c, fcp_e, fu_c, fu_e, fu_k]
    · simp (disch := omega) only [q13, q12, q11, q10, q9, q8, q7, q6, q5, q4, ek3, ek2, ek1, fcp_c, fcp_e, fu_c, fu_e, fu_k]
    · simp (disch := omega) only [q13, q12, q11, q10, q9, q8, q7, q6, q5, q4, ek3, ek2, ek1, fcp_c, fcp_e, fu_c, fu_e, fu_k]
    · simp (disch := omega) only [q13, q12, q11, q10, q9, q8, q7, q6, q5, q4, ek3, ek2, ek1, fcp_c, fcp_e, fu_c, fu_e, fu_k]
    · simp (disch := omega) only [q13, q12, q11, q10, q9, q8, q7, q6, q5, q4, ek3, ek2, ek1, fcp_c, fcp_e, fu_c, fu_e, fu_k]
  · rintro x0 x1 x2 k ⟨rfl, rfl, i1, i2, i3, i4, i5, i6, i7, i8⟩ z3 e3
    rw [i4.1] at e3
    subst e3
    refine ⟨fun q => ?_, fun q z4 e4 z5 e5 z6 e6 z7 e7 v1 k1 hs1 z9 e9 => ?_⟩
    · refine ⟨rfl, rfl, by omega, by omega, i3, i4, i5, i6, fun j => i7 _ _ (by omega) (by omega), fun q e j1 j2 j3 j4 => i8 q e j1 (by omega) j3 j4, fun w j j1 j2 => by omega⟩
    · subst e4 e6
      subst e5 e7
      rw [ofm9, ofm9] at hs1
      have q1 := sc_copy hs1
      rw [tw_row hb i1 (by omega)] at q1
      rw [wr_id (by omega) (by omega)] at e9
      subst e9
      have hO : ∀ c j, c ≠ x0 + 10 + x2 → k1 c j = k c j := fun c j hc => by rw [q1, fcp_c hc]
      refine ⟨rfl, rfl, by omega, by omega, fun c j hc => by rw [hO _ _ (by omega)]; exact i3 c j hc, ?_, fun p j1 j2 => ?_, fun e j1 j2 => ?_, fun c j j1 j2 => ?_, fun q e j1 j2 j3 j4 => ?_⟩
      · rw [hO _ _ (by omega), hO _ _ (by omega), hO _ _ (by omega)]
        exact i4
      · rw [hO (x0 + 1) _ (by omega), hO (x0 + 2) _ (by omega), hO (x0 + 3) _ (by omega), hO (x0 + 4) _ (by omega), hO (x0 + 5) _ (by omega), hO (x0 + 6) _ (by omega), hO (x0 + 7) _ (by omega), hO (x0 + 8) _ (by omega)]
        exact i5 p j1 j2
      · rw [hO (x0 + 17) _ (by omega), hO (x0 + 18) _ (by omega)]
        exact i6 e j1 j2
      · rw [hO _ _ (by omega)]
        exact i7 c j j1 j2
      · by_cases hq : q = x2
        · subst hq
          rw [q1, fcp_e rfl j3 j4]
          exact i3 _ _ (by omega)
        · rw [hO _ _ (by omega)]
          exact i8 q e j1 (by omega) j3 j4
  · rintro x0 x1 x2 k ⟨rfl, rfl, i1, i2, i3, i4, i5, i6, i7, i8, i9⟩ z3 e3
    rw [i4.2.2] at e3
    subst e3
    refine ⟨fun q => ⟨⟨i4, fun p j1 j2 => ?_, fun p e j1 j2 j3 j4 => ?_, fun e j1 j2 => ?_, fun w j j1 j2 j3 j4 => ?_, fun w j1 j2 => ?_, fun w w' j1 j2 j3 => ?_⟩, i3⟩, fun q z4 e4 z5 e5 z6 e6 z7 e7 v1 k1 hs1 z9 e9 => ?_⟩
    · obtain ⟨c1, c2, c3, c4, c5, c6, c7, c8⟩ := i5 p j1 (by omega)
      rw [c1, c2, c3, c4, c5, c6, c7, c8]
      exact hR.2.1 p j1 j2
    · rw [i8 p e j1 j2 j3 j4]
      exact hR.bel j1 j2 j3 j4
    · rw [(i6 e j1 j2).1, (i6 e j1 j2).2]
      exact hR.2.2.2.1 e j1 j2
    · rw [i7, i9 w j j1 (by omega) j3 j4]
      exact hR.wg j1 j2 j3 j4
    · rw [i7]
      exact hW.1 w j1 j2
    · rw [i7, i7]
      exact hW.2 w w' j1 j2 j3
    · subst e4 e6
      have r1 := hW.at i1 (by omega : x2 < 3)
      have r2 := hR.wr i1 (by omega : x2 < 3)
      rw [i7] at e5
      rw [i3 _ _ (by omega)] at e7
      subst e5 e7
      have q1 := sc_beLike hs1 (by omega)
      rw [wr_id (by omega) (by omega)] at e9
      subst e9
      have hO : ∀ c j, c ≠ h (x0 + 19) x2 → k1 c j = k c j := fun c j hc => by rw [q1, fcp_c hc]
      refine ⟨rfl, rfl, by omega, by omega, fun c j hc => by rw [hO _ _ (by omega)]; exact i3 c j hc, ?_, fun p j1 j2 => ?_, fun e j1 j2 => ?_, fun j => ?_, fun q e j1 j2 j3 j4 => ?_, fun w j j1 j2 j3 j4 => ?_⟩
      · rw [hO _ _ (by omega), hO _ _ (by omega), hO _ _ (by omega)]
        exact i4
      · rw [hO (x0 + 1) _ (by omega), hO (x0 + 2) _ (by omega), hO (x0 + 3) _ (by omega), hO (x0 + 4) _ (by omega), hO (x0 + 5) _ (by omega), hO (x0 + 6) _ (by omega), hO (x0 + 7) _ (by omega), hO (x0 + 8) _ (by omega)]
        exact i5 p j1 j2
      · rw [hO (x0 + 17) _ (by omega), hO (x0 + 18) _ (by omega)]
        exact i6 e j1 j2
      · rw [hO _ _ (by omega)]
        exact i7 j
      · rw [hO _ _ (by omega)]
        exact i8 q e j1 j2 j3 j4
      · by_cases hw : w = x2
        · subst hw
          rw [q1, fcp_e rfl j3 j4]
          exact i3 _ _ (by omega)
        · have := hW.ne j1 (by omega) i1 (by omega) hw
          rw [hO _ _ this]
          exact i9 w j j1 (by omega) j3 j4
end CP
end
section
/-! people come -/
section CO
variable {h h' h1 h2 : fH} {b v : Int} {g g' G : gV} {p e w s f d z c k a x y n i : Int}
theorem sk_Suitor_asks (hs : fS 35 [z, f] h v h') (h1 : 0 ≤ f) (h2 : f ≤ 9) : h' = h ∧ v = 5 := by
  refine vk_Suitor_asks hs (fun v h' => h' = h ∧ v = 5) ?_
  exact ⟨rfl, rfl⟩
theorem sk_Aunt_asks (hs : fS 30 [z, f] h v h') (h1 : 0 ≤ f) (h2 : f ≤ 9) : h' = h ∧ v = 6 := by
  refine vk_Aunt_asks hs (fun v h' => h' = h ∧ v = 6) ?_
  intro v1 k1 hs1 z3 e3
  obtain ⟨rfl, rfl⟩ := sk_Suitor_asks hs1 h1 h2
  rw [wr_id (by omega) (by omega)] at e3
  exact ⟨rfl, by omega⟩
theorem sk_Girl_asks (hs : fS 32 [z, f] h v h') (h1 : 0 ≤ f) (h2 : f ≤ 9) : h' = h ∧ v = f := by
  refine vk_Girl_asks hs (fun v h' => h' = h ∧ v = f) ?_
  exact ⟨rfl, rfl⟩
theorem sk_Gambler_asks (hs : fS 31 [z, f] h v h') (h1 : 0 ≤ f) (h2 : f ≤ 9) : h' = h ∧ v = 0 := by
  refine vk_Gambler_asks hs (fun v h' => h' = h ∧ v = 0) ?_
  exact ⟨rfl, rfl⟩
theorem sk_Rich_asks (hs : fS 34 [z, f] h v h') (h1 : 0 ≤ f) (h2 : f ≤ 9) : h' = h ∧ v = 6 + f / 3 := by
  refine vk_Rich_asks hs (fun v h' => h' = h ∧ v = 6 + f / 3) ?_
  intro v1 k1 hs1 z3 e3 z4 e4
  obtain ⟨rfl, rfl⟩ := sk_Aunt_asks hs1 h1 h2
  rw [xdiv_nn h1 (by omega) (by omega)] at e3
  subst e3
  rw [wr_id (by omega) (by omega)] at e4
  exact ⟨rfl, e4⟩
theorem sk_Honest_asks (hs : fS 33 [z, f] h v h') (h1 : 0 ≤ f) (h2 : f ≤ 9) : h' = h ∧ v = 3 := by
  refine vk_Honest_asks hs (fun v h' => h' = h ∧ v = 3) ?_
  intro v1 k1 hs1 z3 e3
  obtain ⟨rfl, rfl⟩ := sk_Gambler_asks hs1 h1 h2
  rw [wr_id (by omega) (by omega)] at e3
  exact ⟨rfl, by omega⟩
theorem sk_Suitor_weeps (hs : fS 41 [z, f] h v h') (h1 : 0 ≤ f) (h2 : f ≤ 9) : h' = h ∧ v = 5 := by
  refine vk_Suitor_weeps hs (fun v h' => h' = h ∧ v = 5) ?_
  exact ⟨rfl, rfl⟩
theorem sk_Aunt_weeps (hs : fS 36 [z, f] h v h') (h1 : 0 ≤ f) (h2 : f ≤ 9) : h' = h ∧ v = 2 := by
  refine vk_Aunt_weeps hs (fun v h' => h' = h ∧ v = 2) ?_
  intro v1 k1 hs1 z3 e3
  obtain ⟨rfl, rfl⟩ := sk_Suitor_weeps hs1 h1 h2
  rw [wr_id (by omega) (by omega)] at e3
  exact ⟨rfl, by omega⟩
theorem sk_Girl_weeps (hs : fS 38 [z, f] h v h') (h1 : 0 ≤ f) (h2 : f ≤ 9) : h' = h ∧ v = 10 := by
  refine vk_Girl_weeps hs (fun v h' => h' = h ∧ v = 10) ?_
  intro v1 k1 hs1 z3 e3
  obtain ⟨rfl, rfl⟩ := sk_Suitor_weeps hs1 h1 h2
  rw [wr_id (by omega) (by omega)] at e3
  exact ⟨rfl, by omega⟩
theorem sk_Gambler_weeps (hs : fS 37 [z, f] h v h') (h1 : 0 ≤ f) (h2 : f ≤ 9) : h' = h ∧ v = 0 := by
  refine vk_Gambler_weeps hs (fun v h' => h' = h ∧ v = 0) ?_
  exact ⟨rfl, rfl⟩
theorem sk_Rich_weeps (hs : fS 40 [z, f] h v h') (h1 : 0 ≤ f) (h2 : f ≤ 9) : h' = h ∧ v = 3 := by
  refine vk_Rich_weeps hs (fun v h' => h' = h ∧ v = 3) ?_
  intro v1 k1 hs1 z3 e3
  obtain ⟨rfl, rfl⟩ := sk_Aunt_weeps hs1 h1 h2
  rw [wr_id (by omega) (by omega)] at e3
  exact ⟨rfl, by omega⟩
theorem sk_Honest_weeps (hs : fS 39 [z, f] h v h') (h1 : 0 ≤ f) (h2 : f ≤ 9) : h' = h ∧ v = f := by
  refine vk_Honest_weeps hs (fun v h' => h' = h ∧ v = f) ?_
  intro v1 k1 hs1 z3 e3
  obtain ⟨rfl, rfl⟩ := sk_Gambler_weeps hs1 h1 h2
  rw [wr_id (by omega) (by omega)] at e3
  exact ⟨rfl, by omega⟩
theorem sk_Suitor_learns (hs : fS 46 [z] h v h') : h' = h ∧ v = 1 := by
  refine vk_Suitor_learns hs (fun v h' => h' = h ∧ v = 1) ?_
  exact ⟨rfl, rfl⟩
theorem sk_Aunt_learns (hs : fS 42 [z] h v h') : h' = h ∧ v = 0 := by
  refine vk_Aunt_learns hs (fun v h' => h' = h ∧ v = 0) ?_
  exact ⟨rfl, rfl⟩
theorem sk_Girl_learns (hs : fS 43 [z] h v h') : h' = h ∧ v = 2 := by
  refine vk_Girl_learns hs (fun v h' => h' = h ∧ v = 2) ?_
  intro v1 k1 hs1 z3 e3
  obtain ⟨rfl, rfl⟩ := sk_Suitor_learns hs1
  rw [wr_id (by omega) (by omega)] at e3
  exact ⟨rfl, by omega⟩
theorem sk_Rich_learns (hs : fS 45 [z] h v h') : h' = h ∧ v = 1 := by
  refine vk_Rich_learns hs (fun v h' => h' = h ∧ v = 1) ?_
  intro v1 k1 hs1 z3 e3
  obtain ⟨rfl, rfl⟩ := sk_Aunt_learns hs1
  rw [wr_id (by omega) (by omega)] at e3
  exact ⟨rfl, by omega⟩
theorem sk_Honest_learns (hs : fS 44 [z] h v h') : h' = h ∧ v = 3 := by
  refine vk_Honest_learns hs (fun v h' => h' = h ∧ v = 3) ?_
  intro v1 k1 hs1 z3 e3
  obtain ⟨rfl, rfl⟩ := sk_Suitor_learns hs1
  rw [wr_id (by omega) (by omega)] at e3
  exact ⟨rfl, by omega⟩
noncomputable def ffl (h : fH) (a c n : Int) : fH := fun x j => if x = a ∧ 0 ≤ j ∧ j < n then c else h x j
theorem ffl_e (h1 : x = a) (h2 : 0 ≤ i) (h3 : i < n) : ffl h a c n x i = c := if_pos ⟨h1, h2, h3⟩
theorem ffl_c (h1 : x ≠ a) : ffl h a c n x i = h x i := if_neg (fun q => h1 q.1)
theorem ffl_k (h1 : i < 0 ∨ n ≤ i) : ffl h a c n x i = h x i := if_neg (fun q => by omega)
theorem sc_fill {c0 : Int} (hs : fS 47 [a, c0] h v h') (hl : f_len a = 5) : h' = ffl h a c0 5 := by
  refine vj_fill hs (fun x0 x1 x2 x3 k => x0 = a ∧ x1 = c0 ∧ x3 = 5 ∧ 0 ≤ x2 ∧ x2 ≤ 5 ∧ k = ffl h a c0 x2) (fun v h' => h' = ffl h a c0 5) ?_ ?_
  · intro z2 e2
    rw [hl] at e2
    refine ⟨rfl, rfl, e2, by omega, by omega, ?_⟩
    funext x j
    rw [ffl_k (by omega)]
  · rintro x0 x1 x2 x3 k ⟨rfl, rfl, rfl, i1, i2, i3⟩
    refine ⟨fun q => ?_, fun q k1 ek1 z4 e4 => ?_⟩
    · have : x2 = 5 := by omega
      subst this
      exact i3
    · rw [wr_id (by omega) (by omega)] at e4
      subst e4
      refine ⟨rfl, rfl, rfl, by omega, by omega, ?_⟩
      rw [ek1, i3]
      funext x j
      by_cases hx : x = x0
      · by_cases hj : j = x2
        · rw [fu_e hx hj, ffl_e hx (by omega) (by omega)]
        · rw [fu_k hj]
          by_cases hj2 : 0 ≤ j ∧ j < x2
          · rw [ffl_e hx hj2.1 hj2.2, ffl_e hx (by omega) (by omega)]
          · rw [ffl_k (by omega), ffl_k (by omega)]
      · rw [fu_c hx, ffl_c hx, ffl_c hx]
/-- a person's cells, once the kind and the figure are told -/
noncomputable def becH (h : fH) (b p k f : Int) : fH := fu (fu (fu (fu (fu h (b + 1) p k) (b + 2) p f) (b + 3) p (askF k f)) (b + 4) p (weeF k f)) (b + 5) p (lrnF k)
theorem sc_become (hs : fS 29 [b, p, k, f] h v h') (h1 : 0 ≤ k) (h2 : k ≤ 5) (h3 : 0 ≤ f) (h4 : f ≤ 9) : h' = becH h b p k f := by
  refine vt_become hs (fun x0 x1 x2 x3 q => x0 = b ∧ x1 = p ∧ x2 = k ∧ x3 = f ∧ q = fu (fu (fu h (b + 1) p k) (b + 2) p f) (b + 3) p (askF k f)) (fun x0 x1 x2 q => x0 = b ∧ x1 = p ∧ x2 = k ∧ q = fu (fu (fu (fu h (b + 1) p k) (b + 2) p f) (b + 3) p (askF k f)) (b + 4) p (weeF k f)) (fun v h' => h' = becH h b p k f) ?_ ?_ ?_
  · intro z4 e4 k1 ek1 z5 e5 k2 ek2 z6 e6 z7 e7
    subst e4 e5 e6
    refine ⟨fun q v3 k3 hs3 k4 ek4 => ?_, fun q0 => ?_⟩
    · have hk : k = 0 := by omega
      subst hk
      obtain ⟨rfl, rfl⟩ := sk_Suitor_asks hs3 h3 h4
      refine ⟨rfl, rfl, rfl, rfl, ?_⟩
      rw [ek4, ek2, ek1]
      rfl
    · skip
      refine ⟨fun q v3 k3 hs3 k4 ek4 => ?_, fun q1 => ?_⟩
      · have hk : k = 1 := by omega
        subst hk
        obtain ⟨rfl, rfl⟩ := sk_Aunt_asks hs3 h3 h4
        refine ⟨rfl, rfl, rfl, rfl, ?_⟩
        rw [ek4, ek2, ek1]
        rfl
      · skip
        refine ⟨fun q v3 k3 hs3 k4 ek4 => ?_, fun q2 => ?_⟩
        · have hk : k = 3 := by omega
          subst hk
          obtain ⟨rfl, rfl⟩ := sk_Gambler_asks hs3 h3 h4
          refine ⟨rfl, rfl, rfl, rfl, ?_⟩
          rw [ek4, ek2, ek1]
          rfl
        · skip
          refine ⟨fun q v3 k3 hs3 k4 ek4 => ?_, fun q3 => ?_⟩
          · have hk : k = 2 := by omega
            subst hk
            obtain ⟨rfl, rfl⟩ := sk_Girl_asks hs3 h3 h4
            refine ⟨rfl, rfl, rfl, rfl, ?_⟩
            rw [ek4, ek2, ek1]
            rfl
          · skip
            refine ⟨fun q v3 k3 hs3 k4 ek4 => ?_, fun q4 => ?_⟩
            · have hk : k = 5 := by omega
              subst hk
              obtain ⟨rfl, rfl⟩ := sk_Honest_asks hs3 h3 h4
              refine ⟨rfl, rfl, rfl, rfl, ?_⟩
              rw [ek4, ek2, ek1]
              rfl
            · skip
              refine ⟨fun q v3 k3 hs3 k4 ek4 => ?_, fun q5 => ?_⟩
              · have hk : k = 4 := by omega
                subst hk
                obtain ⟨rfl, rfl⟩ := sk_Rich_asks hs3 h3 h4
                refine ⟨rfl, rfl, rfl, rfl, ?_⟩
                rw [ek4, ek2, ek1]
                rfl
              · skip
                trivial
  · rintro x0 x1 x2 x3 q ⟨rfl, rfl, rfl, rfl, hq⟩ z4 e4 z5 e5
    subst e4
    refine ⟨fun qq v3 k3 hs3 k4 ek4 => ?_, fun q0 => ?_⟩
    · have hk : x2 = 0 := by omega
      subst hk
      obtain ⟨rfl, rfl⟩ := sk_Suitor_weeps hs3 h3 h4
      refine ⟨rfl, rfl, rfl, ?_⟩
      rw [ek4, hq]
      rfl
    · skip
      refine ⟨fun qq v3 k3 hs3 k4 ek4 => ?_, fun q1 => ?_⟩
      · have hk : x2 = 1 := by omega
        subst hk
        obtain ⟨rfl, rfl⟩ := sk_Aunt_weeps hs3 h3 h4
        refine ⟨rfl, rfl, rfl, ?_⟩
        rw [ek4, hq]
        rfl
      · skip
        refine ⟨fun qq v3 k3 hs3 k4 ek4 => ?_, fun q2 => ?_⟩
        · have hk : x2 = 3 := by omega
          subst hk
          obtain ⟨rfl, rfl⟩ := sk_Gambler_weeps hs3 h3 h4
          refine ⟨rfl, rfl, rfl, ?_⟩
          rw [ek4, hq]
          rfl
        · skip
          refine ⟨fun qq v3 k3 hs3 k4 ek4 => ?_, fun q3 => ?_⟩
          · have hk : x2 = 2 := by omega
            subst hk
            obtain ⟨rfl, rfl⟩ := sk_Girl_weeps hs3 h3 h4
            refine ⟨rfl, rfl, rfl, ?_⟩
            rw [ek4, hq]
            rfl
          · skip
            refine ⟨fun qq v3 k3 hs3 k4 ek4 => ?_, fun q4 => ?_⟩
            · have hk : x2 = 5 := by omega
              subst hk
              obtain ⟨rfl, rfl⟩ := sk_Honest_weeps hs3 h3 h4
              refine ⟨rfl, rfl, rfl, ?_⟩
              rw [ek4, hq]
              rfl
            · skip
              refine ⟨fun qq v3 k3 hs3 k4 ek4 => ?_, fun q5 => ?_⟩
              · have hk : x2 = 4 := by omega
                subst hk
                obtain ⟨rfl, rfl⟩ := sk_Rich_weeps hs3 h3 h4
                refine ⟨rfl, rfl, rfl, ?_⟩
                rw [ek4, hq]
                rfl
              · skip
                trivial
  · rintro x0 x1 x2 q ⟨rfl, rfl, rfl, hq⟩ z3 e3 z4 e4
    subst e3
    refine ⟨fun qq v3 k3 hs3 k4 ek4 => ?_, fun q0 => ?_⟩
    · have hk : x2 = 0 := by omega
      subst hk
      obtain ⟨rfl, rfl⟩ := sk_Suitor_learns hs3
      rw [ek4, hq]
      rfl
    · skip
      refine ⟨fun qq v3 k3 hs3 k4 ek4 => ?_, fun q1 => ?_⟩
      · have hk : x2 = 1 := by omega
        subst hk
        obtain ⟨rfl, rfl⟩ := sk_Aunt_learns hs3
        rw [ek4, hq]
        rfl
      · skip
        refine ⟨fun qq v3 k3 hs3 k4 ek4 => ?_, fun q2 => ?_⟩
        · have hk : x2 = 3 := by omega
          subst hk
          obtain ⟨rfl, rfl⟩ := sk_Suitor_learns hs3
          rw [ek4, hq]
          rfl
        · skip
          refine ⟨fun qq v3 k3 hs3 k4 ek4 => ?_, fun q3 => ?_⟩
          · have hk : x2 = 2 := by omega
            subst hk
            obtain ⟨rfl, rfl⟩ := sk_Girl_learns hs3
            rw [ek4, hq]
            rfl
          · skip
            refine ⟨fun qq v3 k3 hs3 k4 ek4 => ?_, fun q4 => ?_⟩
            · have hk : x2 = 5 := by omega
              subst hk
              obtain ⟨rfl, rfl⟩ := sk_Honest_learns hs3
              rw [ek4, hq]
              rfl
            · skip
              refine ⟨fun qq v3 k3 hs3 k4 ek4 => ?_, fun q5 => ?_⟩
              · have hk : x2 = 4 := by omega
                subst hk
                obtain ⟨rfl, rfl⟩ := sk_Rich_learns hs3
                rw [ek4, hq]
                rfl
              · skip
                trivial
noncomputable def comeG (g : gV) (k f : Int) : gV := fun i => if i = 0 then g 0 + 1 else if i = 3 + 5 * g 0 then k else if i = 4 + 5 * g 0 then f else if i = 5 + 5 * g 0 then g 0 else if i = 6 + 5 * g 0 ∨ i = 7 + 5 * g 0 then 0 else if 38 + 5 * g 0 ≤ i ∧ i < 43 + 5 * g 0 then 5 else g i
theorem WF_come (W : WF g) (hn : g 0 < 7) (h1 : 0 ≤ k) (h2 : k ≤ 5) (h3 : 0 ≤ f) (h4 : f ≤ 9) : WF (comeG g k f) := by
  have hB := W.1
  have c0 : comeG g k f 0 = g 0 + 1 := if_pos rfl
  have co : ∀ i, i ≠ 0 → (i < 3 + 5 * g 0 ∨ (8 + 5 * g 0 ≤ i ∧ i < 38 + 5 * g 0) ∨ 43 + 5 * g 0 ≤ i) → comeG g k f i = g i := fun i j1 j2 => by
    unfold comeG
    rw [if_neg j1, if_neg (by omega), if_neg (by omega), if_neg (by omega), if_neg (by omega), if_neg (by omega)]
  have d3 : comeG g k f (3 + 5 * g 0) = k := by
    unfold comeG
    rw [if_neg (by omega), if_pos rfl]
  have d4 : comeG g k f (4 + 5 * g 0) = f := by
    unfold comeG
    rw [if_neg (by omega), if_neg (by omega), if_pos rfl]
  have d5 : comeG g k f (5 + 5 * g 0) = g 0 := by
    unfold comeG
    rw [if_neg (by omega), if_neg (by omega), if_neg (by omega), if_pos rfl]
  have d6 : comeG g k f (6 + 5 * g 0) = 0 := by
    unfold comeG
    rw [if_neg (by omega), if_neg (by omega), if_neg (by omega), if_neg (by omega), if_pos (by omega)]
  have d7 : comeG g k f (7 + 5 * g 0) = 0 := by
    unfold comeG
    rw [if_neg (by omega), if_neg (by omega), if_neg (by omega), if_neg (by omega), if_pos (by omega)]
  have db : ∀ e, 0 ≤ e → e < 5 → comeG g k f (38 + 5 * g 0 + e) = 5 := fun e j1 j2 => by
    unfold comeG
    rw [if_neg (by omega), if_neg (by omega), if_neg (by omega), if_neg (by omega), if_neg (by omega), if_pos (by omega)]
  refine ⟨?_, fun p j1 j2 => ?_, fun p e j1 j2 j3 j4 => ?_, fun e j1 j2 => ?_, fun x j1 j2 => ?_, fun x x' j1 j2 j3 => ?_⟩
  · rw [c0, co 1 (by omega) (by omega), co 2 (by omega) (by omega)]
    omega
  · rw [c0] at j2
    by_cases hp : p = g 0
    · subst hp
      rw [d3, d4, d5, d6, d7, c0]
      omega
    · have := W.per j1 (by omega)
      rw [c0, co _ (by omega) (by omega), co _ (by omega) (by omega), co _ (by omega) (by omega), co _ (by omega) (by omega), co _ (by omega) (by omega)]
      omega
  · rw [c0] at j2
    by_cases hp : p = g 0
    · subst hp
      rw [db e j3 j4]
      omega
    · rw [co _ (by omega) (by omega)]
      exact W.bel j1 (by omega) j3 j4
  · rw [co _ (by omega) (by omega), co _ (by omega) (by omega)]
    exact W.evt j1 j2
  · rw [co 2 (by omega) (by omega)] at j2
    have wx := W.wag j1 j2
    rw [c0, co (83 + 5 * x) (by omega) (by omega), co (84 + 5 * x) (by omega) (by omega), co (85 + 5 * x) (by omega) (by omega), co (86 + 5 * x) (by omega) (by omega), co (87 + 5 * x) (by omega) (by omega), co (7 + 5 * g (83 + 5 * x)) (by omega) (by omega), co (7 + 5 * g (84 + 5 * x)) (by omega) (by omega)]
    omega
  · rw [co 2 (by omega) (by omega)] at j3
    rw [co (83 + 5 * x) (by omega) (by omega), co (84 + 5 * x) (by omega) (by omega), co (83 + 5 * x') (by omega) (by omega), co (84 + 5 * x') (by omega) (by omega)]
    exact W.2.2.2.2.2 x x' j1 j2 j3
theorem sc_come (hs : fS 28 [b, k, f] h v h') (hR : RC h b g) (W : WF g) (hb : tw b) (hn : g 0 < 7) (h1 : 0 ≤ k) (h2 : k ≤ 5) (h3 : 0 ≤ f) (h4 : f ≤ 9) : RC h' b (comeG g k f) ∧ frC b h h' := by
  have hB := W.1
  refine vt_come hs (fun v h' => RC h' b (comeG g k f) ∧ frC b h h') ?_
  intro z3 e3 v1 k1 hs1 z5 e5 z6 e6 z7 e7 k2 ek2 z8 e8 z9 e9 k3 ek3 z10 e10 z11 e11 k4 ek4 z12 e12 z13 e13 z14 e14 v5 k5 hs5 z16 e16 z17 e17 k6 ek6
  rw [hR.many] at e3
  subst e3 e5 e8 e10 e12
  have q1 := sc_become hs1 h1 h2 h3 h4
  have m1 : k1 b 1 = g 0 := by
    rw [q1]
    unfold becH
    simp (disch := omega) only [fu_c]
    exact hR.many
  rw [m1] at e6 e7
  subst e6 e7
  have m2 : k2 b 1 = g 0 := by
    rw [ek2, fu_c (by omega)]
    exact m1
  rw [m2] at e9
  subst e9
  have m3 : k3 b 1 = g 0 := by
    rw [ek3, fu_c (by omega)]
    exact m2
  rw [m3] at e11
  subst e11
  have m4 : k4 b 1 = g 0 := by
    rw [ek4, fu_c (by omega)]
    exact m3
  rw [m4] at e13
  subst e13
  rw [ofm9] at e14
  subst e14
  have q5 := sc_fill hs5 (tw_row hb (by omega) hn)
  have m5 : k5 b 1 = g 0 := by
    rw [q5, ffl_c (by omega)]
    exact m4
  rw [m5] at e16
  subst e16
  rw [wr_id (by omega) (by omega)] at e17
  subst e17
  have hO : ∀ c j, (c ≠ b ∨ j ≠ 1) → (c ≠ b + 1 ∧ c ≠ b + 2 ∧ c ≠ b + 3 ∧ c ≠ b + 4 ∧ c ≠ b + 5 ∧ c ≠ b + 6 ∧ c ≠ b + 7 ∧ c ≠ b + 8 ∨ j ≠ g 0) → c ≠ b + 10 + g 0 → k6 c j = h c j := by
    intro c j j1 j2 j3
    have s6 : k6 c j = k5 c j := by
      rw [ek6]
      rcases j1 with r | r
      · rw [fu_c r]
      · rw [fu_k r]
    rw [s6, q5, ffl_c j3, ek4, ek3, ek2, q1]
    unfold becH
    rcases j2 with r | r
    · rw [fu_c r.2.2.2.2.2.2.2, fu_c r.2.2.2.2.2.2.1, fu_c r.2.2.2.2.2.1, fu_c r.2.2.2.2.1, fu_c r.2.2.2.1, fu_c r.2.2.1, fu_c r.2.1, fu_c r.1]
    · rw [fu_k r, fu_k r, fu_k r, fu_k r, fu_k r, fu_k r, fu_k r, fu_k r]
  have c0 : comeG g k f 0 = g 0 + 1 := if_pos rfl
  have co : ∀ i, i ≠ 0 → (i < 3 + 5 * g 0 ∨ (8 + 5 * g 0 ≤ i ∧ i < 38 + 5 * g 0) ∨ 43 + 5 * g 0 ≤ i) → comeG g k f i = g i := fun i j1 j2 => by
    unfold comeG
    rw [if_neg j1, if_neg (by omega), if_neg (by omega), if_neg (by omega), if_neg (by omega), if_neg (by omega)]
  clear m1 m2 m3 m4 m5
  refine ⟨⟨⟨?_, ?_, ?_⟩, fun q j1 j2 => ?_, fun q e j1 j2 j3 j4 => ?_, fun e j1 j2 => ?_, fun w j j1 j2 j3 j4 => ?_, fun w j1 j2 => ?_, fun w w' j1 j2 j3 => ?_⟩, fun c j hc => hO c j (by omega) (by omega) (by omega)⟩
  · rw [ek6, fu_e rfl rfl, c0]
  · rw [hO _ _ (by omega) (by omega) (by omega), co 1 (by omega) (by omega)]
    exact hR.day
  · rw [hO _ _ (by omega) (by omega) (by omega), co 2 (by omega) (by omega)]
    exact hR.opn
  · rw [c0] at j2
    by_cases hq : q = g 0
    · have r6 : ∀ c, c ≠ b → c ≠ b + 10 + g 0 → k6 c q = k4 c q := fun c n1 n2 => by
        rw [ek6, fu_c n1, q5, ffl_c n2]
      rw [r6 (b + 1) (by omega) (by omega), r6 (b + 2) (by omega) (by omega), r6 (b + 3) (by omega) (by omega), r6 (b + 4) (by omega) (by omega), r6 (b + 5) (by omega) (by omega), r6 (b + 6) (by omega) (by omega), r6 (b + 7) (by omega) (by omega), r6 (b + 8) (by omega) (by omega)]
      have g3 : comeG g k f (3 + 5 * q) = k := by
        unfold comeG
        rw [if_neg (by omega), if_pos (by omega)]
      have g4 : comeG g k f (4 + 5 * q) = f := by
        unfold comeG
        rw [if_neg (by omega), if_neg (by omega), if_pos (by omega)]
      have g5 : comeG g k f (5 + 5 * q) = g 0 := by
        unfold comeG
        rw [if_neg (by omega), if_neg (by omega), if_neg (by omega), if_pos (by omega)]
      have g6 : comeG g k f (6 + 5 * q) = 0 := by
        unfold comeG
        rw [if_neg (by omega), if_neg (by omega), if_neg (by omega), if_neg (by omega), if_pos (by omega)]
      have g7 : comeG g k f (7 + 5 * q) = 0 := by
        unfold comeG
        rw [if_neg (by omega), if_neg (by omega), if_neg (by omega), if_neg (by omega), if_pos (by omega)]
      rw [g3, g4, g5, g6, g7, ek4, ek3, ek2, q1]
      unfold becH
      refine ⟨?_, ?_, ?_, ?_, ?_, ?_, ?_, ?_⟩
      · simp (disch := omega) only [fu_c, fu_e]
      · simp (disch := omega) only [fu_c, fu_e]
      · simp (disch := omega) only [fu_c, fu_e]
      · simp (disch := omega) only [fu_c, fu_e]
      · simp (disch := omega) only [fu_c, fu_e]
      · simp (disch := omega) only [fu_c, fu_e]
      · simp (disch := omega) only [fu_c, fu_e]
      · simp (disch := omega) only [fu_c, fu_e]
        rfl
    · rw [hO (b + 1) _ (by omega) (by omega) (by omega), hO (b + 2) _ (by omega) (by omega) (by omega), hO (b + 3) _ (by omega) (by omega) (by omega), hO (b + 4) _ (by omega) (by omega) (by omega), hO (b + 5) _ (by omega) (by omega) (by omega), hO (b + 6) _ (by omega) (by omega) (by omega), hO (b + 7) _ (by omega) (by omega) (by omega), hO (b + 8) _ (by omega) (by omega) (by omega)]
      rw [co (3 + 5 * q) (by omega) (by omega), co (4 + 5 * q) (by omega) (by omega), co (5 + 5 * q) (by omega) (by omega), co (6 + 5 * q) (by omega) (by omega), co (7 + 5 * q) (by omega) (by omega)]
      exact hR.2.1 q j1 (by omega)
  · rw [c0] at j2
    by_cases hq : q = g 0
    · rw [ek6, fu_c (by omega), q5, ffl_e (by omega) j3 j4]
      unfold comeG
      rw [if_neg (by omega), if_neg (by omega), if_neg (by omega), if_neg (by omega), if_neg (by omega), if_pos (by omega)]
    · rw [hO _ _ (by omega) (by omega) (by omega), co _ (by omega) (by omega)]
      exact hR.bel j1 (by omega) j3 j4
  · rw [hO (b + 17) _ (by omega) (by omega) (by omega), hO (b + 18) _ (by omega) (by omega) (by omega), co (73 + 2 * e) (by omega) (by omega), co (74 + 2 * e) (by omega) (by omega)]
    exact hR.2.2.2.1 e j1 j2
  · rw [co 2 (by omega) (by omega)] at j2
    have hw := hR.wr j1 (by omega : w < 3)
    rw [hO (b + 19) _ (by omega) (by omega) (by omega), hO _ _ (by omega) (by omega) (by omega), co _ (by omega) (by omega)]
    exact hR.wg j1 j2 j3 j4
  · rw [hO _ _ (by omega) (by omega) (by omega)]
    exact hR.wr j1 j2
  · rw [hO _ _ (by omega) (by omega) (by omega), hO _ _ (by omega) (by omega) (by omega)]
    exact hR.2.2.2.2.2.2 w w' j1 j2 j3
theorem pc_1 {g : gV} {k f : Int} (i : Int) : gu (gu (gu (gu (gu g (3 + 5 * g 0) k) (4 + 5 * g 0) f) (5 + 5 * g 0) (g 0)) (6 + 5 * g 0) 0) (7 + 5 * g 0) 0 i = (if i = 3 + 5 * g 0 then k else if i = 4 + 5 * g 0 then f else if i = 5 + 5 * g 0 then g 0 else if i = 6 + 5 * g 0 ∨ i = 7 + 5 * g 0 then 0 else if 38 + 5 * g 0 ≤ i ∧ i < 38 + 5 * g 0 + 0 then 5 else g i) := by
  unfold gu
  try dsimp only
  by_cases a3 : i = 3 + 5 * g 0
  · rw [if_neg (show ¬ i = 7 + 5 * g 0 by omega), if_neg (show ¬ i = 6 + 5 * g 0 by omega), if_neg (show ¬ i = 5 + 5 * g 0 by omega), if_neg (show ¬ i = 4 + 5 * g 0 by omega), if_pos a3, if_pos a3]
  · by_cases a4 : i = 4 + 5 * g 0
    · rw [if_neg (show ¬ i = 7 + 5 * g 0 by omega), if_neg (show ¬ i = 6 + 5 * g 0 by omega), if_neg (show ¬ i = 5 + 5 * g 0 by omega), if_pos a4, if_neg a3, if_pos a4]
    · by_cases a5 : i = 5 + 5 * g 0
      · rw [if_neg (show ¬ i = 7 + 5 * g 0 by omega), if_neg (show ¬ i = 6 + 5 * g 0 by omega), if_pos a5, if_neg a3, if_neg a4, if_pos a5]
      · by_cases a6 : i = 6 + 5 * g 0
        · rw [if_neg (show ¬ i = 7 + 5 * g 0 by omega), if_pos a6, if_neg a3, if_neg a4, if_neg a5, if_pos (Or.inl a6)]
        · by_cases a7 : i = 7 + 5 * g 0
          · rw [if_pos a7, if_neg a3, if_neg a4, if_neg a5, if_pos (Or.inr a7)]
          · rw [if_neg a7, if_neg a6, if_neg a5, if_neg a4, if_neg a3, if_neg a3, if_neg a4, if_neg a5, if_neg (fun q => q.elim a6 a7), if_neg (show ¬ (38 + 5 * g 0 ≤ i ∧ i < 38 + 5 * g 0 + 0) by omega)]
theorem pc_2 {g : gV} {k f : Int} (i : Int) (hn : 0 ≤ g 0) : gu (fun i => if i = 3 + 5 * g 0 then k else if i = 4 + 5 * g 0 then f else if i = 5 + 5 * g 0 then g 0 else if i = 6 + 5 * g 0 ∨ i = 7 + 5 * g 0 then 0 else if 38 + 5 * g 0 ≤ i ∧ i < 38 + 5 * g 0 + 5 then 5 else g i) 0 (g 0 + 1) i = comeG g k f i := by
  unfold gu comeG
  try dsimp only
  by_cases a0 : i = 0
  · rw [if_pos a0, if_pos a0]
  · rw [if_neg a0, if_neg a0]
    by_cases a3 : i = 3 + 5 * g 0
    · rw [if_pos a3, if_pos a3]
    · rw [if_neg a3, if_neg a3]
      by_cases a4 : i = 4 + 5 * g 0
      · rw [if_pos a4, if_pos a4]
      · rw [if_neg a4, if_neg a4]
        by_cases a5 : i = 5 + 5 * g 0
        · rw [if_pos a5, if_pos a5]
        · rw [if_neg a5, if_neg a5]
          by_cases a6 : i = 6 + 5 * g 0 ∨ i = 7 + 5 * g 0
          · rw [if_pos a6, if_pos a6]
          · rw [if_neg a6, if_neg a6]
            by_cases a8 : 38 + 5 * g 0 ≤ i ∧ i < 43 + 5 * g 0
            · rw [if_pos (show 38 + 5 * g 0 ≤ i ∧ i < 38 + 5 * g 0 + 5 by omega), if_pos a8]
            · rw [if_neg (show ¬ (38 + 5 * g 0 ≤ i ∧ i < 38 + 5 * g 0 + 5) by omega), if_neg a8]
theorem pc_3 {g : gV} {k f x : Int} (i : Int) (hn : 0 ≤ g 0) (h1 : 0 ≤ x) (h2 : x < 5) (h7 : g 0 < 7) : gu (fun i => if i = 3 + 5 * g 0 then k else if i = 4 + 5 * g 0 then f else if i = 5 + 5 * g 0 then g 0 else if i = 6 + 5 * g 0 ∨ i = 7 + 5 * g 0 then 0 else if 38 + 5 * g 0 ≤ i ∧ i < 38 + 5 * g 0 + x then 5 else g i) (38 + (5 * g 0 + x)) 5 i = (if i = 3 + 5 * g 0 then k else if i = 4 + 5 * g 0 then f else if i = 5 + 5 * g 0 then g 0 else if i = 6 + 5 * g 0 ∨ i = 7 + 5 * g 0 then 0 else if 38 + 5 * g 0 ≤ i ∧ i < 38 + 5 * g 0 + (x + 1) then 5 else g i) := by
  unfold gu
  try dsimp only
  by_cases a0 : i = 38 + (5 * g 0 + x)
  · rw [if_pos a0, if_neg (show ¬ i = 3 + 5 * g 0 by omega), if_neg (show ¬ i = 4 + 5 * g 0 by omega), if_neg (show ¬ i = 5 + 5 * g 0 by omega), if_neg (show ¬ (i = 6 + 5 * g 0 ∨ i = 7 + 5 * g 0) by omega), if_pos (show 38 + 5 * g 0 ≤ i ∧ i < 38 + 5 * g 0 + (x + 1) by omega)]
  · rw [if_neg a0]
    by_cases a3 : i = 3 + 5 * g 0
    · rw [if_pos a3, if_pos a3]
    · rw [if_neg a3, if_neg a3]
      by_cases a4 : i = 4 + 5 * g 0
      · rw [if_pos a4, if_pos a4]
      · rw [if_neg a4, if_neg a4]
        by_cases a5 : i = 5 + 5 * g 0
        · rw [if_pos a5, if_pos a5]
        · rw [if_neg a5, if_neg a5]
          by_cases a6 : i = 6 + 5 * g 0 ∨ i = 7 + 5 * g 0
          · rw [if_pos a6, if_pos a6]
          · rw [if_neg a6, if_neg a6]
            by_cases a8 : 38 + 5 * g 0 ≤ i ∧ i < 38 + 5 * g 0 + x
            · rw [if_pos a8, if_pos (show 38 + 5 * g 0 ≤ i ∧ i < 38 + 5 * g 0 + (x + 1) by omega)]
            · rw [if_neg a8, if_neg (show ¬ (38 + 5 * g 0 ≤ i ∧ i < 38 + 5 * g 0 + (x + 1)) by omega)]
theorem sr_personComes (hs : fS 162 [271, k, f] h v h') (hR : RM h g) (W : WF g) : frM h h' ∧ ((k < 6 ∧ g 0 < 7 ∧ v = 1 ∧ RM h' (comeG g k f)) ∨ (¬ (k < 6 ∧ g 0 < 7) ∧ v = 0 ∧ h' = h)) := by
  have hB := W.1
  refine vr_personComes hs (fun x0 x3 x4 q => x0 = 271 ∧ x3 = 1 ∧ k < 6 ∧ g 0 < 7 ∧ frM h q ∧ 0 ≤ x4 ∧ x4 ≤ 5 ∧ RM q (fun i => if i = 3 + 5 * g 0 then k else if i = 4 + 5 * g 0 then f else if i = 5 + 5 * g 0 then g 0 else if i = 6 + 5 * g 0 ∨ i = 7 + 5 * g 0 then 0 else if 38 + 5 * g 0 ≤ i ∧ i < 38 + 5 * g 0 + x4 then 5 else g i)) (fun v h' => frM h h' ∧ ((k < 6 ∧ g 0 < 7 ∧ v = 1 ∧ RM h' (comeG g k f)) ∨ (¬ (k < 6 ∧ g 0 < 7) ∧ v = 0 ∧ h' = h))) ?_ ?_
  · refine ⟨fun q => ⟨frM.rf h, Or.inr ⟨by omega, rfl, rfl⟩⟩, fun q z3 e3 => ?_⟩
    rw [hR.many] at e3
    subst e3
    refine ⟨fun q2 => ⟨frM.rf h, Or.inr ⟨by omega, rfl, rfl⟩⟩, fun q2 z4 e4 k1 ek1 z5 e5 k2 ek2 z6 e6 z7 e7 k3 ek3 z8 e8 k4 ek4 z9 e9 k5 ek5 => ?_⟩
    rw [hR.many] at e4
    subst e4
    have r1 := hR.u_kind (p := g 0) (z := k) (by omega) q2
    rw [← ek1] at r1
    rw [r1.many, gu_n (by omega)] at e5
    subst e5
    have r2 := r1.u_fig (p := g 0) (z := f) (by omega) q2
    rw [← ek2] at r2
    rw [r2.many, gu_n (by omega), gu_n (by omega)] at e6 e7
    subst e6 e7
    have r3 := r2.u_wish (p := g 0) (z := g 0) (by omega) q2
    rw [← ek3] at r3
    rw [r3.many, gu_n (by omega), gu_n (by omega), gu_n (by omega)] at e8
    subst e8
    have r4 := r3.u_tears (p := g 0) (z := 0) (by omega) q2
    rw [← ek4] at r4
    rw [r4.many, gu_n (by omega), gu_n (by omega), gu_n (by omega), gu_n (by omega)] at e9
    subst e9
    have r5 := r4.u_wed (p := g 0) (z := 0) (by omega) q2
    rw [← ek5] at r5
    refine ⟨rfl, rfl, q, q2, ?_, by omega, by omega, RM_ext r5 (fun i j1 j2 => ?_)⟩
    · rw [ek5, ek4, ek3, ek2, ek1]
      exact (((((frM.rf h).up (by omega)).up (by omega)).up (by omega)).up (by omega)).up (by omega)
    · exact pc_1 i
  · rintro x0 x3 x4 q ⟨rfl, rfl, i1, i2, i3, i4, i5, i6⟩
    have m0 := i6.many
    rw [if_neg (by omega), if_neg (by omega), if_neg (by omega), if_neg (by omega), if_neg (by omega)] at m0
    refine ⟨fun q2 z3 e3 z4 e4 k1 ek1 => ?_, fun q2 z3 e3 z4 e4 z5 e5 k1 ek1 z6 e6 => ?_⟩
    · rw [m0] at e3
      subst e3
      rw [wr_id (by omega) (by omega)] at e4
      subst e4
      have r1 := i6.u_many (z := g 0 + 1)
      rw [← ek1] at r1
      have hx : x4 = 5 := by omega
      subst hx
      refine ⟨?_, Or.inl ⟨i1, i2, rfl, RM_ext r1 (fun i j1 j2 => ?_)⟩⟩
      · rw [ek1]
        exact i3.up (by omega)
      · exact pc_2 i hB.1
    · rw [m0] at e3
      subst e3
      rw [wr_id (by omega) (by omega)] at e4
      subst e4
      rw [wr_id (by omega) (by omega)] at e5 e6
      subst e5 e6
      have r1 := i6.u_bel (i := 5 * g 0 + x4) (z := 5) (by omega) (by omega)
      rw [← ek1] at r1
      refine ⟨rfl, rfl, i1, i2, ?_, by omega, by omega, RM_ext r1 (fun i j1 j2 => ?_)⟩
      · rw [ek1]
        exact i3.up (by omega)
      · exact pc_3 i hB.1 i4 (by omega) i2
end CO
end
