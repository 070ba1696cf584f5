/-! what the methods do, in words of a town as a row of 113 ints (the order in which the reference lays it down): 0 how many, 1 the day, 2 how many wagers; 3 + 5 p .. kind, figure, wish, tears, wed (0 or one more than with whom); 38 + 5 p + e beliefs; 73 + 2 e .. every, on; 83 + 5 w .. one, other, event, side, wait -/
theorem wr_id {z : Int} (h1 : -2147483648 ≤ z) (h2 : z ≤ 2147483647) : wr z = z := Int.bmod_eq_of_le (by omega) (by omega)
theorem fu_e {h : fH} {c k z c' k' : Int} (h1 : c' = c) (h2 : k' = k) : fu h c k z c' k' = z := if_pos ⟨h1, h2⟩
theorem fu_c {h : fH} {c k z c' k' : Int} (h1 : c' ≠ c) : fu h c k z c' k' = h c' k' := if_neg (fun q => h1 q.1)
theorem fu_k {h : fH} {c k z c' k' : Int} (h1 : k' ≠ k) : fu h c k z c' k' = h c' k' := if_neg (fun q => h1 q.2)
abbrev gV : Type := Int → Int
def gu (g : gV) (i z : Int) : gV := fun j => if j = i then z else g j
theorem gu_e {g : gV} {i z j : Int} (h1 : j = i) : gu g i z j = z := if_pos h1
theorem gu_n {g : gV} {i z j : Int} (h1 : j ≠ i) : gu g i z j = g j := if_neg h1
theorem ofm9 (a x : Int) : a + 9 + 1 + 1 * x = a + 10 + x := by omega
-- kinds
def askF (k f : Int) : Int := if k = 0 then 5 else if k = 1 then 6 else if k = 2 then f else if k = 3 then 0 else if k = 4 then 6 + f / 3 else 3
def weeF (k f : Int) : Int := if k = 0 then 5 else if k = 1 then 2 else if k = 2 then 10 else if k = 3 then 0 else if k = 4 then 3 else f
def lrnF (k : Int) : Int := if k = 1 then 0 else if k = 2 then 2 else if k = 5 then 3 else 1
def wedF (z : Int) : Int := if z = 0 then -9 else z - 1
-- the reference's town
def mc (i : Int) : Int := if i < 3 then 271 else if i < 38 then 272 + (i - 3) % 5 else if i < 73 then 277 else if i < 83 then 278 + (i - 73) % 2 else 280 + (i - 83) % 5
def ms (i : Int) : Int := if i = 0 then 0 else if i = 1 then 15 else if i = 2 then 9 else if i < 38 then (i - 3) / 5 else if i < 73 then i - 38 else if i < 83 then (i - 73) / 2 else (i - 83) / 5
def RM (h : fH) (g : gV) : Prop := ∀ i, 0 ≤ i → i < 113 → h (mc i) (ms i) = g i
theorem m_inj {i j : Int} (h1 : 0 ≤ i) (h2 : i < 113) (h3 : 0 ≤ j) (h4 : j < 113) (e1 : mc i = mc j) (e2 : ms i = ms j) : i = j := by
  unfold mc at e1
  unfold ms at e2
  omega
theorem RM_at {h : fH} {g : gV} (hR : RM h g) {c k : Int} (i : Int) (h1 : 0 ≤ i) (h2 : i < 113) (e1 : mc i = c) (e2 : ms i = k) : h c k = g i := by
  rw [← e1, ← e2]
  exact hR i h1 h2
theorem RM_up {h : fH} {g : gV} (hR : RM h g) {c k z : Int} (i : Int) (h1 : 0 ≤ i) (h2 : i < 113) (e1 : mc i = c) (e2 : ms i = k) : RM (fu h c k z) (gu g i z) := fun j h3 h4 => by
  by_cases hj : j = i
  · subst hj
    rw [fu_e e1 e2, gu_e rfl]
  · rw [gu_n hj, ← hR j h3 h4]
    unfold fu
    rw [if_neg]
    rintro ⟨q1, q2⟩
    exact hj (m_inj h3 h4 h1 h2 (q1.trans e1.symm) (q2.trans e2.symm))
theorem RM_sk {h : fH} {g : gV} (hR : RM h g) {c k z : Int} (hc : c < 271 ∨ 284 < c ∨ (c = 271 ∧ k ≠ 0 ∧ k ≠ 15 ∧ k ≠ 9)) : RM (fu h c k z) g := fun j h3 h4 => by
  rw [← hR j h3 h4]
  unfold fu
  rw [if_neg]
  rintro ⟨q1, q2⟩
  unfold mc at q1
  unfold ms at q2
  omega
theorem RM_cg {h h' : fH} {g : gV} (hR : RM h g) (hc : ∀ c k, 271 ≤ c → c ≤ 284 → (c = 271 → k = 0 ∨ k = 15 ∨ k = 9) → h' c k = h c k) : RM h' g := fun j h3 h4 => by
  rw [← hR j h3 h4]
  refine hc _ _ ?_ ?_ ?_
  · unfold mc
    omega
  · unfold mc
    omega
  · unfold mc ms
    omega
section RMr
variable {h : fH} {g : gV} {p e w i z : Int}
theorem RM.many (hR : RM h g) : h 271 0 = g 0 := RM_at hR 0 (by omega) (by omega) rfl rfl
theorem RM.day (hR : RM h g) : h 271 15 = g 1 := RM_at hR 1 (by omega) (by omega) rfl rfl
theorem RM.opn (hR : RM h g) : h 271 9 = g 2 := RM_at hR 2 (by omega) (by omega) rfl rfl
theorem RM.kind (hR : RM h g) (h1 : 0 ≤ p) (h2 : p < 7) : h 272 p = g (3 + 5 * p) := RM_at hR _ (by omega) (by omega) (by unfold mc; omega) (by unfold ms; omega)
theorem RM.fig (hR : RM h g) (h1 : 0 ≤ p) (h2 : p < 7) : h 273 p = g (4 + 5 * p) := RM_at hR _ (by omega) (by omega) (by unfold mc; omega) (by unfold ms; omega)
theorem RM.wish (hR : RM h g) (h1 : 0 ≤ p) (h2 : p < 7) : h 274 p = g (5 + 5 * p) := RM_at hR _ (by omega) (by omega) (by unfold mc; omega) (by unfold ms; omega)
theorem RM.tears (hR : RM h g) (h1 : 0 ≤ p) (h2 : p < 7) : h 275 p = g (6 + 5 * p) := RM_at hR _ (by omega) (by omega) (by unfold mc; omega) (by unfold ms; omega)
theorem RM.wed (hR : RM h g) (h1 : 0 ≤ p) (h2 : p < 7) : h 276 p = g (7 + 5 * p) := RM_at hR _ (by omega) (by omega) (by unfold mc; omega) (by unfold ms; omega)
theorem RM.bel (hR : RM h g) (h1 : 0 ≤ i) (h2 : i < 35) : h 277 i = g (38 + i) := RM_at hR _ (by omega) (by omega) (by unfold mc; omega) (by unfold ms; omega)
theorem RM.ev (hR : RM h g) (h1 : 0 ≤ e) (h2 : e < 5) : h 278 e = g (73 + 2 * e) := RM_at hR _ (by omega) (by omega) (by unfold mc; omega) (by unfold ms; omega)
theorem RM.on (hR : RM h g) (h1 : 0 ≤ e) (h2 : e < 5) : h 279 e = g (74 + 2 * e) := RM_at hR _ (by omega) (by omega) (by unfold mc; omega) (by unfold ms; omega)
theorem RM.w0 (hR : RM h g) (h1 : 0 ≤ w) (h2 : w < 6) : h 280 w = g (83 + 5 * w) := RM_at hR _ (by omega) (by omega) (by unfold mc; omega) (by unfold ms; omega)
theorem RM.w1 (hR : RM h g) (h1 : 0 ≤ w) (h2 : w < 6) : h 281 w = g (84 + 5 * w) := RM_at hR _ (by omega) (by omega) (by unfold mc; omega) (by unfold ms; omega)
theorem RM.w2 (hR : RM h g) (h1 : 0 ≤ w) (h2 : w < 6) : h 282 w = g (85 + 5 * w) := RM_at hR _ (by omega) (by omega) (by unfold mc; omega) (by unfold ms; omega)
theorem RM.w3 (hR : RM h g) (h1 : 0 ≤ w) (h2 : w < 6) : h 283 w = g (86 + 5 * w) := RM_at hR _ (by omega) (by omega) (by unfold mc; omega) (by unfold ms; omega)
theorem RM.w4 (hR : RM h g) (h1 : 0 ≤ w) (h2 : w < 6) : h 284 w = g (87 + 5 * w) := RM_at hR _ (by omega) (by omega) (by unfold mc; omega) (by unfold ms; omega)
theorem RM.u_many (hR : RM h g) : RM (fu h 271 0 z) (gu g 0 z) := RM_up hR 0 (by omega) (by omega) rfl rfl
theorem RM.u_day (hR : RM h g) : RM (fu h 271 15 z) (gu g 1 z) := RM_up hR 1 (by omega) (by omega) rfl rfl
theorem RM.u_open (hR : RM h g) : RM (fu h 271 9 z) (gu g 2 z) := RM_up hR 2 (by omega) (by omega) rfl rfl
theorem RM.u_kind (hR : RM h g) (h1 : 0 ≤ p) (h2 : p < 7) : RM (fu h 272 p z) (gu g (3 + 5 * p) z) := RM_up hR _ (by omega) (by omega) (by unfold mc; omega) (by unfold ms; omega)
theorem RM.u_fig (hR : RM h g) (h1 : 0 ≤ p) (h2 : p < 7) : RM (fu h 273 p z) (gu g (4 + 5 * p) z) := RM_up hR _ (by omega) (by omega) (by unfold mc; omega) (by unfold ms; omega)
theorem RM.u_wish (hR : RM h g) (h1 : 0 ≤ p) (h2 : p < 7) : RM (fu h 274 p z) (gu g (5 + 5 * p) z) := RM_up hR _ (by omega) (by omega) (by unfold mc; omega) (by unfold ms; omega)
theorem RM.u_tears (hR : RM h g) (h1 : 0 ≤ p) (h2 : p < 7) : RM (fu h 275 p z) (gu g (6 + 5 * p) z) := RM_up hR _ (by omega) (by omega) (by unfold mc; omega) (by unfold ms; omega)
theorem RM.u_wed (hR : RM h g) (h1 : 0 ≤ p) (h2 : p < 7) : RM (fu h 276 p z) (gu g (7 + 5 * p) z) := RM_up hR _ (by omega) (by omega) (by unfold mc; omega) (by unfold ms; omega)
theorem RM.u_bel (hR : RM h g) (h1 : 0 ≤ i) (h2 : i < 35) : RM (fu h 277 i z) (gu g (38 + i) z) := RM_up hR _ (by omega) (by omega) (by unfold mc; omega) (by unfold ms; omega)
theorem RM.u_ev (hR : RM h g) (h1 : 0 ≤ e) (h2 : e < 5) : RM (fu h 278 e z) (gu g (73 + 2 * e) z) := RM_up hR _ (by omega) (by omega) (by unfold mc; omega) (by unfold ms; omega)
theorem RM.u_on (hR : RM h g) (h1 : 0 ≤ e) (h2 : e < 5) : RM (fu h 279 e z) (gu g (74 + 2 * e) z) := RM_up hR _ (by omega) (by omega) (by unfold mc; omega) (by unfold ms; omega)
theorem RM.u_w0 (hR : RM h g) (h1 : 0 ≤ w) (h2 : w < 6) : RM (fu h 280 w z) (gu g (83 + 5 * w) z) := RM_up hR _ (by omega) (by omega) (by unfold mc; omega) (by unfold ms; omega)
theorem RM.u_w1 (hR : RM h g) (h1 : 0 ≤ w) (h2 : w < 6) : RM (fu h 281 w z) (gu g (84 + 5 * w) z) := RM_up hR _ (by omega) (by omega) (by unfold mc; omega) (by unfold ms; omega)
theorem RM.u_w2 (hR : RM h g) (h1 : 0 ≤ w) (h2 : w < 6) : RM (fu h 282 w z) (gu g (85 + 5 * w) z) := RM_up hR _ (by omega) (by omega) (by unfold mc; omega) (by unfold ms; omega)
theorem RM.u_w3 (hR : RM h g) (h1 : 0 ≤ w) (h2 : w < 6) : RM (fu h 283 w z) (gu g (86 + 5 * w) z) := RM_up hR _ (by omega) (by omega) (by unfold mc; omega) (by unfold ms; omega)
theorem RM.u_w4 (hR : RM h g) (h1 : 0 ≤ w) (h2 : w < 6) : RM (fu h 284 w z) (gu g (87 + 5 * w) z) := RM_up hR _ (by omega) (by omega) (by unfold mc; omega) (by unfold ms; omega)
end RMr
-- the class's town whose object is cell b
def RC (h : fH) (b : Int) (g : gV) : Prop :=
  (h b 1 = g 0 ∧ h b 15 = g 1 ∧ h b 14 = g 2) ∧
  (∀ p, 0 ≤ p → p < g 0 → h (b + 1) p = g (3 + 5 * p) ∧ h (b + 2) p = g (4 + 5 * p) ∧ h (b + 3) p = askF (g (3 + 5 * p)) (g (4 + 5 * p)) ∧ h (b + 4) p = weeF (g (3 + 5 * p)) (g (4 + 5 * p)) ∧ h (b + 5) p = lrnF (g (3 + 5 * p)) ∧ h (b + 6) p = g (5 + 5 * p) ∧ h (b + 7) p = g (6 + 5 * p) ∧ h (b + 8) p = wedF (g (7 + 5 * p))) ∧
  (∀ p e, 0 ≤ p → p < g 0 → 0 ≤ e → e < 5 → h (b + 10 + p) e = g (38 + 5 * p + e)) ∧
  (∀ e, 0 ≤ e → e < 5 → h (b + 17) e = g (73 + 2 * e) ∧ h (b + 18) e = g (74 + 2 * e)) ∧
  (∀ w j, 0 ≤ w → w < g 2 → 0 ≤ j → j < 5 → h (h (b + 19) w) j = g (83 + 5 * w + j)) ∧
  (∀ w, 0 ≤ w → w < 3 → b + 20 ≤ h (b + 19) w ∧ h (b + 19) w ≤ b + 22) ∧
  (∀ w w', 0 ≤ w → w < w' → w' < 3 → h (b + 19) w ≠ h (b + 19) w')
-- a good town
def WF (g : gV) : Prop :=
  (0 ≤ g 0 ∧ g 0 ≤ 7 ∧ 0 ≤ g 1 ∧ g 1 ≤ 5000 ∧ 0 ≤ g 2 ∧ g 2 ≤ 3) ∧
  (∀ p, 0 ≤ p → p < g 0 → 0 ≤ g (3 + 5 * p) ∧ g (3 + 5 * p) ≤ 5 ∧ 0 ≤ g (4 + 5 * p) ∧ g (4 + 5 * p) ≤ 9 ∧ 0 ≤ g (5 + 5 * p) ∧ g (5 + 5 * p) ≤ 6 ∧ 0 ≤ g (6 + 5 * p) ∧ g (6 + 5 * p) ≤ 99 ∧ 0 ≤ g (7 + 5 * p) ∧ g (7 + 5 * p) ≤ g 0) ∧
  (∀ p e, 0 ≤ p → p < g 0 → 0 ≤ e → e < 5 → 0 ≤ g (38 + 5 * p + e) ∧ g (38 + 5 * p + e) ≤ 9) ∧
  (∀ e, 0 ≤ e → e < 5 → 1 ≤ g (73 + 2 * e) ∧ g (73 + 2 * e) ≤ 9 ∧ 0 ≤ g (74 + 2 * e) ∧ g (74 + 2 * e) ≤ 8) ∧
  (∀ w, 0 ≤ w → w < g 2 → 0 ≤ g (83 + 5 * w) ∧ g (83 + 5 * w) < g 0 ∧ 0 ≤ g (84 + 5 * w) ∧ g (84 + 5 * w) < g 0 ∧ g (83 + 5 * w) ≠ g (84 + 5 * w) ∧ 0 ≤ g (85 + 5 * w) ∧ g (85 + 5 * w) < 5 ∧ 0 ≤ g (86 + 5 * w) ∧ g (86 + 5 * w) ≤ 1 ∧ 1 ≤ g (87 + 5 * w) ∧ g (87 + 5 * w) ≤ 9 ∧ g (7 + 5 * g (83 + 5 * w)) = 0 ∧ g (7 + 5 * g (84 + 5 * w)) = 0) ∧
  (∀ w w', 0 ≤ w → w < w' → w' < g 2 → g (83 + 5 * w) ≠ g (83 + 5 * w') ∧ g (83 + 5 * w) ≠ g (84 + 5 * w') ∧ g (84 + 5 * w) ≠ g (83 + 5 * w') ∧ g (84 + 5 * w) ≠ g (84 + 5 * w'))
def BG (g : gV) : Prop := 0 ≤ g 0 ∧ g 0 ≤ 7 ∧ 0 ≤ g 2 ∧ g 2 ≤ 3
theorem WF.bg {g : gV} (W : WF g) : BG g := ⟨W.1.1, W.1.2.1, W.1.2.2.2.2.1, W.1.2.2.2.2.2⟩
section RCr
variable {h h' : fH} {b : Int} {g g' : gV} {p e w i j z c k : Int}
theorem RC.many (hR : RC h b g) : h b 1 = g 0 := hR.1.1
theorem RC.day (hR : RC h b g) : h b 15 = g 1 := hR.1.2.1
theorem RC.opn (hR : RC h b g) : h b 14 = g 2 := hR.1.2.2
theorem RC.kind (hR : RC h b g) (h1 : 0 ≤ p) (h2 : p < g 0) : h (b + 1) p = g (3 + 5 * p) := (hR.2.1 p h1 h2).1
theorem RC.fig (hR : RC h b g) (h1 : 0 ≤ p) (h2 : p < g 0) : h (b + 2) p = g (4 + 5 * p) := (hR.2.1 p h1 h2).2.1
theorem RC.ask (hR : RC h b g) (h1 : 0 ≤ p) (h2 : p < g 0) : h (b + 3) p = askF (g (3 + 5 * p)) (g (4 + 5 * p)) := (hR.2.1 p h1 h2).2.2.1
theorem RC.wee (hR : RC h b g) (h1 : 0 ≤ p) (h2 : p < g 0) : h (b + 4) p = weeF (g (3 + 5 * p)) (g (4 + 5 * p)) := (hR.2.1 p h1 h2).2.2.2.1
theorem RC.lrn (hR : RC h b g) (h1 : 0 ≤ p) (h2 : p < g 0) : h (b + 5) p = lrnF (g (3 + 5 * p)) := (hR.2.1 p h1 h2).2.2.2.2.1
theorem RC.wish (hR : RC h b g) (h1 : 0 ≤ p) (h2 : p < g 0) : h (b + 6) p = g (5 + 5 * p) := (hR.2.1 p h1 h2).2.2.2.2.2.1
theorem RC.tears (hR : RC h b g) (h1 : 0 ≤ p) (h2 : p < g 0) : h (b + 7) p = g (6 + 5 * p) := (hR.2.1 p h1 h2).2.2.2.2.2.2.1
theorem RC.wed (hR : RC h b g) (h1 : 0 ≤ p) (h2 : p < g 0) : h (b + 8) p = wedF (g (7 + 5 * p)) := (hR.2.1 p h1 h2).2.2.2.2.2.2.2
theorem RC.bel (hR : RC h b g) (h1 : 0 ≤ p) (h2 : p < g 0) (h3 : 0 ≤ e) (h4 : e < 5) : h (b + 10 + p) e = g (38 + 5 * p + e) := hR.2.2.1 p e h1 h2 h3 h4
theorem RC.ev (hR : RC h b g) (h3 : 0 ≤ e) (h4 : e < 5) : h (b + 17) e = g (73 + 2 * e) := (hR.2.2.2.1 e h3 h4).1
theorem RC.on (hR : RC h b g) (h3 : 0 ≤ e) (h4 : e < 5) : h (b + 18) e = g (74 + 2 * e) := (hR.2.2.2.1 e h3 h4).2
theorem RC.wg (hR : RC h b g) (h1 : 0 ≤ w) (h2 : w < g 2) (h3 : 0 ≤ j) (h4 : j < 5) : h (h (b + 19) w) j = g (83 + 5 * w + j) := hR.2.2.2.2.1 w j h1 h2 h3 h4
theorem RC.wr (hR : RC h b g) (h1 : 0 ≤ w) (h2 : w < 3) : b + 20 ≤ h (b + 19) w ∧ h (b + 19) w ≤ b + 22 := hR.2.2.2.2.2.1 w h1 h2
theorem RC.wn (hR : RC h b g) (h1 : 0 ≤ w) (h2 : w < 3) (h3 : 0 ≤ i) (h4 : i < 3) (h5 : w ≠ i) : h (b + 19) w ≠ h (b + 19) i := by
  rcases Int.lt_or_gt_of_ne h5 with q | q
  · exact hR.2.2.2.2.2.2 w i h1 q h4
  · exact (hR.2.2.2.2.2.2 i w h3 q h2).symm
/-- only the town's own cells count -/
theorem RC_cg (hR : RC h b g) (hB : BG g) (hc : ∀ c k, b ≤ c → c ≤ b + 22 → h' c k = h c k) : RC h' b g := by
  unfold BG at hB
  have e19 : ∀ w, h' (b + 19) w = h (b + 19) w := fun w => hc _ _ (by omega) (by omega)
  refine ⟨⟨?_, ?_, ?_⟩, fun p h3 h4 => ?_, fun p e h3 h4 h5 h6 => ?_, fun e h3 h4 => ?_, fun w j h3 h4 h5 h6 => ?_, fun w h3 h4 => ?_, fun w w' h3 h4 h5 => ?_⟩
  · rw [hc b 1 (by omega) (by omega)]; exact hR.many
  · rw [hc b 15 (by omega) (by omega)]; exact hR.day
  · rw [hc b 14 (by omega) (by omega)]; exact hR.opn
  · rw [hc (b + 1) _ (by omega) (by omega), hc (b + 2) _ (by omega) (by omega), hc (b + 3) _ (by omega) (by omega), hc (b + 4) _ (by omega) (by omega), hc (b + 5) _ (by omega) (by omega), hc (b + 6) _ (by omega) (by omega), hc (b + 7) _ (by omega) (by omega), hc (b + 8) _ (by omega) (by omega)]
    exact hR.2.1 p h3 h4
  · rw [hc (b + 10 + p) _ (by omega) (by omega)]
    exact hR.bel h3 h4 h5 h6
  · rw [hc (b + 17) _ (by omega) (by omega), hc (b + 18) _ (by omega) (by omega)]
    exact hR.2.2.2.1 e h3 h4
  · have := hR.wr h3 (by omega : w < 3)
    rw [e19, hc _ _ (by omega) (by omega)]
    exact hR.wg h3 h4 h5 h6
  · rw [e19]
    exact hR.wr h3 h4
  · rw [e19, e19]
    exact hR.2.2.2.2.2.2 w w' h3 h4 h5
/-- a store outside of the town -/
theorem RC_sk (hR : RC h b g) (hB : BG g) (hc : c < b ∨ b + 22 < c) : RC (fu h c k z) b g := RC_cg hR hB (fun c' k' h1 h2 => fu_c (by omega))
theorem RC.u_wish (hR : RC h b g) (hB : BG g) (h1 : 0 ≤ p) (h2 : p < g 0) : RC (fu h (b + 6) p z) b (gu g (5 + 5 * p) z) := by
  unfold BG at hB
  refine ⟨⟨?_, ?_, ?_⟩, fun q h3 h4 => ?_, fun q e h3 h4 h5 h6 => ?_, fun e h3 h4 => ?_, fun w j h3 h4 h5 h6 => ?_, fun w h3 h4 => ?_, fun w w' h3 h4 h5 => ?_⟩
  · simp (disch := omega) only [fu_e, fu_c, fu_k, gu_e, gu_n]
    exact hR.many
  · simp (disch := omega) only [fu_e, fu_c, fu_k, gu_e, gu_n]
    exact hR.day
  · simp (disch := omega) only [fu_e, fu_c, fu_k, gu_e, gu_n]
    exact hR.opn
  · simp (disch := omega) only [fu_e, fu_c, fu_k, gu_e, gu_n] at h4
    by_cases hq : q = p
    · subst hq
      simp (disch := omega) only [fu_e, fu_c, fu_k, gu_e, gu_n]
      exact ⟨hR.kind h3 h4, hR.fig h3 h4, hR.ask h3 h4, hR.wee h3 h4, hR.lrn h3 h4, trivial, hR.tears h3 h4, hR.wed h3 h4⟩
    · simp (disch := omega) only [fu_e, fu_c, fu_k, gu_e, gu_n]
      exact hR.2.1 q h3 h4
  · simp (disch := omega) only [fu_e, fu_c, fu_k, gu_e, gu_n] at h4
    simp (disch := omega) only [fu_e, fu_c, fu_k, gu_e, gu_n]
    exact hR.bel h3 h4 h5 h6
  · simp (disch := omega) only [fu_e, fu_c, fu_k, gu_e, gu_n]
    exact hR.2.2.2.1 e h3 h4
  · simp (disch := omega) only [fu_e, fu_c, fu_k, gu_e, gu_n] at h4
    have hw := hR.wr h3 (by omega : w < 3)
    simp (disch := omega) only [fu_e, fu_c, fu_k, gu_e, gu_n]
    exact hR.wg h3 h4 h5 h6
  · simp (disch := omega) only [fu_e, fu_c, fu_k, gu_e, gu_n]
    exact hR.wr h3 h4
  · simp (disch := omega) only [fu_e, fu_c, fu_k, gu_e, gu_n]
    exact hR.2.2.2.2.2.2 w w' h3 h4 h5
theorem RC.u_tears (hR : RC h b g) (hB : BG g) (h1 : 0 ≤ p) (h2 : p < g 0) : RC (fu h (b + 7) p z) b (gu g (6 + 5 * p) z) := by
  unfold BG at hB
  refine ⟨⟨?_, ?_, ?_⟩, fun q h3 h4 => ?_, fun q e h3 h4 h5 h6 => ?_, fun e h3 h4 => ?_, fun w j h3 h4 h5 h6 => ?_, fun w h3 h4 => ?_, fun w w' h3 h4 h5 => ?_⟩
  · simp (disch := omega) only [fu_e, fu_c, fu_k, gu_e, gu_n]
    exact hR.many
  · simp (disch := omega) only [fu_e, fu_c, fu_k, gu_e, gu_n]
    exact hR.day
  · simp (disch := omega) only [fu_e, fu_c, fu_k, gu_e, gu_n]
    exact hR.opn
  · simp (disch := omega) only [fu_e, fu_c, fu_k, gu_e, gu_n] at h4
    by_cases hq : q = p
    · subst hq
      simp (disch := omega) only [fu_e, fu_c, fu_k, gu_e, gu_n]
      exact ⟨hR.kind h3 h4, hR.fig h3 h4, hR.ask h3 h4, hR.wee h3 h4, hR.lrn h3 h4, hR.wish h3 h4, trivial, hR.wed h3 h4⟩
    · simp (disch := omega) only [fu_e, fu_c, fu_k, gu_e, gu_n]
      exact hR.2.1 q h3 h4
  · simp (disch := omega) only [fu_e, fu_c, fu_k, gu_e, gu_n] at h4
    simp (disch := omega) only [fu_e, fu_c, fu_k, gu_e, gu_n]
    exact hR.bel h3 h4 h5 h6
  · simp (disch := omega) only [fu_e, fu_c, fu_k, gu_e, gu_n]
    exact hR.2.2.2.1 e h3 h4
  · simp (disch := omega) only [fu_e, fu_c, fu_k, gu_e, gu_n] at h4
    have hw := hR.wr h3 (by omega : w < 3)
    simp (disch := omega) only [fu_e, fu_c, fu_k, gu_e, gu_n]
    exact hR.wg h3 h4 h5 h6
  · simp (disch := omega) only [fu_e, fu_c, fu_k, gu_e, gu_n]
    exact hR.wr h3 h4
  · simp (disch := omega) only [fu_e, fu_c, fu_k, gu_e, gu_n]
    exact hR.2.2.2.2.2.2 w w' h3 h4 h5
theorem RC.u_wed (hR : RC h b g) (hB : BG g) (y : Int) (hy : z = wedF y) (h1 : 0 ≤ p) (h2 : p < g 0) : RC (fu h (b + 8) p z) b (gu g (7 + 5 * p) y) := by
  unfold BG at hB
  refine ⟨⟨?_, ?_, ?_⟩, fun q h3 h4 => ?_, fun q e h3 h4 h5 h6 => ?_, fun e h3 h4 => ?_, fun w j h3 h4 h5 h6 => ?_, fun w h3 h4 => ?_, fun w w' h3 h4 h5 => ?_⟩
  · simp (disch := omega) only [fu_e, fu_c, fu_k, gu_e, gu_n]
    exact hR.many
  · simp (disch := omega) only [fu_e, fu_c, fu_k, gu_e, gu_n]
    exact hR.day
  · simp (disch := omega) only [fu_e, fu_c, fu_k, gu_e, gu_n]
    exact hR.opn
  · simp (disch := omega) only [fu_e, fu_c, fu_k, gu_e, gu_n] at h4
    by_cases hq : q = p
    · subst hq
      simp (disch := omega) only [fu_e, fu_c, fu_k, gu_e, gu_n]
      exact ⟨hR.kind h3 h4, hR.fig h3 h4, hR.ask h3 h4, hR.wee h3 h4, hR.lrn h3 h4, hR.wish h3 h4, hR.tears h3 h4, hy⟩
    · simp (disch := omega) only [fu_e, fu_c, fu_k, gu_e, gu_n]
      exact hR.2.1 q h3 h4
  · simp (disch := omega) only [fu_e, fu_c, fu_k, gu_e, gu_n] at h4
    simp (disch := omega) only [fu_e, fu_c, fu_k, gu_e, gu_n]
    exact hR.bel h3 h4 h5 h6
  · simp (disch := omega) only [fu_e, fu_c, fu_k, gu_e, gu_n]
    exact hR.2.2.2.1 e h3 h4
  · simp (disch := omega) only [fu_e, fu_c, fu_k, gu_e, gu_n] at h4
    have hw := hR.wr h3 (by omega : w < 3)
    simp (disch := omega) only [fu_e, fu_c, fu_k, gu_e, gu_n]
    exact hR.wg h3 h4 h5 h6
  · simp (disch := omega) only [fu_e, fu_c, fu_k, gu_e, gu_n]
    exact hR.wr h3 h4
  · simp (disch := omega) only [fu_e, fu_c, fu_k, gu_e, gu_n]
    exact hR.2.2.2.2.2.2 w w' h3 h4 h5
theorem RC.u_bel (hR : RC h b g) (hB : BG g) (h1 : 0 ≤ p) (h2 : p < g 0) (h1e : 0 ≤ e) (h2e : e < 5) : RC (fu h (b + 10 + p) e z) b (gu g (38 + 5 * p + e) z) := by
  unfold BG at hB
  refine ⟨⟨?_, ?_, ?_⟩, fun q h3 h4 => ?_, fun q f h3 h4 h5 h6 => ?_, fun e h3 h4 => ?_, fun w j h3 h4 h5 h6 => ?_, fun w h3 h4 => ?_, fun w w' h3 h4 h5 => ?_⟩
  · simp (disch := omega) only [fu_e, fu_c, fu_k, gu_e, gu_n]
    exact hR.many
  · simp (disch := omega) only [fu_e, fu_c, fu_k, gu_e, gu_n]
    exact hR.day
  · simp (disch := omega) only [fu_e, fu_c, fu_k, gu_e, gu_n]
    exact hR.opn
  · simp (disch := omega) only [fu_e, fu_c, fu_k, gu_e, gu_n] at h4
    simp (disch := omega) only [fu_e, fu_c, fu_k, gu_e, gu_n]
    exact hR.2.1 q h3 h4
  · simp (disch := omega) only [fu_e, fu_c, fu_k, gu_e, gu_n] at h4
    by_cases hq : q = p ∧ f = e
    · obtain ⟨rfl, rfl⟩ := hq
      simp (disch := omega) only [fu_e, fu_c, fu_k, gu_e, gu_n]
    · have hq2 : ¬ (38 + 5 * q + f = 38 + 5 * p + e) := by omega
      rw [gu_n hq2]
      by_cases hq3 : q = p
      · rw [fu_k (by omega)]
        exact hR.bel h3 h4 h5 h6
      · rw [fu_c (by omega)]
        exact hR.bel h3 h4 h5 h6
  · simp (disch := omega) only [fu_e, fu_c, fu_k, gu_e, gu_n]
    exact hR.2.2.2.1 e h3 h4
  · simp (disch := omega) only [fu_e, fu_c, fu_k, gu_e, gu_n] at h4
    have hw := hR.wr h3 (by omega : w < 3)
    simp (disch := omega) only [fu_e, fu_c, fu_k, gu_e, gu_n]
    exact hR.wg h3 h4 h5 h6
  · simp (disch := omega) only [fu_e, fu_c, fu_k, gu_e, gu_n]
    exact hR.wr h3 h4
  · simp (disch := omega) only [fu_e, fu_c, fu_k, gu_e, gu_n]
    exact hR.2.2.2.2.2.2 w w' h3 h4 h5
theorem RC.u_ev (hR : RC h b g) (hB : BG g) (h1 : 0 ≤ e) (h2 : e < 5) : RC (fu h (b + 17) e z) b (gu g (73 + 2 * e) z) := by
  unfold BG at hB
  refine ⟨⟨?_, ?_, ?_⟩, fun q h3 h4 => ?_, fun q f h3 h4 h5 h6 => ?_, fun f h3 h4 => ?_, fun w j h3 h4 h5 h6 => ?_, fun w h3 h4 => ?_, fun w w' h3 h4 h5 => ?_⟩
  · simp (disch := omega) only [fu_e, fu_c, fu_k, gu_e, gu_n]
    exact hR.many
  · simp (disch := omega) only [fu_e, fu_c, fu_k, gu_e, gu_n]
    exact hR.day
  · simp (disch := omega) only [fu_e, fu_c, fu_k, gu_e, gu_n]
    exact hR.opn
  · simp (disch := omega) only [fu_e, fu_c, fu_k, gu_e, gu_n] at h4
    simp (disch := omega) only [fu_e, fu_c, fu_k, gu_e, gu_n]
    exact hR.2.1 q h3 h4
  · simp (disch := omega) only [fu_e, fu_c, fu_k, gu_e, gu_n] at h4
    simp (disch := omega) only [fu_e, fu_c, fu_k, gu_e, gu_n]
    exact hR.bel h3 h4 h5 h6
  · by_cases hq : f = e
    · subst hq
      simp (disch := omega) only [fu_e, fu_c, fu_k, gu_e, gu_n]
      exact ⟨trivial, hR.on h3 h4⟩
    · simp (disch := omega) only [fu_e, fu_c, fu_k, gu_e, gu_n]
      exact hR.2.2.2.1 f h3 h4
  · simp (disch := omega) only [fu_e, fu_c, fu_k, gu_e, gu_n] at h4
    have hw := hR.wr h3 (by omega : w < 3)
    simp (disch := omega) only [fu_e, fu_c, fu_k, gu_e, gu_n]
    exact hR.wg h3 h4 h5 h6
  · simp (disch := omega) only [fu_e, fu_c, fu_k, gu_e, gu_n]
    exact hR.wr h3 h4
  · simp (disch := omega) only [fu_e, fu_c, fu_k, gu_e, gu_n]
    exact hR.2.2.2.2.2.2 w w' h3 h4 h5
theorem RC.u_on (hR : RC h b g) (hB : BG g) (h1 : 0 ≤ e) (h2 : e < 5) : RC (fu h (b + 18) e z) b (gu g (74 + 2 * e) z) := by
  unfold BG at hB
  refine ⟨⟨?_, ?_, ?_⟩, fun q h3 h4 => ?_, fun q f h3 h4 h5 h6 => ?_, fun f h3 h4 => ?_, fun w j h3 h4 h5 h6 => ?_, fun w h3 h4 => ?_, fun w w' h3 h4 h5 => ?_⟩
  · simp (disch := omega) only [fu_e, fu_c, fu_k, gu_e, gu_n]
    exact hR.many
  · simp (disch := omega) only [fu_e, fu_c, fu_k, gu_e, gu_n]
    exact hR.day
  · simp (disch := omega) only [fu_e, fu_c, fu_k, gu_e, gu_n]
    exact hR.opn
  · simp (disch := omega) only [fu_e, fu_c, fu_k, gu_e, gu_n] at h4
    simp (disch := omega) only [fu_e, fu_c, fu_k, gu_e, gu_n]
    exact hR.2.1 q h3 h4
  · simp (disch := omega) only [fu_e, fu_c, fu_k, gu_e, gu_n] at h4
    simp (disch := omega) only [fu_e, fu_c, fu_k, gu_e, gu_n]
    exact hR.bel h3 h4 h5 h6
  · by_cases hq : f = e
    · subst hq
      simp (disch := omega) only [fu_e, fu_c, fu_k, gu_e, gu_n]
      exact ⟨hR.ev h3 h4, trivial⟩
    · simp (disch := omega) only [fu_e, fu_c, fu_k, gu_e, gu_n]
      exact hR.2.2.2.1 f h3 h4
  · simp (disch := omega) only [fu_e, fu_c, fu_k, gu_e, gu_n] at h4
    have hw := hR.wr h3 (by omega : w < 3)
    simp (disch := omega) only [fu_e, fu_c, fu_k, gu_e, gu_n]
    exact hR.wg h3 h4 h5 h6
  · simp (disch := omega) only [fu_e, fu_c, fu_k, gu_e, gu_n]
    exact hR.wr h3 h4
  · simp (disch := omega) only [fu_e, fu_c, fu_k, gu_e, gu_n]
    exact hR.2.2.2.2.2.2 w w' h3 h4 h5
theorem RC.u_day (hR : RC h b g) (hB : BG g)  : RC (fu h b 15 z) b (gu g 1 z) := by
  unfold BG at hB
  refine ⟨⟨?_, ?_, ?_⟩, fun q h3 h4 => ?_, fun q e h3 h4 h5 h6 => ?_, fun e h3 h4 => ?_, fun w j h3 h4 h5 h6 => ?_, fun w h3 h4 => ?_, fun w w' h3 h4 h5 => ?_⟩
  · simp (disch := omega) only [fu_e, fu_c, fu_k, gu_e, gu_n]
    exact hR.many
  · simp (disch := omega) only [fu_e, fu_c, fu_k, gu_e, gu_n]
  · simp (disch := omega) only [fu_e, fu_c, fu_k, gu_e, gu_n]
    exact hR.opn
  · simp (disch := omega) only [fu_e, fu_c, fu_k, gu_e, gu_n] at h4
    simp (disch := omega) only [fu_e, fu_c, fu_k, gu_e, gu_n]
    exact hR.2.1 q h3 h4
  · simp (disch := omega) only [fu_e, fu_c, fu_k, gu_e, gu_n] at h4
    simp (disch := omega) only [fu_e, fu_c, fu_k, gu_e, gu_n]
    exact hR.bel h3 h4 h5 h6
  · simp (disch := omega) only [fu_e, fu_c, fu_k, gu_e, gu_n]
    exact hR.2.2.2.1 e h3 h4
  · simp (disch := omega) only [fu_e, fu_c, fu_k, gu_e, gu_n] at h4
    have hw := hR.wr h3 (by omega : w < 3)
    simp (disch := omega) only [fu_e, fu_c, fu_k, gu_e, gu_n]
    exact hR.wg h3 h4 h5 h6
  · simp (disch := omega) only [fu_e, fu_c, fu_k, gu_e, gu_n]
    exact hR.wr h3 h4
  · simp (disch := omega) only [fu_e, fu_c, fu_k, gu_e, gu_n]
    exact hR.2.2.2.2.2.2 w w' h3 h4 h5
theorem RC.u_wg (hR : RC h b g) (hB : BG g) (h1 : 0 ≤ w) (h2 : w < g 2) (h1j : 0 ≤ j) (h2j : j < 5) : RC (fu h (h (b + 19) w) j z) b (gu g (83 + 5 * w + j) z) := by
  unfold BG at hB
  have hw0 := hR.wr h1 (by omega : w < 3)
  refine ⟨⟨?_, ?_, ?_⟩, fun q h3 h4 => ?_, fun q e h3 h4 h5 h6 => ?_, fun e h3 h4 => ?_, fun x i h3 h4 h5 h6 => ?_, fun x h3 h4 => ?_, fun x x' h3 h4 h5 => ?_⟩
  · simp (disch := omega) only [fu_e, fu_c, fu_k, gu_e, gu_n]
    exact hR.many
  · simp (disch := omega) only [fu_e, fu_c, fu_k, gu_e, gu_n]
    exact hR.day
  · simp (disch := omega) only [fu_e, fu_c, fu_k, gu_e, gu_n]
    exact hR.opn
  · simp (disch := omega) only [fu_e, fu_c, fu_k, gu_e, gu_n] at h4
    simp (disch := omega) only [fu_e, fu_c, fu_k, gu_e, gu_n]
    exact hR.2.1 q h3 h4
  · simp (disch := omega) only [fu_e, fu_c, fu_k, gu_e, gu_n] at h4
    simp (disch := omega) only [fu_e, fu_c, fu_k, gu_e, gu_n]
    exact hR.bel h3 h4 h5 h6
  · simp (disch := omega) only [fu_e, fu_c, fu_k, gu_e, gu_n]
    exact hR.2.2.2.1 e h3 h4
  · simp (disch := omega) only [fu_e, fu_c, fu_k, gu_e, gu_n] at h4
    have hw := hR.wr h3 (by omega : x < 3)
    by_cases hx : x = w
    · subst hx
      by_cases hi : i = j
      · subst hi
        simp (disch := omega) only [fu_e, fu_c, fu_k, gu_e, gu_n]
      · simp (disch := omega) only [fu_e, fu_c, fu_k, gu_e, gu_n]
        exact hR.wg h3 h4 h5 h6
    · have hne := hR.wn h3 (by omega) h1 (by omega) hx
      simp (disch := omega) only [fu_e, fu_c, fu_k, gu_e, gu_n]
      exact hR.wg h3 h4 h5 h6
  · simp (disch := omega) only [fu_e, fu_c, fu_k, gu_e, gu_n]
    exact hR.wr h3 h4
  · simp (disch := omega) only [fu_e, fu_c, fu_k, gu_e, gu_n]
    exact hR.2.2.2.2.2.2 x x' h3 h4 h5
end RCr
