/-! people come -/
section CO
variable {h h' h1 h2 : fH} {b v : Int} {g g' G : gV} {p e w s f d z c k a x y n i : Int}
theorem sk_Suitor_asks (hs : fS 35 [z, f] h v h') (h1 : 0 ≤ f) (h2 : f ≤ 9) : h' = h ∧ v = 5 := by
  refine vk_Suitor_asks hs (fun v h' => h' = h ∧ v = 5) ?_
  exact ⟨rfl, rfl⟩
theorem sk_Aunt_asks (hs : fS 30 [z, f] h v h') (h1 : 0 ≤ f) (h2 : f ≤ 9) : h' = h ∧ v = 6 := by
  refine vk_Aunt_asks hs (fun v h' => h' = h ∧ v = 6) ?_
  intro v1 k1 hs1 z3 e3
  obtain ⟨rfl, rfl⟩ := sk_Suitor_asks hs1 h1 h2
  rw [wr_id (by omega) (by omega)] at e3
  exact ⟨rfl, by omega⟩
theorem sk_Girl_asks (hs : fS 32 [z, f] h v h') (h1 : 0 ≤ f) (h2 : f ≤ 9) : h' = h ∧ v = f := by
  refine vk_Girl_asks hs (fun v h' => h' = h ∧ v = f) ?_
  exact ⟨rfl, rfl⟩
theorem sk_Gambler_asks (hs : fS 31 [z, f] h v h') (h1 : 0 ≤ f) (h2 : f ≤ 9) : h' = h ∧ v = 0 := by
  refine vk_Gambler_asks hs (fun v h' => h' = h ∧ v = 0) ?_
  exact ⟨rfl, rfl⟩
theorem sk_Rich_asks (hs : fS 34 [z, f] h v h') (h1 : 0 ≤ f) (h2 : f ≤ 9) : h' = h ∧ v = 6 + f / 3 := by
  refine vk_Rich_asks hs (fun v h' => h' = h ∧ v = 6 + f / 3) ?_
  intro v1 k1 hs1 z3 e3 z4 e4
  obtain ⟨rfl, rfl⟩ := sk_Aunt_asks hs1 h1 h2
  rw [xdiv_nn h1 (by omega) (by omega)] at e3
  subst e3
  rw [wr_id (by omega) (by omega)] at e4
  exact ⟨rfl, e4⟩
theorem sk_Honest_asks (hs : fS 33 [z, f] h v h') (h1 : 0 ≤ f) (h2 : f ≤ 9) : h' = h ∧ v = 3 := by
  refine vk_Honest_asks hs (fun v h' => h' = h ∧ v = 3) ?_
  intro v1 k1 hs1 z3 e3
  obtain ⟨rfl, rfl⟩ := sk_Gambler_asks hs1 h1 h2
  rw [wr_id (by omega) (by omega)] at e3
  exact ⟨rfl, by omega⟩
theorem sk_Suitor_weeps (hs : fS 41 [z, f] h v h') (h1 : 0 ≤ f) (h2 : f ≤ 9) : h' = h ∧ v = 5 := by
  refine vk_Suitor_weeps hs (fun v h' => h' = h ∧ v = 5) ?_
  exact ⟨rfl, rfl⟩
theorem sk_Aunt_weeps (hs : fS 36 [z, f] h v h') (h1 : 0 ≤ f) (h2 : f ≤ 9) : h' = h ∧ v = 2 := by
  refine vk_Aunt_weeps hs (fun v h' => h' = h ∧ v = 2) ?_
  intro v1 k1 hs1 z3 e3
  obtain ⟨rfl, rfl⟩ := sk_Suitor_weeps hs1 h1 h2
  rw [wr_id (by omega) (by omega)] at e3
  exact ⟨rfl, by omega⟩
theorem sk_Girl_weeps (hs : fS 38 [z, f] h v h') (h1 : 0 ≤ f) (h2 : f ≤ 9) : h' = h ∧ v = 10 := by
  refine vk_Girl_weeps hs (fun v h' => h' = h ∧ v = 10) ?_
  intro v1 k1 hs1 z3 e3
  obtain ⟨rfl, rfl⟩ := sk_Suitor_weeps hs1 h1 h2
  rw [wr_id (by omega) (by omega)] at e3
  exact ⟨rfl, by omega⟩
theorem sk_Gambler_weeps (hs : fS 37 [z, f] h v h') (h1 : 0 ≤ f) (h2 : f ≤ 9) : h' = h ∧ v = 0 := by
  refine vk_Gambler_weeps hs (fun v h' => h' = h ∧ v = 0) ?_
  exact ⟨rfl, rfl⟩
theorem sk_Rich_weeps (hs : fS 40 [z, f] h v h') (h1 : 0 ≤ f) (h2 : f ≤ 9) : h' = h ∧ v = 3 := by
  refine vk_Rich_weeps hs (fun v h' => h' = h ∧ v = 3) ?_
  intro v1 k1 hs1 z3 e3
  obtain ⟨rfl, rfl⟩ := sk_Aunt_weeps hs1 h1 h2
  rw [wr_id (by omega) (by omega)] at e3
  exact ⟨rfl, by omega⟩
theorem sk_Honest_weeps (hs : fS 39 [z, f] h v h') (h1 : 0 ≤ f) (h2 : f ≤ 9) : h' = h ∧ v = f := by
  refine vk_Honest_weeps hs (fun v h' => h' = h ∧ v = f) ?_
  intro v1 k1 hs1 z3 e3
  obtain ⟨rfl, rfl⟩ := sk_Gambler_weeps hs1 h1 h2
  rw [wr_id (by omega) (by omega)] at e3
  exact ⟨rfl, by omega⟩
theorem sk_Suitor_learns (hs : fS 46 [z] h v h') : h' = h ∧ v = 1 := by
  refine vk_Suitor_learns hs (fun v h' => h' = h ∧ v = 1) ?_
  exact ⟨rfl, rfl⟩
theorem sk_Aunt_learns (hs : fS 42 [z] h v h') : h' = h ∧ v = 0 := by
  refine vk_Aunt_learns hs (fun v h' => h' = h ∧ v = 0) ?_
  exact ⟨rfl, rfl⟩
theorem sk_Girl_learns (hs : fS 43 [z] h v h') : h' = h ∧ v = 2 := by
  refine vk_Girl_learns hs (fun v h' => h' = h ∧ v = 2) ?_
  intro v1 k1 hs1 z3 e3
  obtain ⟨rfl, rfl⟩ := sk_Suitor_learns hs1
  rw [wr_id (by omega) (by omega)] at e3
  exact ⟨rfl, by omega⟩
theorem sk_Rich_learns (hs : fS 45 [z] h v h') : h' = h ∧ v = 1 := by
  refine vk_Rich_learns hs (fun v h' => h' = h ∧ v = 1) ?_
  intro v1 k1 hs1 z3 e3
  obtain ⟨rfl, rfl⟩ := sk_Aunt_learns hs1
  rw [wr_id (by omega) (by omega)] at e3
  exact ⟨rfl, by omega⟩
theorem sk_Honest_learns (hs : fS 44 [z] h v h') : h' = h ∧ v = 3 := by
  refine vk_Honest_learns hs (fun v h' => h' = h ∧ v = 3) ?_
  intro v1 k1 hs1 z3 e3
  obtain ⟨rfl, rfl⟩ := sk_Suitor_learns hs1
  rw [wr_id (by omega) (by omega)] at e3
  exact ⟨rfl, by omega⟩
def ffl (h : fH) (a c n : Int) : fH := fun x j => if x = a ∧ 0 ≤ j ∧ j < n then c else h x j
theorem ffl_e (h1 : x = a) (h2 : 0 ≤ i) (h3 : i < n) : ffl h a c n x i = c := if_pos ⟨h1, h2, h3⟩
theorem ffl_c (h1 : x ≠ a) : ffl h a c n x i = h x i := if_neg (fun q => h1 q.1)
theorem ffl_k (h1 : i < 0 ∨ n ≤ i) : ffl h a c n x i = h x i := if_neg (fun q => by omega)
theorem sc_fill {c0 : Int} (hs : fS 47 [a, c0] h v h') (hl : f_len a = 5) : h' = ffl h a c0 5 := by
  refine vj_fill hs (fun x0 x1 x2 x3 k => x0 = a ∧ x1 = c0 ∧ x3 = 5 ∧ 0 ≤ x2 ∧ x2 ≤ 5 ∧ k = ffl h a c0 x2) (fun v h' => h' = ffl h a c0 5) ?_ ?_
  · intro z2 e2
    rw [hl] at e2
    refine ⟨rfl, rfl, e2, by omega, by omega, ?_⟩
    funext x j
    rw [ffl_k (by omega)]
  · rintro x0 x1 x2 x3 k ⟨rfl, rfl, rfl, i1, i2, i3⟩
    refine ⟨fun q => ?_, fun q k1 ek1 z4 e4 => ?_⟩
    · have : x2 = 5 := by omega
      subst this
      exact i3
    · rw [wr_id (by omega) (by omega)] at e4
      subst e4
      refine ⟨rfl, rfl, rfl, by omega, by omega, ?_⟩
      rw [ek1, i3]
      funext x j
      by_cases hx : x = x0
      · by_cases hj : j = x2
        · rw [fu_e hx hj, ffl_e hx (by omega) (by omega)]
        · rw [fu_k hj]
          by_cases hj2 : 0 ≤ j ∧ j < x2
          · rw [ffl_e hx hj2.1 hj2.2, ffl_e hx (by omega) (by omega)]
          · rw [ffl_k (by omega), ffl_k (by omega)]
      · rw [fu_c hx, ffl_c hx, ffl_c hx]
/-- a person's cells, once the kind and the figure are told -/
def becH (h : fH) (b p k f : Int) : fH := fu (fu (fu (fu (fu h (b + 1) p k) (b + 2) p f) (b + 3) p (askF k f)) (b + 4) p (weeF k f)) (b + 5) p (lrnF k)
theorem sc_become (hs : fS 29 [b, p, k, f] h v h') (h1 : 0 ≤ k) (h2 : k ≤ 5) (h3 : 0 ≤ f) (h4 : f ≤ 9) : h' = becH h b p k f := by
  refine vt_become hs (fun x0 x1 x2 x3 q => x0 = b ∧ x1 = p ∧ x2 = k ∧ x3 = f ∧ q = fu (fu (fu h (b + 1) p k) (b + 2) p f) (b + 3) p (askF k f)) (fun x0 x1 x2 q => x0 = b ∧ x1 = p ∧ x2 = k ∧ q = fu (fu (fu (fu h (b + 1) p k) (b + 2) p f) (b + 3) p (askF k f)) (b + 4) p (weeF k f)) (fun v h' => h' = becH h b p k f) ?_ ?_ ?_
  · intro z4 e4 k1 ek1 z5 e5 k2 ek2 z6 e6 z7 e7
    subst e4 e5 e6
    refine ⟨fun q v3 k3 hs3 k4 ek4 => ?_, fun q0 => ?_⟩
    · have hk : k = 0 := by omega
      subst hk
      obtain ⟨rfl, rfl⟩ := sk_Suitor_asks hs3 h3 h4
      refine ⟨rfl, rfl, rfl, rfl, ?_⟩
      rw [ek4, ek2, ek1]
      rfl
    · skip
      refine ⟨fun q v3 k3 hs3 k4 ek4 => ?_, fun q1 => ?_⟩
      · have hk : k = 1 := by omega
        subst hk
        obtain ⟨rfl, rfl⟩ := sk_Aunt_asks hs3 h3 h4
        refine ⟨rfl, rfl, rfl, rfl, ?_⟩
        rw [ek4, ek2, ek1]
        rfl
      · skip
        refine ⟨fun q v3 k3 hs3 k4 ek4 => ?_, fun q2 => ?_⟩
        · have hk : k = 3 := by omega
          subst hk
          obtain ⟨rfl, rfl⟩ := sk_Gambler_asks hs3 h3 h4
          refine ⟨rfl, rfl, rfl, rfl, ?_⟩
          rw [ek4, ek2, ek1]
          rfl
        · skip
          refine ⟨fun q v3 k3 hs3 k4 ek4 => ?_, fun q3 => ?_⟩
          · have hk : k = 2 := by omega
            subst hk
            obtain ⟨rfl, rfl⟩ := sk_Girl_asks hs3 h3 h4
            refine ⟨rfl, rfl, rfl, rfl, ?_⟩
            rw [ek4, ek2, ek1]
            rfl
          · skip
            refine ⟨fun q v3 k3 hs3 k4 ek4 => ?_, fun q4 => ?_⟩
            · have hk : k = 5 := by omega
              subst hk
              obtain ⟨rfl, rfl⟩ := sk_Honest_asks hs3 h3 h4
              refine ⟨rfl, rfl, rfl, rfl, ?_⟩
              rw [ek4, ek2, ek1]
              rfl
            · skip
              refine ⟨fun q v3 k3 hs3 k4 ek4 => ?_, fun q5 => ?_⟩
              · have hk : k = 4 := by omega
                subst hk
                obtain ⟨rfl, rfl⟩ := sk_Rich_asks hs3 h3 h4
                refine ⟨rfl, rfl, rfl, rfl, ?_⟩
                rw [ek4, ek2, ek1]
                rfl
              · skip
                trivial
  · rintro x0 x1 x2 x3 q ⟨rfl, rfl, rfl, rfl, hq⟩ z4 e4 z5 e5
    subst e4
    refine ⟨fun qq v3 k3 hs3 k4 ek4 => ?_, fun q0 => ?_⟩
    · have hk : x2 = 0 := by omega
      subst hk
      obtain ⟨rfl, rfl⟩ := sk_Suitor_weeps hs3 h3 h4
      refine ⟨rfl, rfl, rfl, ?_⟩
      rw [ek4, hq]
      rfl
    · skip
      refine ⟨fun qq v3 k3 hs3 k4 ek4 => ?_, fun q1 => ?_⟩
      · have hk : x2 = 1 := by omega
        subst hk
        obtain ⟨rfl, rfl⟩ := sk_Aunt_weeps hs3 h3 h4
        refine ⟨rfl, rfl, rfl, ?_⟩
        rw [ek4, hq]
        rfl
      · skip
        refine ⟨fun qq v3 k3 hs3 k4 ek4 => ?_, fun q2 => ?_⟩
        · have hk : x2 = 3 := by omega
          subst hk
          obtain ⟨rfl, rfl⟩ := sk_Gambler_weeps hs3 h3 h4
          refine ⟨rfl, rfl, rfl, ?_⟩
          rw [ek4, hq]
          rfl
        · skip
          refine ⟨fun qq v3 k3 hs3 k4 ek4 => ?_, fun q3 => ?_⟩
          · have hk : x2 = 2 := by omega
            subst hk
            obtain ⟨rfl, rfl⟩ := sk_Girl_weeps hs3 h3 h4
            refine ⟨rfl, rfl, rfl, ?_⟩
            rw [ek4, hq]
            rfl
          · skip
            refine ⟨fun qq v3 k3 hs3 k4 ek4 => ?_, fun q4 => ?_⟩
            · have hk : x2 = 5 := by omega
              subst hk
              obtain ⟨rfl, rfl⟩ := sk_Honest_weeps hs3 h3 h4
              refine ⟨rfl, rfl, rfl, ?_⟩
              rw [ek4, hq]
              rfl
            · skip
              refine ⟨fun qq v3 k3 hs3 k4 ek4 => ?_, fun q5 => ?_⟩
              · have hk : x2 = 4 := by omega
                subst hk
                obtain ⟨rfl, rfl⟩ := sk_Rich_weeps hs3 h3 h4
                refine ⟨rfl, rfl, rfl, ?_⟩
                rw [ek4, hq]
                rfl
              · skip
                trivial
  · rintro x0 x1 x2 q ⟨rfl, rfl, rfl, hq⟩ z3 e3 z4 e4
    subst e3
    refine ⟨fun qq v3 k3 hs3 k4 ek4 => ?_, fun q0 => ?_⟩
    · have hk : x2 = 0 := by omega
      subst hk
      obtain ⟨rfl, rfl⟩ := sk_Suitor_learns hs3
      rw [ek4, hq]
      rfl
    · skip
      refine ⟨fun qq v3 k3 hs3 k4 ek4 => ?_, fun q1 => ?_⟩
      · have hk : x2 = 1 := by omega
        subst hk
        obtain ⟨rfl, rfl⟩ := sk_Aunt_learns hs3
        rw [ek4, hq]
        rfl
      · skip
        refine ⟨fun qq v3 k3 hs3 k4 ek4 => ?_, fun q2 => ?_⟩
        · have hk : x2 = 3 := by omega
          subst hk
          obtain ⟨rfl, rfl⟩ := sk_Suitor_learns hs3
          rw [ek4, hq]
          rfl
        · skip
          refine ⟨fun qq v3 k3 hs3 k4 ek4 => ?_, fun q3 => ?_⟩
          · have hk : x2 = 2 := by omega
            subst hk
            obtain ⟨rfl, rfl⟩ := sk_Girl_learns hs3
            rw [ek4, hq]
            rfl
          · skip
            refine ⟨fun qq v3 k3 hs3 k4 ek4 => ?_, fun q4 => ?_⟩
            · have hk : x2 = 5 := by omega
              subst hk
              obtain ⟨rfl, rfl⟩ := sk_Honest_learns hs3
              rw [ek4, hq]
              rfl
            · skip
              refine ⟨fun qq v3 k3 hs3 k4 ek4 => ?_, fun q5 => ?_⟩
              · have hk : x2 = 4 := by omega
                subst hk
                obtain ⟨rfl, rfl⟩ := sk_Rich_learns hs3
                rw [ek4, hq]
                rfl
              · skip
                trivial
def comeG (g : gV) (k f : Int) : gV := fun i => if i = 0 then g 0 + 1 else if i = 3 + 5 * g 0 then k else if i = 4 + 5 * g 0 then f else if i = 5 + 5 * g 0 then g 0 else if i = 6 + 5 * g 0 ∨ i = 7 + 5 * g 0 then 0 else if 38 + 5 * g 0 ≤ i ∧ i < 43 + 5 * g 0 then 5 else g i
theorem WF_come (W : WF g) (hn : g 0 < 7) (h1 : 0 ≤ k) (h2 : k ≤ 5) (h3 : 0 ≤ f) (h4 : f ≤ 9) : WF (comeG g k f) := by
  have hB := W.1
  have c0 : comeG g k f 0 = g 0 + 1 := if_pos rfl
  have co : ∀ i, i ≠ 0 → (i < 3 + 5 * g 0 ∨ (8 + 5 * g 0 ≤ i ∧ i < 38 + 5 * g 0) ∨ 43 + 5 * g 0 ≤ i) → comeG g k f i = g i := fun i j1 j2 => by
    unfold comeG
    rw [if_neg j1, if_neg (by omega), if_neg (by omega), if_neg (by omega), if_neg (by omega), if_neg (by omega)]
  have d3 : comeG g k f (3 + 5 * g 0) = k := by
    unfold comeG
    rw [if_neg (by omega), if_pos rfl]
  have d4 : comeG g k f (4 + 5 * g 0) = f := by
    unfold comeG
    rw [if_neg (by omega), if_neg (by omega), if_pos rfl]
  have d5 : comeG g k f (5 + 5 * g 0) = g 0 := by
    unfold comeG
    rw [if_neg (by omega), if_neg (by omega), if_neg (by omega), if_pos rfl]
  have d6 : comeG g k f (6 + 5 * g 0) = 0 := by
    unfold comeG
    rw [if_neg (by omega), if_neg (by omega), if_neg (by omega), if_neg (by omega), if_pos (by omega)]
  have d7 : comeG g k f (7 + 5 * g 0) = 0 := by
    unfold comeG
    rw [if_neg (by omega), if_neg (by omega), if_neg (by omega), if_neg (by omega), if_pos (by omega)]
  have db : ∀ e, 0 ≤ e → e < 5 → comeG g k f (38 + 5 * g 0 + e) = 5 := fun e j1 j2 => by
    unfold comeG
    rw [if_neg (by omega), if_neg (by omega), if_neg (by omega), if_neg (by omega), if_neg (by omega), if_pos (by omega)]
  refine ⟨?_, fun p j1 j2 => ?_, fun p e j1 j2 j3 j4 => ?_, fun e j1 j2 => ?_, fun x j1 j2 => ?_, fun x x' j1 j2 j3 => ?_⟩
  · rw [c0, co 1 (by omega) (by omega), co 2 (by omega) (by omega)]
    omega
  · rw [c0] at j2
    by_cases hp : p = g 0
    · subst hp
      rw [d3, d4, d5, d6, d7, c0]
      omega
    · have := W.per j1 (by omega)
      rw [c0, co _ (by omega) (by omega), co _ (by omega) (by omega), co _ (by omega) (by omega), co _ (by omega) (by omega), co _ (by omega) (by omega)]
      omega
  · rw [c0] at j2
    by_cases hp : p = g 0
    · subst hp
      rw [db e j3 j4]
      omega
    · rw [co _ (by omega) (by omega)]
      exact W.bel j1 (by omega) j3 j4
  · rw [co _ (by omega) (by omega), co _ (by omega) (by omega)]
    exact W.evt j1 j2
  · rw [co 2 (by omega) (by omega)] at j2
    have wx := W.wag j1 j2
    rw [c0, co (83 + 5 * x) (by omega) (by omega), co (84 + 5 * x) (by omega) (by omega), co (85 + 5 * x) (by omega) (by omega), co (86 + 5 * x) (by omega) (by omega), co (87 + 5 * x) (by omega) (by omega), co (7 + 5 * g (83 + 5 * x)) (by omega) (by omega), co (7 + 5 * g (84 + 5 * x)) (by omega) (by omega)]
    omega
  · rw [co 2 (by omega) (by omega)] at j3
    rw [co (83 + 5 * x) (by omega) (by omega), co (84 + 5 * x) (by omega) (by omega), co (83 + 5 * x') (by omega) (by omega), co (84 + 5 * x') (by omega) (by omega)]
    exact W.2.2.2.2.2 x x' j1 j2 j3
theorem sc_come (hs : fS 28 [b, k, f] h v h') (hR : RC h b g) (W : WF g) (hb : tw b) (hn : g 0 < 7) (h1 : 0 ≤ k) (h2 : k ≤ 5) (h3 : 0 ≤ f) (h4 : f ≤ 9) : RC h' b (comeG g k f) ∧ frC b h h' := by
  have hB := W.1
  refine vt_come hs (fun v h' => RC h' b (comeG g k f) ∧ frC b h h') ?_
  intro z3 e3 v1 k1 hs1 z5 e5 z6 e6 z7 e7 k2 ek2 z8 e8 z9 e9 k3 ek3 z10 e10 z11 e11 k4 ek4 z12 e12 z13 e13 z14 e14 v5 k5 hs5 z16 e16 z17 e17 k6 ek6
  rw [hR.many] at e3
  subst e3 e5 e8 e10 e12
  have q1 := sc_become hs1 h1 h2 h3 h4
  have m1 : k1 b 1 = g 0 := by
    rw [q1]
    unfold becH
    simp (disch := omega) only [fu_c]
    exact hR.many
  rw [m1] at e6 e7
  subst e6 e7
  have m2 : k2 b 1 = g 0 := by
    rw [ek2, fu_c (by omega)]
    exact m1
  rw [m2] at e9
  subst e9
  have m3 : k3 b 1 = g 0 := by
    rw [ek3, fu_c (by omega)]
    exact m2
  rw [m3] at e11
  subst e11
  have m4 : k4 b 1 = g 0 := by
    rw [ek4, fu_c (by omega)]
    exact m3
  rw [m4] at e13
  subst e13
  rw [ofm9] at e14
  subst e14
  have q5 := sc_fill hs5 (tw_row hb (by omega) hn)
  have m5 : k5 b 1 = g 0 := by
    rw [q5, ffl_c (by omega)]
    exact m4
  rw [m5] at e16
  subst e16
  rw [wr_id (by omega) (by omega)] at e17
  subst e17
  have hO : ∀ c j, (c ≠ b ∨ j ≠ 1) → (c ≠ b + 1 ∧ c ≠ b + 2 ∧ c ≠ b + 3 ∧ c ≠ b + 4 ∧ c ≠ b + 5 ∧ c ≠ b + 6 ∧ c ≠ b + 7 ∧ c ≠ b + 8 ∨ j ≠ g 0) → c ≠ b + 10 + g 0 → k6 c j = h c j := by
    intro c j j1 j2 j3
    have s6 : k6 c j = k5 c j := by
      rw [ek6]
      rcases j1 with r | r
      · rw [fu_c r]
      · rw [fu_k r]
    rw [s6, q5, ffl_c j3, ek4, ek3, ek2, q1]
    unfold becH
    rcases j2 with r | r
    · rw [fu_c r.2.2.2.2.2.2.2, fu_c r.2.2.2.2.2.2.1, fu_c r.2.2.2.2.2.1, fu_c r.2.2.2.2.1, fu_c r.2.2.2.1, fu_c r.2.2.1, fu_c r.2.1, fu_c r.1]
    · rw [fu_k r, fu_k r, fu_k r, fu_k r, fu_k r, fu_k r, fu_k r, fu_k r]
  have c0 : comeG g k f 0 = g 0 + 1 := if_pos rfl
  have co : ∀ i, i ≠ 0 → (i < 3 + 5 * g 0 ∨ (8 + 5 * g 0 ≤ i ∧ i < 38 + 5 * g 0) ∨ 43 + 5 * g 0 ≤ i) → comeG g k f i = g i := fun i j1 j2 => by
    unfold comeG
    rw [if_neg j1, if_neg (by omega), if_neg (by omega), if_neg (by omega), if_neg (by omega), if_neg (by omega)]
  refine ⟨⟨⟨?_, ?_, ?_⟩, fun q j1 j2 => ?_, fun q e j1 j2 j3 j4 => ?_, fun e j1 j2 => ?_, fun w j j1 j2 j3 j4 => ?_, fun w j1 j2 => ?_, fun w w' j1 j2 j3 => ?_⟩, fun c j hc => hO c j (by omega) (by omega) (by omega)⟩
  · rw [ek6, fu_e rfl rfl, c0]
  · rw [hO _ _ (by omega) (by omega) (by omega), co 1 (by omega) (by omega)]
    exact hR.day
  · rw [hO _ _ (by omega) (by omega) (by omega), co 2 (by omega) (by omega)]
    exact hR.opn
  · rw [c0] at j2
    by_cases hq : q = g 0
    · have r6 : ∀ c, c ≠ b → c ≠ b + 10 + g 0 → k6 c q = k4 c q := fun c n1 n2 => by
        rw [ek6, fu_c n1, q5, ffl_c n2]
      rw [r6 (b + 1) (by omega) (by omega), r6 (b + 2) (by omega) (by omega), r6 (b + 3) (by omega) (by omega), r6 (b + 4) (by omega) (by omega), r6 (b + 5) (by omega) (by omega), r6 (b + 6) (by omega) (by omega), r6 (b + 7) (by omega) (by omega), r6 (b + 8) (by omega) (by omega)]
      have g3 : comeG g k f (3 + 5 * q) = k := by
        unfold comeG
        rw [if_neg (by omega), if_pos (by omega)]
      have g4 : comeG g k f (4 + 5 * q) = f := by
        unfold comeG
        rw [if_neg (by omega), if_neg (by omega), if_pos (by omega)]
      have g5 : comeG g k f (5 + 5 * q) = g 0 := by
        unfold comeG
        rw [if_neg (by omega), if_neg (by omega), if_neg (by omega), if_pos (by omega)]
      have g6 : comeG g k f (6 + 5 * q) = 0 := by
        unfold comeG
        rw [if_neg (by omega), if_neg (by omega), if_neg (by omega), if_neg (by omega), if_pos (by omega)]
      have g7 : comeG g k f (7 + 5 * q) = 0 := by
        unfold comeG
        rw [if_neg (by omega), if_neg (by omega), if_neg (by omega), if_neg (by omega), if_pos (by omega)]
      rw [g3, g4, g5, g6, g7, ek4, ek3, ek2, q1]
      unfold becH
      refine ⟨?_, ?_, ?_, ?_, ?_, ?_, ?_, ?_⟩
      · simp (disch := omega) only [fu_c, fu_e]
      · simp (disch := omega) only [fu_c, fu_e]
      · simp (disch := omega) only [fu_c, fu_e]
      · simp (disch := omega) only [fu_c, fu_e]
      · simp (disch := omega) only [fu_c, fu_e]
      · simp (disch := omega) only [fu_c, fu_e]
      · simp (disch := omega) only [fu_c, fu_e]
      · simp (disch := omega) only [fu_c, fu_e]
        rfl
    · rw [hO (b + 1) _ (by omega) (by omega) (by omega), hO (b + 2) _ (by omega) (by omega) (by omega), hO (b + 3) _ (by omega) (by omega) (by omega), hO (b + 4) _ (by omega) (by omega) (by omega), hO (b + 5) _ (by omega) (by omega) (by omega), hO (b + 6) _ (by omega) (by omega) (by omega), hO (b + 7) _ (by omega) (by omega) (by omega), hO (b + 8) _ (by omega) (by omega) (by omega)]
      rw [co (3 + 5 * q) (by omega) (by omega), co (4 + 5 * q) (by omega) (by omega), co (5 + 5 * q) (by omega) (by omega), co (6 + 5 * q) (by omega) (by omega), co (7 + 5 * q) (by omega) (by omega)]
      exact hR.2.1 q j1 (by omega)
  · rw [c0] at j2
    by_cases hq : q = g 0
    · rw [ek6, fu_c (by omega), q5, ffl_e (by omega) j3 j4]
      unfold comeG
      rw [if_neg (by omega), if_neg (by omega), if_neg (by omega), if_neg (by omega), if_neg (by omega), if_pos (by omega)]
    · rw [hO _ _ (by omega) (by omega) (by omega), co _ (by omega) (by omega)]
      exact hR.bel j1 (by omega) j3 j4
  · rw [hO (b + 17) _ (by omega) (by omega) (by omega), hO (b + 18) _ (by omega) (by omega) (by omega), co (73 + 2 * e) (by omega) (by omega), co (74 + 2 * e) (by omega) (by omega)]
    exact hR.2.2.2.1 e j1 j2
  · rw [co 2 (by omega) (by omega)] at j2
    have hw := hR.wr j1 (by omega : w < 3)
    rw [hO (b + 19) _ (by omega) (by omega) (by omega), hO _ _ (by omega) (by omega) (by omega), co _ (by omega) (by omega)]
    exact hR.wg j1 j2 j3 j4
  · rw [hO _ _ (by omega) (by omega) (by omega)]
    exact hR.wr j1 j2
  · rw [hO _ _ (by omega) (by omega) (by omega), hO _ _ (by omega) (by omega) (by omega)]
    exact hR.2.2.2.2.2.2 w w' j1 j2 j3
theorem sr_personComes (hs : fS 162 [271, k, f] h v h') (hR : RM h g) (W : WF g) : frM h h' ∧ ((k < 6 ∧ g 0 < 7 ∧ v = 1 ∧ RM h' (comeG g k f)) ∨ (¬ (k < 6 ∧ g 0 < 7) ∧ v = 0 ∧ h' = h)) := by
  have hB := W.1
  refine vr_personComes hs (fun x0 x3 x4 q => x0 = 271 ∧ x3 = 1 ∧ k < 6 ∧ g 0 < 7 ∧ frM h q ∧ 0 ≤ x4 ∧ x4 ≤ 5 ∧ RM q (fun i => if i = 3 + 5 * g 0 then k else if i = 4 + 5 * g 0 then f else if i = 5 + 5 * g 0 then g 0 else if i = 6 + 5 * g 0 ∨ i = 7 + 5 * g 0 then 0 else if 38 + 5 * g 0 ≤ i ∧ i < 38 + 5 * g 0 + x4 then 5 else g i)) (fun v h' => frM h h' ∧ ((k < 6 ∧ g 0 < 7 ∧ v = 1 ∧ RM h' (comeG g k f)) ∨ (¬ (k < 6 ∧ g 0 < 7) ∧ v = 0 ∧ h' = h))) ?_ ?_
  · refine ⟨fun q => ⟨frM.rf h, Or.inr ⟨by omega, rfl, rfl⟩⟩, fun q z3 e3 => ?_⟩
    rw [hR.many] at e3
    subst e3
    refine ⟨fun q2 => ⟨frM.rf h, Or.inr ⟨by omega, rfl, rfl⟩⟩, fun q2 z4 e4 k1 ek1 z5 e5 k2 ek2 z6 e6 z7 e7 k3 ek3 z8 e8 k4 ek4 z9 e9 k5 ek5 => ?_⟩
    rw [hR.many] at e4
    subst e4
    have r1 := hR.u_kind (p := g 0) (z := k) (by omega) q2
    rw [← ek1] at r1
    rw [r1.many, gu_n (by omega)] at e5
    subst e5
    have r2 := r1.u_fig (p := g 0) (z := f) (by omega) q2
    rw [← ek2] at r2
    rw [r2.many, gu_n (by omega), gu_n (by omega)] at e6 e7
    subst e6 e7
    have r3 := r2.u_wish (p := g 0) (z := g 0) (by omega) q2
    rw [← ek3] at r3
    rw [r3.many, gu_n (by omega), gu_n (by omega), gu_n (by omega)] at e8
    subst e8
    have r4 := r3.u_tears (p := g 0) (z := 0) (by omega) q2
    rw [← ek4] at r4
    rw [r4.many, gu_n (by omega), gu_n (by omega), gu_n (by omega), gu_n (by omega)] at e9
    subst e9
    have r5 := r4.u_wed (p := g 0) (z := 0) (by omega) q2
    rw [← ek5] at r5
    refine ⟨rfl, rfl, q, q2, ?_, by omega, by omega, RM_ext r5 (fun i j1 j2 => ?_)⟩
    · rw [ek5, ek4, ek3, ek2, ek1]
      exact (((((frM.rf h).up (by omega)).up (by omega)).up (by omega)).up (by omega)).up (by omega)
    · unfold gu
      repeat' (first | rfl | omega | split)
  · rintro x0 x3 x4 q ⟨rfl, rfl, i1, i2, i3, i4, i5, i6⟩
    have m0 := i6.many
    rw [if_neg (by omega), if_neg (by omega), if_neg (by omega), if_neg (by omega), if_neg (by omega)] at m0
    refine ⟨fun q2 z3 e3 z4 e4 k1 ek1 => ?_, fun q2 z3 e3 z4 e4 z5 e5 k1 ek1 z6 e6 => ?_⟩
    · rw [m0] at e3
      subst e3
      rw [wr_id (by omega) (by omega)] at e4
      subst e4
      have r1 := i6.u_many (z := g 0 + 1)
      rw [← ek1] at r1
      have hx : x4 = 5 := by omega
      subst hx
      refine ⟨?_, Or.inl ⟨i1, i2, rfl, RM_ext r1 (fun i j1 j2 => ?_)⟩⟩
      · rw [ek1]
        exact i3.up (by omega)
      · unfold gu comeG
        dsimp only
        repeat' (first | rfl | omega | split)
    · rw [m0] at e3
      subst e3
      rw [wr_id (by omega) (by omega)] at e4
      subst e4
      rw [wr_id (by omega) (by omega)] at e5 e6
      subst e5 e6
      have r1 := i6.u_bel (i := 5 * g 0 + x4) (z := 5) (by omega) (by omega)
      rw [← ek1] at r1
      refine ⟨rfl, rfl, i1, i2, ?_, by omega, by omega, RM_ext r1 (fun i j1 j2 => ?_)⟩
      · rw [ek1]
        exact i3.up (by omega)
      · unfold gu
        dsimp only
        repeat' (first | rfl | omega | split)
end CO
