/-! the reference's methods that only ask: the town is again as it was (made by a program) -/
def alQ (c k : Int) : Bool := !decide (c < 271 ∨ c = 286 ∨ c = 291 ∨ c = 292 ∨ c = 296 ∨ 297 < c ∨ (c = 271 ∧ (k = 28 ∨ k = 34 ∨ k = 19 ∨ k = 38)))
theorem alQ_t {c k : Int} (h : ¬ (c < 271 ∨ c = 286 ∨ c = 291 ∨ c = 292 ∨ c = 296 ∨ 297 < c ∨ (c = 271 ∧ (k = 28 ∨ k = 34 ∨ k = 19 ∨ k = 38)))) : alQ c k = true := by
  unfold alQ
  rw [decide_eq_false h]
  rfl
theorem alQ_f {c k : Int} (h : alQ c k = false) : c < 271 ∨ c = 286 ∨ c = 291 ∨ c = 292 ∨ c = 296 ∨ 297 < c ∨ (c = 271 ∧ (k = 28 ∨ k = 34 ∨ k = 19 ∨ k = 38)) := by
  unfold alQ at h
  rw [Bool.not_eq_false'] at h
  exact of_decide_eq_true h
def SQ (g : gV) (h0 : fH) (s : Nat) (h : fH) : Prop := fA alQ h0 h ∧ (s ≤ 1 → RM h g) ∧ (1 ≤ s → ∀ i, 0 ≤ i → i < 113 → h 290 i = g i)
def tnC (c : Int) (k : Option Int) : Bool := match k with
  | some k => decide (c = 271 ∧ (k = 0 ∨ k = 9 ∨ k = 15))
  | none => decide (272 ≤ c ∧ c ≤ 284)
def ofC (c : Int) (k : Option Int) : Bool := match k with
  | some k => decide (c = 271 ∧ k ≠ 0 ∧ k ≠ 9 ∧ k ≠ 15 ∧ k ≠ 28 ∧ k ≠ 34 ∧ k ≠ 19 ∧ k ≠ 38)
  | none => decide (c = 285 ∨ (287 ≤ c ∧ c ≤ 289) ∨ (293 ≤ c ∧ c ≤ 295) ∨ c = 297)
def putQ : xP := fun s c k => match tnC c k with
  | true => (match s with
    | 0 => none
    | _ + 1 => some 2)
  | false => match ofC c k with
    | true => some s
    | false => none
section RQ
variable {g : gV} {h0 h h' : fH} {s s' : Nat}
theorem SQ_tn (hs : SQ g h0 (s + 1) h) (h1 : fA alQ h h') (h2 : ∀ i, h' 290 i = h 290 i) : SQ g h0 2 h' := ⟨hs.1.tr h1, fun q => by omega, fun _ i j1 j2 => by rw [h2]; exact hs.2.2 (by omega) i j1 j2⟩
theorem SQ_of (hs : SQ g h0 s h) (h1 : fA alQ h h') (h2 : ∀ i, h' 290 i = h 290 i) (h3 : ∀ c k, 271 ≤ c → c ≤ 284 → (c = 271 → k = 0 ∨ k = 15 ∨ k = 9) → h' c k = h c k) : SQ g h0 s h' := ⟨hs.1.tr h1, fun q => RM_cg (hs.2.1 q) h3, fun q i j1 j2 => by rw [h2]; exact hs.2.2 q i j1 j2⟩
theorem SQ_L : XL (SQ g h0) := fun s p h hl hs => by
  unfold x_le at hl
  rw [Bool.or_eq_true, decide_eq_true_eq, decide_eq_true_eq] at hl
  rcases hl with rfl | rfl
  · exact hs
  · exact ⟨hs.1, fun _ => hs.2.1 (Nat.le_refl _), fun _ => hs.2.2 (Nat.le_refl _)⟩
theorem putQ_c {c : Int} {k : Option Int} (h : putQ s c k = some s') : (tnC c k = true ∧ s' = 2 ∧ ∃ t, s = t + 1) ∨ (tnC c k = false ∧ ofC c k = true ∧ s' = s) := by
  unfold putQ at h
  split at h
  · rename_i q
    cases s with
    | zero => cases h
    | succ t =>
      cases h
      exact Or.inl ⟨q, rfl, t, rfl⟩
  · rename_i q
    split at h
    · rename_i q2
      cases h
      exact Or.inr ⟨q, q2, rfl⟩
    · cases h
theorem SQ_P : XP (SQ g h0) putQ := by
  refine ⟨fun s c k s' h z hp hs => ?_, fun s c s' h i z hp hs => ?_, fun s c s' h i n hp hs => ?_⟩
  · rcases putQ_c hp with ⟨a1, rfl, t, rfl⟩ | ⟨a1, a2, rfl⟩
    · have a1 := of_decide_eq_true a1
      exact SQ_tn hs ((fA.rf h).up (alQ_t (by omega))) (fun i => fu_c (by omega))
    · have a2 := of_decide_eq_true a2
      exact SQ_of hs ((fA.rf h).up (alQ_t (by omega))) (fun i => fu_c (by omega)) (fun c' k' j1 j2 j3 => by unfold fu; rw [if_neg (by omega)])
  · rcases putQ_c hp with ⟨a1, rfl, t, rfl⟩ | ⟨a1, a2, rfl⟩
    · have a1 := of_decide_eq_true a1
      exact SQ_tn hs ((fA.rf h).up (alQ_t (by omega))) (fun i => fu_c (by omega))
    · have a2 := of_decide_eq_true a2
      exact SQ_of hs ((fA.rf h).up (alQ_t (by omega))) (fun i => fu_c (by omega)) (fun c' k' j1 j2 j3 => fu_c (by omega))
  · rcases putQ_c hp with ⟨a1, rfl, t, rfl⟩ | ⟨a1, a2, rfl⟩
    · have a1 := of_decide_eq_true a1
      exact SQ_tn hs ((fA.rf h).cp (fun k => alQ_t (by omega))) (fun i => by unfold fcp; rw [if_neg (by omega)])
    · have a2 := of_decide_eq_true a2
      exact SQ_of hs ((fA.rf h).cp (fun k => alQ_t (by omega))) (fun i => by unfold fcp; rw [if_neg (by omega)]) (fun c' k' j1 j2 j3 => by unfold fcp; rw [if_neg (by omega)])
theorem fS_len {j : Nat} {as : List Int} {h h' : fH} {v : Int} (hs : fS j as h v h') : as.length = ((f_tags[j]?).getD []).length := by
  obtain ⟨mi, n, us, cs, w, cs', -, -, -, -, h1, rfl, -⟩ := hs
  rw [List.length_map, (xTs_len h1).symm]
theorem l_l3 {as : List Int} {a b c : Int} (h : as.length = 3) (hr : xR [some a, some b, some c] as) : as = [a, b, c] := by
  match as, h, hr with
  | [x, y, z], _, ⟨h1, h2, h3, _⟩ => rw [h1, h2, h3]
theorem fk_think : XC (SQ g h0) (159, [some 271, some 290, some 1], 0, 1) := fun as h v h' hr hs hS => by
  have e := l_l3 (fS_len hS) hr
  rw [e] at hS
  obtain ⟨a1, a2, a3⟩ := sr_down hS (hs.2.1 (by decide)) (by omega)
  refine ⟨hs.1.tr (fun c k q => ?_), fun _ => a1, fun _ => a2⟩
  have := alQ_f q
  exact a3 c k (by omega) (by omega)
theorem fk_again : XC (SQ g h0) (159, [some 271, some 290, some 0], 2, 1) := fun as h v h' hr hs hS => by
  have e := l_l3 (fS_len hS) hr
  rw [e] at hS
  obtain ⟨a1, a2, a3⟩ := sr_up (G := g) hS (hs.2.2 (by decide)) (by omega)
  refine ⟨hs.1.tr (fun c k q => ?_), fun _ => a1, fun _ => a2⟩
  have := alQ_f q
  exact a3 c k (by omega) (by omega)
/-- what asks leaves all but this -/
def alP (c k : Int) : Bool := alO [(285, 285), (294, 295), (297, 297)] [(271, 16), (271, 40)] c k
theorem alP_f {c k : Int} (h1 : c ≠ 285) (h2 : c ≠ 294) (h3 : c ≠ 295) (h4 : c ≠ 297) (h5 : c = 271 → k ≠ 16 ∧ k ≠ 40) : alP c k = false := by
  unfold alP alO
  simp only [List.any_cons, List.any_nil, Bool.or_false, Bool.or_eq_false_iff, Bool.and_eq_false_iff, decide_eq_false_iff_not]
  omega
abbrev SPl (h0 : fH) : Nat → fH → Prop := SF alP h0
abbrev pP : xP := pF [(285, 285), (294, 295), (297, 297)] [(271, 16), (271, 40)]
theorem SPl_P : XP (SPl h0) pP := SF_P
theorem SQ_lt {j : Nat} {rq : List (Option Int)} (s : Nat) (H : ∀ h, XC (SPl h) (j, rq, 0, 0)) : XC (SQ g h0) (j, rq, s, s) := fun as h v h' hr hs hS => by
  have a := H h as h v h' hr (fA.rf h) hS
  exact SQ_of hs (fun c k q => a c k (by
    have := alQ_f q
    exact alP_f (by omega) (by omega) (by omega) (by omega) (by omega))) (fun i => a _ _ (alP_f (by omega) (by omega) (by omega) (by omega) (by omega))) (fun c k j1 j2 j3 => a _ _ (alP_f (by omega) (by omega) (by omega) (by omega) (by omega)))
end RQ
theorem fp_vr_here {h0 : fH} : XC (SPl h0) ((154, [some 271], 0, 0)) := x_state (b := 271) (lps := []) (tbl := []) SPl_P SF_L vr_here_k (by decide +kernel) (by decide +kernel) (x_n)
theorem fp_vr_digitsOf {h0 : fH} : XC (SPl h0) ((155, [], 0, 0)) := x_state (b := 0) (lps := []) (tbl := []) SPl_P SF_L vr_digitsOf_k (by decide +kernel) (by decide +kernel) (x_n)
theorem fp_vr_isFree {h0 : fH} : XC (SPl h0) ((167, [some 271, none], 0, 0)) := x_state (b := 271) (lps := [(true, 0)]) (tbl := []) SPl_P SF_L vr_isFree_k (by decide +kernel) (by decide +kernel) (x_n)
theorem fp_vr_trustOf {h0 : fH} : XC (SPl h0) ((168, [some 271, none, none, none], 0, 0)) := x_state (b := 271) (lps := []) (tbl := []) SPl_P SF_L vr_trustOf_k (by decide +kernel) (by decide +kernel) (x_n)
theorem fp_vr_asksOf {h0 : fH} : XC (SPl h0) ((170, [some 271, none], 0, 0)) := x_state (b := 271) (lps := []) (tbl := []) SPl_P SF_L vr_asksOf_k (by decide +kernel) (by decide +kernel) (x_n)
theorem fp_vr_isTaking {h0 : fH} : XC (SPl h0) ((169, [some 271, none, none, none, none], 0, 0)) := x_state (b := 271) (lps := []) (tbl := [(168, [some 271, none, none, none], 0, 0), (170, [some 271, none], 0, 0)]) SPl_P SF_L vr_isTaking_k (by decide +kernel) (by decide +kernel) (x_c (fp_vr_trustOf) (x_c (fp_vr_asksOf) (x_n)))
theorem fp_vr_couldBe {h0 : fH} : XC (SPl h0) ((166, [some 271, none, none, none, none], 0, 0)) := x_state (b := 271) (lps := []) (tbl := [(167, [some 271, none], 0, 0), (168, [some 271, none, none, none], 0, 0), (169, [some 271, none, none, none, none], 0, 0)]) SPl_P SF_L vr_couldBe_k (by decide +kernel) (by decide +kernel) (x_c (fp_vr_isFree) (x_c (fp_vr_trustOf) (x_c (fp_vr_isTaking) (x_n))))
theorem fp_vr_weepsOf {h0 : fH} : XC (SPl h0) ((176, [some 271, none], 0, 0)) := x_state (b := 271) (lps := []) (tbl := []) SPl_P SF_L vr_weepsOf_k (by decide +kernel) (by decide +kernel) (x_n)
theorem fp_vr_held {h0 : fH} : XC (SPl h0) ((177, [], 0, 0)) := x_state (b := 0) (lps := []) (tbl := []) SPl_P SF_L vr_held_k (by decide +kernel) (by decide +kernel) (x_n)
theorem fq1_vr_wed {g : gV} {h0 : fH} : XC (SQ g h0) ((175, [some 271, none, none], 1, 2)) := x_state (b := 271) (lps := []) (tbl := [(176, [some 271, none], 2, 2), (177, [], 2, 2)]) SQ_P SQ_L vr_wed_k (by decide +kernel) (by decide +kernel) (x_c (SQ_lt 2 (fun _ => fp_vr_weepsOf)) (x_c (SQ_lt 2 (fun _ => fp_vr_held)) (x_n)))
theorem fq2_vr_wed {g : gV} {h0 : fH} : XC (SQ g h0) ((175, [some 271, none, none], 2, 2)) := x_state (b := 271) (lps := []) (tbl := [(176, [some 271, none], 2, 2), (177, [], 2, 2)]) SQ_P SQ_L vr_wed_k (by decide +kernel) (by decide +kernel) (x_c (SQ_lt 2 (fun _ => fp_vr_weepsOf)) (x_c (SQ_lt 2 (fun _ => fp_vr_held)) (x_n)))
theorem fq1_vr_dropWager {g : gV} {h0 : fH} : XC (SQ g h0) ((178, [some 271, none], 1, 2)) := x_state (b := 271) (lps := [(true, 2)]) (tbl := []) SQ_P SQ_L vr_dropWager_k (by decide +kernel) (by decide +kernel) (x_n)
theorem fq2_vr_dropWager {g : gV} {h0 : fH} : XC (SQ g h0) ((178, [some 271, none], 2, 2)) := x_state (b := 271) (lps := [(true, 2)]) (tbl := []) SQ_P SQ_L vr_dropWager_k (by decide +kernel) (by decide +kernel) (x_n)
theorem fp_vr_learnsOf {h0 : fH} : XC (SPl h0) ((179, [some 271, none], 0, 0)) := x_state (b := 271) (lps := []) (tbl := []) SPl_P SF_L vr_learnsOf_k (by decide +kernel) (by decide +kernel) (x_n)
theorem fq1_vr_dayBy {g : gV} {h0 : fH} : XC (SQ g h0) ((173, [some 271, none], 1, 2)) := x_state (b := 271) (lps := [(true, 2), (true, 2)]) (tbl := [(177, [], 2, 2), (175, [some 271, none, none], 2, 2), (178, [some 271, none], 2, 2), (179, [some 271, none], 2, 2)]) SQ_P SQ_L vr_dayBy_k (by decide +kernel) (by decide +kernel) (x_c (SQ_lt 2 (fun _ => fp_vr_held)) (x_c fq2_vr_wed (x_c fq2_vr_dropWager (x_c (SQ_lt 2 (fun _ => fp_vr_learnsOf)) (x_n)))))
theorem fq2_vr_dayBy {g : gV} {h0 : fH} : XC (SQ g h0) ((173, [some 271, none], 2, 2)) := x_state (b := 271) (lps := [(true, 2), (true, 2)]) (tbl := [(177, [], 2, 2), (175, [some 271, none, none], 2, 2), (178, [some 271, none], 2, 2), (179, [some 271, none], 2, 2)]) SQ_P SQ_L vr_dayBy_k (by decide +kernel) (by decide +kernel) (x_c (SQ_lt 2 (fun _ => fp_vr_held)) (x_c fq2_vr_wed (x_c fq2_vr_dropWager (x_c (SQ_lt 2 (fun _ => fp_vr_learnsOf)) (x_n)))))
theorem fq1_vr_goDays {g : gV} {h0 : fH} : XC (SQ g h0) ((172, [some 271, none], 1, 2)) := x_state (b := 271) (lps := [(true, 2)]) (tbl := [(173, [some 271, none], 2, 2)]) SQ_P SQ_L vr_goDays_k (by decide +kernel) (by decide +kernel) (x_c fq2_vr_dayBy (x_n))
theorem fq2_vr_goDays {g : gV} {h0 : fH} : XC (SQ g h0) ((172, [some 271, none], 2, 2)) := x_state (b := 271) (lps := [(true, 2)]) (tbl := [(173, [some 271, none], 2, 2)]) SQ_P SQ_L vr_goDays_k (by decide +kernel) (by decide +kernel) (x_c fq2_vr_dayBy (x_n))
theorem fp_vr_personOf {h0 : fH} : XC (SPl h0) ((184, [some 271, none, none], 0, 0)) := x_state (b := 271) (lps := []) (tbl := [(170, [some 271, none], 0, 0), (176, [some 271, none], 0, 0), (179, [some 271, none], 0, 0)]) SPl_P SF_L vr_personOf_k (by decide +kernel) (by decide +kernel) (x_c (fp_vr_asksOf) (x_c (fp_vr_weepsOf) (x_c (fp_vr_learnsOf) (x_n))))
theorem fp_vr_belief {h0 : fH} : XC (SPl h0) ((185, [some 271, none, none], 0, 0)) := x_state (b := 271) (lps := []) (tbl := []) SPl_P SF_L vr_belief_k (by decide +kernel) (by decide +kernel) (x_n)
theorem fp_vr_eventOf {h0 : fH} : XC (SPl h0) ((186, [some 271, none, none], 0, 0)) := x_state (b := 271) (lps := []) (tbl := []) SPl_P SF_L vr_eventOf_k (by decide +kernel) (by decide +kernel) (x_n)
theorem fp_vr_wagerOf {h0 : fH} : XC (SPl h0) ((187, [some 271, none, none], 0, 0)) := x_state (b := 271) (lps := []) (tbl := []) SPl_P SF_L vr_wagerOf_k (by decide +kernel) (by decide +kernel) (x_n)
theorem fp_vr_wedBits {h0 : fH} : XC (SPl h0) ((198, [some 271], 0, 0)) := x_state (b := 271) (lps := [(true, 0)]) (tbl := []) SPl_P SF_L vr_wedBits_k (by decide +kernel) (by decide +kernel) (x_n)
theorem fp_vr_onesOf {h0 : fH} : XC (SPl h0) ((199, [], 0, 0)) := x_state (b := 0) (lps := [(false, 0)]) (tbl := []) SPl_P SF_L vr_onesOf_k (by decide +kernel) (by decide +kernel) (x_n)
theorem fq1_vr_personIn {g : gV} {h0 : fH} : XC (SQ g h0) ((200, [some 271, none, none, none], 1, 1)) := x_state (b := 271) (lps := []) (tbl := [(159, [some 271, some 290, some 1], 0, 1), (159, [some 271, some 290, some 0], 2, 1), (172, [some 271, none], 1, 2)]) SQ_P SQ_L vr_personIn_k (by decide +kernel) (by decide +kernel) (x_c fk_think (x_c fk_again (x_c fq1_vr_goDays (x_n))))
theorem fq0_vr_personIn {g : gV} {h0 : fH} : XC (SQ g h0) ((200, [some 271, none, none, none], 0, 0)) := x_state (b := 271) (lps := []) (tbl := [(159, [some 271, some 290, some 1], 0, 1), (159, [some 271, some 290, some 0], 2, 1), (172, [some 271, none], 1, 2)]) SQ_P SQ_L vr_personIn_k (by decide +kernel) (by decide +kernel) (x_c fk_think (x_c fk_again (x_c fq1_vr_goDays (x_n))))
theorem fq1_vr_beliefThen {g : gV} {h0 : fH} : XC (SQ g h0) ((202, [some 271, none, none, none], 1, 1)) := x_state (b := 271) (lps := []) (tbl := [(159, [some 271, some 290, some 1], 0, 1), (159, [some 271, some 290, some 0], 2, 1), (172, [some 271, none], 1, 2)]) SQ_P SQ_L vr_beliefThen_k (by decide +kernel) (by decide +kernel) (x_c fk_think (x_c fk_again (x_c fq1_vr_goDays (x_n))))
theorem fq0_vr_beliefThen {g : gV} {h0 : fH} : XC (SQ g h0) ((202, [some 271, none, none, none], 0, 1)) := x_state (b := 271) (lps := []) (tbl := [(159, [some 271, some 290, some 1], 0, 1), (159, [some 271, some 290, some 0], 2, 1), (172, [some 271, none], 1, 2)]) SQ_P SQ_L vr_beliefThen_k (by decide +kernel) (by decide +kernel) (x_c fk_think (x_c fk_again (x_c fq1_vr_goDays (x_n))))
theorem fq1_vr_beliefIn {g : gV} {h0 : fH} : XC (SQ g h0) ((201, [some 271, none, none, none], 1, 1)) := x_state (b := 271) (lps := []) (tbl := [(202, [some 271, none, none, none], 1, 1)]) SQ_P SQ_L vr_beliefIn_k (by decide +kernel) (by decide +kernel) (x_c fq1_vr_beliefThen (x_n))
theorem fq0_vr_beliefIn {g : gV} {h0 : fH} : XC (SQ g h0) ((201, [some 271, none, none, none], 0, 0)) := x_state (b := 271) (lps := []) (tbl := [(202, [some 271, none, none, none], 0, 1)]) SQ_P SQ_L vr_beliefIn_k (by decide +kernel) (by decide +kernel) (x_c fq0_vr_beliefThen (x_n))
theorem fq1_vr_wedThen {g : gV} {h0 : fH} : XC (SQ g h0) ((204, [some 271, none], 1, 1)) := x_state (b := 271) (lps := []) (tbl := [(159, [some 271, some 290, some 0], 2, 1), (172, [some 271, none], 1, 2), (198, [some 271], 2, 2), (199, [], 2, 2)]) SQ_P SQ_L vr_wedThen_k (by decide +kernel) (by decide +kernel) (x_c fk_again (x_c fq1_vr_goDays (x_c (SQ_lt 2 (fun _ => fp_vr_wedBits)) (x_c (SQ_lt 2 (fun _ => fp_vr_onesOf)) (x_n)))))
theorem fq2_vr_wedThen {g : gV} {h0 : fH} : XC (SQ g h0) ((204, [some 271, none], 2, 1)) := x_state (b := 271) (lps := []) (tbl := [(159, [some 271, some 290, some 0], 2, 1), (172, [some 271, none], 2, 2), (198, [some 271], 2, 2), (199, [], 2, 2)]) SQ_P SQ_L vr_wedThen_k (by decide +kernel) (by decide +kernel) (x_c fk_again (x_c fq2_vr_goDays (x_c (SQ_lt 2 (fun _ => fp_vr_wedBits)) (x_c (SQ_lt 2 (fun _ => fp_vr_onesOf)) (x_n)))))
theorem fq1_vr_wedIn {g : gV} {h0 : fH} : XC (SQ g h0) ((203, [some 271, none], 1, 1)) := x_state (b := 271) (lps := []) (tbl := [(159, [some 271, some 290, some 1], 0, 1), (204, [some 271, none], 1, 1)]) SQ_P SQ_L vr_wedIn_k (by decide +kernel) (by decide +kernel) (x_c fk_think (x_c fq1_vr_wedThen (x_n)))
theorem fq0_vr_wedIn {g : gV} {h0 : fH} : XC (SQ g h0) ((203, [some 271, none], 0, 0)) := x_state (b := 271) (lps := []) (tbl := [(159, [some 271, some 290, some 1], 0, 1), (204, [some 271, none], 1, 1)]) SQ_P SQ_L vr_wedIn_k (by decide +kernel) (by decide +kernel) (x_c fk_think (x_c fq1_vr_wedThen (x_n)))
theorem fq1_vr_wedSoon {g : gV} {h0 : fH} : XC (SQ g h0) ((206, [some 271, none], 1, 1)) := x_state (b := 271) (lps := [(true, 2)]) (tbl := [(159, [some 271, some 290, some 1], 0, 1), (159, [some 271, some 290, some 0], 2, 1), (173, [some 271, none], 2, 2)]) SQ_P SQ_L vr_wedSoon_k (by decide +kernel) (by decide +kernel) (x_c fk_think (x_c fk_again (x_c fq2_vr_dayBy (x_n))))
theorem fq0_vr_wedSoon {g : gV} {h0 : fH} : XC (SQ g h0) ((206, [some 271, none], 0, 1)) := x_state (b := 271) (lps := [(true, 2)]) (tbl := [(159, [some 271, some 290, some 1], 0, 1), (159, [some 271, some 290, some 0], 2, 1), (173, [some 271, none], 2, 2)]) SQ_P SQ_L vr_wedSoon_k (by decide +kernel) (by decide +kernel) (x_c fk_think (x_c fk_again (x_c fq2_vr_dayBy (x_n))))
theorem fq1_vr_wedWhen {g : gV} {h0 : fH} : XC (SQ g h0) ((205, [some 271, none], 1, 1)) := x_state (b := 271) (lps := [(true, 1)]) (tbl := [(206, [some 271, none], 1, 1)]) SQ_P SQ_L vr_wedWhen_k (by decide +kernel) (by decide +kernel) (x_c fq1_vr_wedSoon (x_n))
theorem fq0_vr_wedWhen {g : gV} {h0 : fH} : XC (SQ g h0) ((205, [some 271, none], 0, 0)) := x_state (b := 271) (lps := [(true, 0)]) (tbl := [(206, [some 271, none], 0, 1)]) SQ_P SQ_L vr_wedWhen_k (by decide +kernel) (by decide +kernel) (x_c fq0_vr_wedSoon (x_n))
theorem fp_vr_happens {h0 : fH} : XC (SPl h0) ((207, [some 271, none, none], 0, 0)) := x_state (b := 271) (lps := [(true, 0)]) (tbl := []) SPl_P SF_L vr_happens_k (by decide +kernel) (by decide +kernel) (x_n)
theorem fp_vr_isLost {h0 : fH} : XC (SPl h0) ((210, [some 271, none, none, none], 0, 0)) := x_state (b := 271) (lps := []) (tbl := []) SPl_P SF_L vr_isLost_k (by decide +kernel) (by decide +kernel) (x_n)
theorem fp_vr_betOf {h0 : fH} : XC (SPl h0) ((209, [some 271, none, none], 0, 0)) := x_state (b := 271) (lps := [(true, 0), (true, 0)]) (tbl := [(166, [some 271, none, none, none, none], 0, 0), (210, [some 271, none, none, none], 0, 0)]) SPl_P SF_L vr_betOf_k (by decide +kernel) (by decide +kernel) (x_c (fp_vr_couldBe) (x_c (fp_vr_isLost) (x_n)))
theorem fp_vr_bet {h0 : fH} : XC (SPl h0) ((208, [some 271, none, none], 0, 0)) := x_state (b := 271) (lps := []) (tbl := [(209, [some 271, none, none], 0, 0)]) SPl_P SF_L vr_bet_k (by decide +kernel) (by decide +kernel) (x_c (fp_vr_betOf) (x_n))
theorem fp_vr_takers {h0 : fH} : XC (SPl h0) ((211, [some 271, none, none, none], 0, 0)) := x_state (b := 271) (lps := [(true, 0)]) (tbl := [(169, [some 271, none, none, none, none], 0, 0)]) SPl_P SF_L vr_takers_k (by decide +kernel) (by decide +kernel) (x_c (fp_vr_isTaking) (x_n))
theorem fp_vr_wooersOf {h0 : fH} : XC (SPl h0) ((213, [some 271, none], 0, 0)) := x_state (b := 271) (lps := [(true, 0)]) (tbl := [(209, [some 271, none, none], 0, 0)]) SPl_P SF_L vr_wooersOf_k (by decide +kernel) (by decide +kernel) (x_c (fp_vr_betOf) (x_n))
theorem fp_vr_wooers {h0 : fH} : XC (SPl h0) ((212, [some 271, none], 0, 0)) := x_state (b := 271) (lps := []) (tbl := [(213, [some 271, none], 0, 0)]) SPl_P SF_L vr_wooers_k (by decide +kernel) (by decide +kernel) (x_c (fp_vr_wooersOf) (x_n))
theorem fp_vr_layMatch {h0 : fH} : XC (SPl h0) ((215, [some 271], 0, 0)) := x_state (b := 271) (lps := [(true, 0), (true, 0), (true, 0)]) (tbl := [(213, [some 271, none], 0, 0)]) SPl_P SF_L vr_layMatch_k (by decide +kernel) (by decide +kernel) (x_c (fp_vr_wooersOf) (x_n))
theorem fp_vr_partnerOf {h0 : fH} : XC (SPl h0) ((218, [some 271, none, none], 0, 0)) := x_state (b := 271) (lps := [(true, 0)]) (tbl := []) SPl_P SF_L vr_partnerOf_k (by decide +kernel) (by decide +kernel) (x_n)
theorem fp_vr_match {h0 : fH} : XC (SPl h0) ((214, [some 271, none], 0, 0)) := x_state (b := 271) (lps := [(true, 0)]) (tbl := [(215, [some 271], 0, 0), (218, [some 271, none, none], 0, 0)]) SPl_P SF_L vr_match_k (by decide +kernel) (by decide +kernel) (x_c (fp_vr_layMatch) (x_c (fp_vr_partnerOf) (x_n)))
theorem fq1_vr_fix {g : gV} {h0 : fH} : XC (SQ g h0) ((219, [some 271, none], 1, 1)) := x_state (b := 271) (lps := [(true, 1)]) (tbl := [(159, [some 271, some 290, some 1], 0, 1), (204, [some 271, none], 1, 1), (204, [some 271, none], 2, 1)]) SQ_P SQ_L vr_fix_k (by decide +kernel) (by decide +kernel) (x_c fk_think (x_c fq1_vr_wedThen (x_c fq2_vr_wedThen (x_n))))
theorem fq0_vr_fix {g : gV} {h0 : fH} : XC (SQ g h0) ((219, [some 271, none], 0, 0)) := x_state (b := 271) (lps := [(true, 1)]) (tbl := [(159, [some 271, some 290, some 1], 0, 1), (204, [some 271, none], 1, 1), (204, [some 271, none], 2, 1)]) SQ_P SQ_L vr_fix_k (by decide +kernel) (by decide +kernel) (x_c fk_think (x_c fq1_vr_wedThen (x_c fq2_vr_wedThen (x_n))))
theorem fp_vr_fair {h0 : fH} : XC (SPl h0) ((221, [some 271, none], 0, 0)) := x_state (b := 271) (lps := [(true, 0)]) (tbl := [(168, [some 271, none, none, none], 0, 0), (210, [some 271, none, none, none], 0, 0)]) SPl_P SF_L vr_fair_k (by decide +kernel) (by decide +kernel) (x_c (fp_vr_trustOf) (x_c (fp_vr_isLost) (x_n)))
theorem fp_vr_allTears {h0 : fH} : XC (SPl h0) ((224, [some 271], 0, 0)) := x_state (b := 271) (lps := [(true, 0)]) (tbl := []) SPl_P SF_L vr_allTears_k (by decide +kernel) (by decide +kernel) (x_n)
theorem fq1_vr_tearsWithout {g : gV} {h0 : fH} : XC (SQ g h0) ((223, [some 271, none, none], 1, 1)) := x_state (b := 271) (lps := [(true, 2)]) (tbl := [(159, [some 271, some 290, some 0], 2, 1), (178, [some 271, none], 2, 2), (172, [some 271, none], 2, 2), (224, [some 271], 2, 2)]) SQ_P SQ_L vr_tearsWithout_k (by decide +kernel) (by decide +kernel) (x_c fk_again (x_c fq2_vr_dropWager (x_c fq2_vr_goDays (x_c (SQ_lt 2 (fun _ => fp_vr_allTears)) (x_n)))))
theorem fq2_vr_tearsWithout {g : gV} {h0 : fH} : XC (SQ g h0) ((223, [some 271, none, none], 2, 1)) := x_state (b := 271) (lps := [(true, 2)]) (tbl := [(159, [some 271, some 290, some 0], 2, 1), (178, [some 271, none], 2, 2), (172, [some 271, none], 2, 2), (224, [some 271], 2, 2)]) SQ_P SQ_L vr_tearsWithout_k (by decide +kernel) (by decide +kernel) (x_c fk_again (x_c fq2_vr_dropWager (x_c fq2_vr_goDays (x_c (SQ_lt 2 (fun _ => fp_vr_allTears)) (x_n)))))
theorem fq1_vr_hedge {g : gV} {h0 : fH} : XC (SQ g h0) ((222, [some 271, none, none], 1, 1)) := x_state (b := 271) (lps := [(true, 1)]) (tbl := [(159, [some 271, some 290, some 1], 0, 1), (199, [], 1, 1), (223, [some 271, none, none], 1, 1)]) SQ_P SQ_L vr_hedge_k (by decide +kernel) (by decide +kernel) (x_c fk_think (x_c (SQ_lt 1 (fun _ => fp_vr_onesOf)) (x_c fq1_vr_tearsWithout (x_n))))
theorem fq0_vr_hedge {g : gV} {h0 : fH} : XC (SQ g h0) ((222, [some 271, none, none], 0, 0)) := x_state (b := 271) (lps := [(true, 1)]) (tbl := [(159, [some 271, some 290, some 1], 0, 1), (199, [], 1, 1), (223, [some 271, none, none], 1, 1)]) SQ_P SQ_L vr_hedge_k (by decide +kernel) (by decide +kernel) (x_c fk_think (x_c (SQ_lt 1 (fun _ => fp_vr_onesOf)) (x_c fq1_vr_tearsWithout (x_n))))
theorem fp_vr_wagerWith {h0 : fH} : XC (SPl h0) ((226, [some 271, none], 0, 0)) := x_state (b := 271) (lps := [(true, 0)]) (tbl := []) SPl_P SF_L vr_wagerWith_k (by decide +kernel) (by decide +kernel) (x_n)
theorem fq1_vr_isRow {g : gV} {h0 : fH} : XC (SQ g h0) ((227, [some 271, none], 1, 1)) := x_state (b := 271) (lps := [(true, 2)]) (tbl := [(159, [some 271, some 290, some 0], 2, 1), (173, [some 271, none], 2, 2)]) SQ_P SQ_L vr_isRow_k (by decide +kernel) (by decide +kernel) (x_c fk_again (x_c fq2_vr_dayBy (x_n)))
theorem fq2_vr_isRow {g : gV} {h0 : fH} : XC (SQ g h0) ((227, [some 271, none], 2, 1)) := x_state (b := 271) (lps := [(true, 2)]) (tbl := [(159, [some 271, some 290, some 0], 2, 1), (173, [some 271, none], 2, 2)]) SQ_P SQ_L vr_isRow_k (by decide +kernel) (by decide +kernel) (x_c fk_again (x_c fq2_vr_dayBy (x_n)))
theorem fq1_vr_uponWhat {g : gV} {h0 : fH} : XC (SQ g h0) ((225, [some 271, none, none], 1, 1)) := x_state (b := 271) (lps := [(true, 1)]) (tbl := [(159, [some 271, some 290, some 1], 0, 1), (226, [some 271, none], 1, 1), (227, [some 271, none], 2, 1)]) SQ_P SQ_L vr_uponWhat_k (by decide +kernel) (by decide +kernel) (x_c fk_think (x_c (SQ_lt 1 (fun _ => fp_vr_wagerWith)) (x_c fq2_vr_isRow (x_n))))
theorem fq0_vr_uponWhat {g : gV} {h0 : fH} : XC (SQ g h0) ((225, [some 271, none, none], 0, 0)) := x_state (b := 271) (lps := [(true, 1)]) (tbl := [(159, [some 271, some 290, some 1], 0, 1), (226, [some 271, none], 0, 0), (227, [some 271, none], 2, 1)]) SQ_P SQ_L vr_uponWhat_k (by decide +kernel) (by decide +kernel) (x_c fk_think (x_c (SQ_lt 0 (fun _ => fp_vr_wagerWith)) (x_c fq2_vr_isRow (x_n))))
theorem fq1_vr_whatKind {g : gV} {h0 : fH} : XC (SQ g h0) ((228, [some 271, none, none], 1, 1)) := x_state (b := 271) (lps := [(true, 1)]) (tbl := [(159, [some 271, some 290, some 1], 0, 1), (227, [some 271, none], 2, 1)]) SQ_P SQ_L vr_whatKind_k (by decide +kernel) (by decide +kernel) (x_c fk_think (x_c fq2_vr_isRow (x_n)))
theorem fq0_vr_whatKind {g : gV} {h0 : fH} : XC (SQ g h0) ((228, [some 271, none, none], 0, 0)) := x_state (b := 271) (lps := [(true, 1)]) (tbl := [(159, [some 271, some 290, some 1], 0, 1), (227, [some 271, none], 2, 1)]) SQ_P SQ_L vr_whatKind_k (by decide +kernel) (by decide +kernel) (x_c fk_think (x_c fq2_vr_isRow (x_n)))
theorem fq1_vr_two {g : gV} {h0 : fH} : XC (SQ g h0) ((229, [some 271, none, none, none], 1, 1)) := x_state (b := 271) (lps := [(true, 1), (true, 1)]) (tbl := [(159, [some 271, some 290, some 1], 0, 1), (159, [some 271, some 290, some 0], 2, 1), (167, [some 271, none], 1, 1), (166, [some 271, none, none, none, none], 2, 2), (210, [some 271, none, none, none], 2, 2)]) SQ_P SQ_L vr_two_k (by decide +kernel) (by decide +kernel) (x_c fk_think (x_c fk_again (x_c (SQ_lt 1 (fun _ => fp_vr_isFree)) (x_c (SQ_lt 2 (fun _ => fp_vr_couldBe)) (x_c (SQ_lt 2 (fun _ => fp_vr_isLost)) (x_n))))))
theorem fq0_vr_two {g : gV} {h0 : fH} : XC (SQ g h0) ((229, [some 271, none, none, none], 0, 0)) := x_state (b := 271) (lps := [(true, 1), (true, 1)]) (tbl := [(159, [some 271, some 290, some 1], 0, 1), (159, [some 271, some 290, some 0], 2, 1), (167, [some 271, none], 0, 0), (166, [some 271, none, none, none, none], 2, 2), (210, [some 271, none, none, none], 2, 2)]) SQ_P SQ_L vr_two_k (by decide +kernel) (by decide +kernel) (x_c fk_think (x_c fk_again (x_c (SQ_lt 0 (fun _ => fp_vr_isFree)) (x_c (SQ_lt 2 (fun _ => fp_vr_couldBe)) (x_c (SQ_lt 2 (fun _ => fp_vr_isLost)) (x_n))))))
theorem fp_vr_divisor {h0 : fH} : XC (SPl h0) ((232, [], 0, 0)) := x_state (b := 0) (lps := [(false, 0)]) (tbl := []) SPl_P SF_L vr_divisor_k (by decide +kernel) (by decide +kernel) (x_n)
theorem fp_vr_partOf {h0 : fH} : XC (SPl h0) ((231, [], 0, 0)) := x_state (b := 0) (lps := []) (tbl := [(232, [], 0, 0)]) SPl_P SF_L vr_partOf_k (by decide +kernel) (by decide +kernel) (x_c (fp_vr_divisor) (x_n))
theorem fq1_vr_sure {g : gV} {h0 : fH} : XC (SQ g h0) ((230, [some 271, none, none, none, none], 1, 1)) := x_state (b := 271) (lps := [(true, 1), (true, 1), (true, 2)]) (tbl := [(159, [some 271, some 290, some 1], 0, 1), (159, [some 271, some 290, some 0], 2, 1), (173, [some 271, none], 2, 2), (231, [], 1, 1)]) SQ_P SQ_L vr_sure_k (by decide +kernel) (by decide +kernel) (x_c fk_think (x_c fk_again (x_c fq2_vr_dayBy (x_c (SQ_lt 1 (fun _ => fp_vr_partOf)) (x_n)))))
theorem fq0_vr_sure {g : gV} {h0 : fH} : XC (SQ g h0) ((230, [some 271, none, none, none, none], 0, 0)) := x_state (b := 271) (lps := [(true, 0), (true, 1), (true, 2)]) (tbl := [(159, [some 271, some 290, some 1], 0, 1), (159, [some 271, some 290, some 0], 2, 1), (173, [some 271, none], 2, 2), (231, [], 1, 1)]) SQ_P SQ_L vr_sure_k (by decide +kernel) (by decide +kernel) (x_c fk_think (x_c fk_again (x_c fq2_vr_dayBy (x_c (SQ_lt 1 (fun _ => fp_vr_partOf)) (x_n)))))
theorem fp_vr_shares {h0 : fH} : XC (SPl h0) ((233, [some 271, none, none], 0, 0)) := x_state (b := 271) (lps := []) (tbl := [(224, [some 271], 0, 0)]) SPl_P SF_L vr_shares_k (by decide +kernel) (by decide +kernel) (x_c (fp_vr_allTears) (x_n))
theorem fp_vr_saddestOne {h0 : fH} : XC (SPl h0) ((235, [some 271], 0, 0)) := x_state (b := 271) (lps := [(true, 0)]) (tbl := []) SPl_P SF_L vr_saddestOne_k (by decide +kernel) (by decide +kernel) (x_n)
theorem fp_vr_twosOf {h0 : fH} : XC (SPl h0) ((236, [some 271, none], 0, 0)) := x_state (b := 271) (lps := [(true, 0), (true, 0)]) (tbl := []) SPl_P SF_L vr_twosOf_k (by decide +kernel) (by decide +kernel) (x_n)
theorem fp_vr_freeBits {h0 : fH} : XC (SPl h0) ((238, [some 271], 0, 0)) := x_state (b := 271) (lps := [(true, 0)]) (tbl := [(167, [some 271, none], 0, 0)]) SPl_P SF_L vr_freeBits_k (by decide +kernel) (by decide +kernel) (x_c (fp_vr_isFree) (x_n))
theorem fp_vr_saddest {h0 : fH} : XC (SPl h0) ((234, [some 271, none], 0, 0)) := x_state (b := 271) (lps := []) (tbl := [(235, [some 271], 0, 0), (236, [some 271, none], 0, 0), (238, [some 271], 0, 0)]) SPl_P SF_L vr_saddest_k (by decide +kernel) (by decide +kernel) (x_c (fp_vr_saddestOne) (x_c (fp_vr_twosOf) (x_c (fp_vr_freeBits) (x_n))))
theorem fp_vr_wished {h0 : fH} : XC (SPl h0) ((239, [some 271, none], 0, 0)) := x_state (b := 271) (lps := [(true, 0)]) (tbl := []) SPl_P SF_L vr_wished_k (by decide +kernel) (by decide +kernel) (x_n)
theorem fp_vr_mean {h0 : fH} : XC (SPl h0) ((240, [some 271, none, none], 0, 0)) := x_state (b := 271) (lps := [(true, 0)]) (tbl := [(231, [], 0, 0)]) SPl_P SF_L vr_mean_k (by decide +kernel) (by decide +kernel) (x_c (fp_vr_partOf) (x_n))
theorem fp_vr_scorn {h0 : fH} : XC (SPl h0) ((241, [some 271, none], 0, 0)) := x_state (b := 271) (lps := [(true, 0)]) (tbl := []) SPl_P SF_L vr_scorn_k (by decide +kernel) (by decide +kernel) (x_n)
theorem fp_vr_lastDays {h0 : fH} : XC (SPl h0) ((243, [some 271], 0, 0)) := x_state (b := 271) (lps := [(true, 0)]) (tbl := []) SPl_P SF_L vr_lastDays_k (by decide +kernel) (by decide +kernel) (x_n)
theorem fq1_vr_chasteRun {g : gV} {h0 : fH} : XC (SQ g h0) ((244, [some 271], 1, 1)) := x_state (b := 271) (lps := [(true, 2)]) (tbl := [(159, [some 271, some 290, some 1], 0, 1), (159, [some 271, some 290, some 0], 2, 1), (173, [some 271, none], 2, 2), (198, [some 271], 2, 2)]) SQ_P SQ_L vr_chasteRun_k (by decide +kernel) (by decide +kernel) (x_c fk_think (x_c fk_again (x_c fq2_vr_dayBy (x_c (SQ_lt 2 (fun _ => fp_vr_wedBits)) (x_n)))))
theorem fq0_vr_chasteRun {g : gV} {h0 : fH} : XC (SQ g h0) ((244, [some 271], 0, 1)) := x_state (b := 271) (lps := [(true, 2)]) (tbl := [(159, [some 271, some 290, some 1], 0, 1), (159, [some 271, some 290, some 0], 2, 1), (173, [some 271, none], 2, 2), (198, [some 271], 2, 2)]) SQ_P SQ_L vr_chasteRun_k (by decide +kernel) (by decide +kernel) (x_c fk_think (x_c fk_again (x_c fq2_vr_dayBy (x_c (SQ_lt 2 (fun _ => fp_vr_wedBits)) (x_n)))))
theorem fp_vr_oddBits {h0 : fH} : XC (SPl h0) ((245, [some 271], 0, 0)) := x_state (b := 271) (lps := [(true, 0)]) (tbl := []) SPl_P SF_L vr_oddBits_k (by decide +kernel) (by decide +kernel) (x_n)
theorem fq1_vr_left {g : gV} {h0 : fH} : XC (SQ g h0) ((242, [some 271, none], 1, 1)) := x_state (b := 271) (lps := []) (tbl := [(236, [some 271, none], 1, 1), (243, [some 271], 1, 1), (244, [some 271], 1, 1), (245, [some 271], 1, 1)]) SQ_P SQ_L vr_left_k (by decide +kernel) (by decide +kernel) (x_c (SQ_lt 1 (fun _ => fp_vr_twosOf)) (x_c (SQ_lt 1 (fun _ => fp_vr_lastDays)) (x_c fq1_vr_chasteRun (x_c (SQ_lt 1 (fun _ => fp_vr_oddBits)) (x_n)))))
theorem fq0_vr_left {g : gV} {h0 : fH} : XC (SQ g h0) ((242, [some 271, none], 0, 0)) := x_state (b := 271) (lps := []) (tbl := [(236, [some 271, none], 0, 0), (243, [some 271], 0, 0), (244, [some 271], 0, 1), (245, [some 271], 0, 0)]) SQ_P SQ_L vr_left_k (by decide +kernel) (by decide +kernel) (x_c (SQ_lt 0 (fun _ => fp_vr_twosOf)) (x_c (SQ_lt 0 (fun _ => fp_vr_lastDays)) (x_c fq0_vr_chasteRun (x_c (SQ_lt 0 (fun _ => fp_vr_oddBits)) (x_n)))))
theorem fq1_vr_hope {g : gV} {h0 : fH} : XC (SQ g h0) ((246, [some 271, none, none, none], 1, 1)) := x_state (b := 271) (lps := []) (tbl := [(202, [some 271, none, none, none], 1, 1)]) SQ_P SQ_L vr_hope_k (by decide +kernel) (by decide +kernel) (x_c fq1_vr_beliefThen (x_n))
theorem fq0_vr_hope {g : gV} {h0 : fH} : XC (SQ g h0) ((246, [some 271, none, none, none], 0, 0)) := x_state (b := 271) (lps := []) (tbl := [(202, [some 271, none, none, none], 0, 1)]) SQ_P SQ_L vr_hope_k (by decide +kernel) (by decide +kernel) (x_c fq0_vr_beliefThen (x_n))
theorem fp_vr_drawBelow {h0 : fH} : XC (SPl h0) ((251, [some 271, none], 0, 0)) := x_state (b := 271) (lps := []) (tbl := []) SPl_P SF_L vr_drawBelow_k (by decide +kernel) (by decide +kernel) (x_n)
theorem fq1_vr_lots {g : gV} {h0 : fH} : XC (SQ g h0) ((250, [some 271, none, none, none], 1, 1)) := x_state (b := 271) (lps := [(true, 1), (true, 2)]) (tbl := [(159, [some 271, some 290, some 1], 0, 1), (159, [some 271, some 290, some 0], 2, 1), (172, [some 271, none], 2, 2), (198, [some 271], 2, 2), (199, [], 2, 2), (224, [some 271], 2, 2), (251, [some 271, none], 2, 2)]) SQ_P SQ_L vr_lots_k (by decide +kernel) (by decide +kernel) (x_c fk_think (x_c fk_again (x_c fq2_vr_goDays (x_c (SQ_lt 2 (fun _ => fp_vr_wedBits)) (x_c (SQ_lt 2 (fun _ => fp_vr_onesOf)) (x_c (SQ_lt 2 (fun _ => fp_vr_allTears)) (x_c (SQ_lt 2 (fun _ => fp_vr_drawBelow)) (x_n))))))))
theorem fq0_vr_lots {g : gV} {h0 : fH} : XC (SQ g h0) ((250, [some 271, none, none, none], 0, 0)) := x_state (b := 271) (lps := [(true, 1), (true, 2)]) (tbl := [(159, [some 271, some 290, some 1], 0, 1), (159, [some 271, some 290, some 0], 2, 1), (172, [some 271, none], 2, 2), (198, [some 271], 2, 2), (199, [], 2, 2), (224, [some 271], 2, 2), (251, [some 271, none], 2, 2)]) SQ_P SQ_L vr_lots_k (by decide +kernel) (by decide +kernel) (x_c fk_think (x_c fk_again (x_c fq2_vr_goDays (x_c (SQ_lt 2 (fun _ => fp_vr_wedBits)) (x_c (SQ_lt 2 (fun _ => fp_vr_onesOf)) (x_c (SQ_lt 2 (fun _ => fp_vr_allTears)) (x_c (SQ_lt 2 (fun _ => fp_vr_drawBelow)) (x_n))))))))
theorem fp_vr_count {h0 : fH} : XC (SPl h0) ((252, [some 271, none], 0, 0)) := x_state (b := 271) (lps := []) (tbl := [(198, [some 271], 0, 0), (224, [some 271], 0, 0)]) SPl_P SF_L vr_count_k (by decide +kernel) (by decide +kernel) (x_c (fp_vr_wedBits) (x_c (fp_vr_allTears) (x_n)))
