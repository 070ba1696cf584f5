/-! the reference's methods leave the row of the refusals (285) as it is (made by a program) -/
abbrev SK (d : Int) (h0 : fH) : Nat → fH → Prop := fun _ h => ∀ k, h d k = h0 d k
def pK (d : Int) : xP := fun s c _ => match decide (c = d) with
  | true => none
  | false => some s
section SKs
variable {dd : Int} {h0 : fH}
theorem SK_L : XL (SK dd h0) := fun _ _ _ _ h => h
theorem pK_c {s s' : Nat} {c : Int} {k : Option Int} (h : pK dd s c k = some s') : c ≠ dd := by
  unfold pK at h
  split at h
  · cases h
  · rename_i q
    exact of_decide_eq_false q
theorem SK_P : XP (SK dd h0) (pK dd) := ⟨fun s c k s' h z hp hs i => by
  rw [fu_c (fun q => pK_c hp q.symm)]
  exact hs i, fun s c s' h i z hp hs j => by
  rw [fu_c (fun q => pK_c hp q.symm)]
  exact hs j, fun s c s' h i n hp hs j => by
  unfold fcp
  rw [if_neg (fun q => pK_c hp q.1.symm)]
  exact hs j⟩
theorem eK {j : Nat} {rq : List (Option Int)} {as : List Int} {h h' : fH} {v : Int} (H : ∀ h, XC (SK dd h) (j, rq, 0, 0)) (hS : fS j as h v h') (hr : xR rq as) : ∀ k, h' dd k = h dd k := H h as h v h' hr (fun _ => rfl) hS
end SKs
def kq (T : Int) (h q : fH) : Prop := (∀ k, q 285 k = h 285 k) ∧ q 271 31 = T
section KQ
variable {T kp z v c k : Int} {h q q' : fH}
theorem kq.up (a : kq T h q) (e : q' = fu q c k z) (hc : c ≠ 285 ∧ (c ≠ 271 ∨ k ≠ 31)) : kq T h q' := by
  rw [e]
  refine ⟨fun i => ?_, ?_⟩
  · rw [fu_c (by omega)]
    exact a.1 i
  · unfold fu
    rw [if_neg (by omega)]
    exact a.2
theorem kq.st (e : q' = fu h 271 31 T) : kq T h q' := by
  rw [e]
  exact ⟨fun i => fu_c (by decide), fu_e rfl rfl⟩
theorem kq.ca (a : kq T h q) (hT : T ≠ 285 ∧ T ≠ 271) (hs : fS 160 [271, z] q v q') : kq T h q' := by
  refine vr_carry hs (fun _ q' => kq T h q') ?_
  intro z2 e2
  refine ⟨fun q1 z3 e3 z4 e4 k1 ek1 z5 e5 z6 e6 z7 e7 z8 e8 => a.up ek1 (by omega), fun q1 z3 e3 z4 e4 k1 ek1 z5 e5 z6 e6 k2 ek2 z7 e7 z8 e8 z9 e9 z10 e10 => ?_⟩
  have e3 := e3.trans a.2
  exact (a.up ek1 (by omega)).up ek2 (by omega)
theorem sd_carryAll {h' : fH} (hs : fS 159 [271, T, kp] h v h') (hT : T ≠ 285 ∧ T ≠ 271) : ∀ k, h' 285 k = h 285 k := by
  refine vr_carryAll hs (fun x0 _ q => 271 = x0 ∧ kq T h q) (fun x0 _ q => 271 = x0 ∧ kq T h q) (fun x0 _ q => 271 = x0 ∧ kq T h q) (fun x0 _ q => 271 = x0 ∧ kq T h q) (fun _ q => ∀ k, q 285 k = h 285 k) ?_ ?_ ?_ ?_ ?_
  · exact fun k1 ek1 => fun k2 ek2 => fun k3 ek3 => fun _ _ => fun _ k4 hs4 => fun k5 ek5 => fun _ _ => fun _ k6 hs6 => fun k7 ek7 => fun _ _ => fun _ k8 hs8 => fun k9 ek9 => ⟨rfl, (((((((((kq.st ek1).up ek2 (by omega)).up ek3 (by omega)).ca hT hs4).up ek5 (by omega)).ca hT hs6).up ek7 (by omega)).ca hT hs8).up ek9 (by omega))⟩
  · rintro x0 x3 q ⟨rfl, i1⟩
    exact ⟨fun _ => ⟨rfl, i1⟩, fun _ => fun _ _ => fun _ k1 hs1 => fun k2 ek2 => fun _ _ => fun _ k3 hs3 => fun k4 ek4 => fun _ _ => fun _ k5 hs5 => fun k6 ek6 => fun _ _ => fun _ k7 hs7 => fun k8 ek8 => fun _ _ => fun _ k9 hs9 => fun k10 ek10 => fun _ _ => ⟨rfl, ((((((((((i1.ca hT hs1).up ek2 (by omega)).ca hT hs3).up ek4 (by omega)).ca hT hs5).up ek6 (by omega)).ca hT hs7).up ek8 (by omega)).ca hT hs9).up ek10 (by omega))⟩⟩
  · rintro x0 x3 q ⟨rfl, i1⟩
    exact ⟨fun _ => ⟨rfl, i1⟩, fun _ => fun _ _ => fun _ k1 hs1 => fun k2 ek2 => fun _ _ => ⟨rfl, ((i1.ca hT hs1).up ek2 (by omega))⟩⟩
  · rintro x0 x3 q ⟨rfl, i1⟩
    exact ⟨fun _ => ⟨rfl, i1⟩, fun _ => fun _ _ => fun _ k1 hs1 => fun k2 ek2 => fun _ _ => fun _ k3 hs3 => fun k4 ek4 => fun _ _ => ⟨rfl, ((((i1.ca hT hs1).up ek2 (by omega)).ca hT hs3).up ek4 (by omega))⟩⟩
  · rintro x0 x3 q ⟨rfl, i1⟩
    exact ⟨fun _ => i1.1, fun _ => fun _ _ => fun _ k1 hs1 => fun k2 ek2 => fun _ _ => fun _ k3 hs3 => fun k4 ek4 => fun _ _ => fun _ k5 hs5 => fun k6 ek6 => fun _ _ => fun _ k7 hs7 => fun k8 ek8 => fun _ _ => fun _ k9 hs9 => fun k10 ek10 => fun _ _ => ⟨rfl, ((((((((((i1.ca hT hs1).up ek2 (by omega)).ca hT hs3).up ek4 (by omega)).ca hT hs5).up ek6 (by omega)).ca hT hs7).up ek8 (by omega)).ca hT hs9).up ek10 (by omega))⟩⟩
theorem fe_cA {h0 : fH} (hT : T ≠ 285 ∧ T ≠ 271) : XC (SK 285 h0) (159, [some 271, some T, none], 0, 0) := fun as h v h' hr hs hS => by
  have hl := fS_len hS
  match as, hl, hr with
  | [a, b, c], _, ⟨h1, h2, _⟩ =>
    subst h1 h2
    exact fun k => (sd_carryAll hS hT k).trans (hs k)
end KQ
theorem fe_vr_here {h0 : fH} : XC (SK 285 h0) ((154, [some 271], 0, 0)) := x_state (b := 271) (lps := []) (tbl := []) SK_P SK_L vr_here_k (by decide +kernel) (by decide +kernel) (x_n)
theorem fe_vr_digitsOf {h0 : fH} : XC (SK 285 h0) ((155, [], 0, 0)) := x_state (b := 0) (lps := []) (tbl := []) SK_P SK_L vr_digitsOf_k (by decide +kernel) (by decide +kernel) (x_n)
theorem fe_vr_readDigit {h0 : fH} : XC (SK 285 h0) ((156, [some 271], 0, 0)) := x_state (b := 271) (lps := []) (tbl := [(154, [some 271], 0, 0)]) SK_P SK_L vr_readDigit_k (by decide +kernel) (by decide +kernel) (x_c (fe_vr_here) (x_n))
theorem fe_vr_readStatement {h0 : fH} : XC (SK 285 h0) ((153, [some 271], 0, 0)) := x_state (b := 271) (lps := [(true, 0)]) (tbl := [(154, [some 271], 0, 0), (155, [], 0, 0), (156, [some 271], 0, 0)]) SK_P SK_L vr_readStatement_k (by decide +kernel) (by decide +kernel) (x_c (fe_vr_here) (x_c (fe_vr_digitsOf) (x_c (fe_vr_readDigit) (x_n))))
theorem fe_vr_personComes {h0 : fH} : XC (SK 285 h0) ((162, [some 271, none, none], 0, 0)) := x_state (b := 271) (lps := [(true, 0)]) (tbl := []) SK_P SK_L vr_personComes_k (by decide +kernel) (by decide +kernel) (x_n)
theorem fe_vr_isFree {h0 : fH} : XC (SK 285 h0) ((167, [some 271, none], 0, 0)) := x_state (b := 271) (lps := [(true, 0)]) (tbl := []) SK_P SK_L vr_isFree_k (by decide +kernel) (by decide +kernel) (x_n)
theorem fe_vr_trustOf {h0 : fH} : XC (SK 285 h0) ((168, [some 271, none, none, none], 0, 0)) := x_state (b := 271) (lps := []) (tbl := []) SK_P SK_L vr_trustOf_k (by decide +kernel) (by decide +kernel) (x_n)
theorem fe_vr_asksOf {h0 : fH} : XC (SK 285 h0) ((170, [some 271, none], 0, 0)) := x_state (b := 271) (lps := []) (tbl := []) SK_P SK_L vr_asksOf_k (by decide +kernel) (by decide +kernel) (x_n)
theorem fe_vr_isTaking {h0 : fH} : XC (SK 285 h0) ((169, [some 271, none, none, none, none], 0, 0)) := x_state (b := 271) (lps := []) (tbl := [(168, [some 271, none, none, none], 0, 0), (170, [some 271, none], 0, 0)]) SK_P SK_L vr_isTaking_k (by decide +kernel) (by decide +kernel) (x_c (fe_vr_trustOf) (x_c (fe_vr_asksOf) (x_n)))
theorem fe_vr_couldBe {h0 : fH} : XC (SK 285 h0) ((166, [some 271, none, none, none, none], 0, 0)) := x_state (b := 271) (lps := []) (tbl := [(167, [some 271, none], 0, 0), (168, [some 271, none, none, none], 0, 0), (169, [some 271, none, none, none, none], 0, 0)]) SK_P SK_L vr_couldBe_k (by decide +kernel) (by decide +kernel) (x_c (fe_vr_isFree) (x_c (fe_vr_trustOf) (x_c (fe_vr_isTaking) (x_n))))
theorem fe_vr_wagerTold {h0 : fH} : XC (SK 285 h0) ((165, [some 271, none, none, none, none, none], 0, 0)) := x_state (b := 271) (lps := []) (tbl := [(166, [some 271, none, none, none, none], 0, 0)]) SK_P SK_L vr_wagerTold_k (by decide +kernel) (by decide +kernel) (x_c (fe_vr_couldBe) (x_n))
theorem fe_vr_weepsOf {h0 : fH} : XC (SK 285 h0) ((176, [some 271, none], 0, 0)) := x_state (b := 271) (lps := []) (tbl := []) SK_P SK_L vr_weepsOf_k (by decide +kernel) (by decide +kernel) (x_n)
theorem fe_vr_held {h0 : fH} : XC (SK 285 h0) ((177, [], 0, 0)) := x_state (b := 0) (lps := []) (tbl := []) SK_P SK_L vr_held_k (by decide +kernel) (by decide +kernel) (x_n)
theorem fe_vr_wed {h0 : fH} : XC (SK 285 h0) ((175, [some 271, none, none], 0, 0)) := x_state (b := 271) (lps := []) (tbl := [(176, [some 271, none], 0, 0), (177, [], 0, 0)]) SK_P SK_L vr_wed_k (by decide +kernel) (by decide +kernel) (x_c (fe_vr_weepsOf) (x_c (fe_vr_held) (x_n)))
theorem fe_vr_dropWager {h0 : fH} : XC (SK 285 h0) ((178, [some 271, none], 0, 0)) := x_state (b := 271) (lps := [(true, 0)]) (tbl := []) SK_P SK_L vr_dropWager_k (by decide +kernel) (by decide +kernel) (x_n)
theorem fe_vr_learnsOf {h0 : fH} : XC (SK 285 h0) ((179, [some 271, none], 0, 0)) := x_state (b := 271) (lps := []) (tbl := []) SK_P SK_L vr_learnsOf_k (by decide +kernel) (by decide +kernel) (x_n)
theorem fe_vr_dayBy {h0 : fH} : XC (SK 285 h0) ((173, [some 271, none], 0, 0)) := x_state (b := 271) (lps := [(true, 0), (true, 0)]) (tbl := [(177, [], 0, 0), (175, [some 271, none, none], 0, 0), (178, [some 271, none], 0, 0), (179, [some 271, none], 0, 0)]) SK_P SK_L vr_dayBy_k (by decide +kernel) (by decide +kernel) (x_c (fe_vr_held) (x_c (fe_vr_wed) (x_c (fe_vr_dropWager) (x_c (fe_vr_learnsOf) (x_n)))))
theorem fe_vr_goDays {h0 : fH} : XC (SK 285 h0) ((172, [some 271, none], 0, 0)) := x_state (b := 271) (lps := [(true, 0)]) (tbl := [(173, [some 271, none], 0, 0)]) SK_P SK_L vr_goDays_k (by decide +kernel) (by decide +kernel) (x_c (fe_vr_dayBy) (x_n))
theorem fe_vr_comesTold {h0 : fH} : XC (SK 285 h0) ((161, [some 271, none], 0, 0)) := x_state (b := 271) (lps := []) (tbl := [(162, [some 271, none, none], 0, 0), (165, [some 271, none, none, none, none, none], 0, 0), (172, [some 271, none], 0, 0)]) SK_P SK_L vr_comesTold_k (by decide +kernel) (by decide +kernel) (x_c (fe_vr_personComes) (x_c (fe_vr_wagerTold) (x_c (fe_vr_goDays) (x_n))))
theorem fe_vr_keepTurn {h0 : fH} : XC (SK 285 h0) ((192, [some 271], 0, 0)) := x_state (b := 271) (lps := [(true, 0), (true, 0)]) (tbl := [(159, [some 271, some 293, none], 0, 0)]) SK_P SK_L vr_keepTurn_k (by decide +kernel) (by decide +kernel) (x_c (fe_cA (T := 293) (by decide)) (x_n))
theorem fe_vr_wedBits {h0 : fH} : XC (SK 285 h0) ((198, [some 271], 0, 0)) := x_state (b := 271) (lps := [(true, 0)]) (tbl := []) SK_P SK_L vr_wedBits_k (by decide +kernel) (by decide +kernel) (x_n)
theorem fe_vr_onesOf {h0 : fH} : XC (SK 285 h0) ((199, [], 0, 0)) := x_state (b := 0) (lps := [(false, 0)]) (tbl := []) SK_P SK_L vr_onesOf_k (by decide +kernel) (by decide +kernel) (x_n)
theorem fe_vr_beliefThen {h0 : fH} : XC (SK 285 h0) ((202, [some 271, none, none, none], 0, 0)) := x_state (b := 271) (lps := []) (tbl := [(159, [some 271, some 290, none], 0, 0), (172, [some 271, none], 0, 0)]) SK_P SK_L vr_beliefThen_k (by decide +kernel) (by decide +kernel) (x_c (fe_cA (T := 290) (by decide)) (x_c (fe_vr_goDays) (x_n)))
theorem fe_vr_wedThen {h0 : fH} : XC (SK 285 h0) ((204, [some 271, none], 0, 0)) := x_state (b := 271) (lps := []) (tbl := [(159, [some 271, some 290, none], 0, 0), (172, [some 271, none], 0, 0), (198, [some 271], 0, 0), (199, [], 0, 0)]) SK_P SK_L vr_wedThen_k (by decide +kernel) (by decide +kernel) (x_c (fe_cA (T := 290) (by decide)) (x_c (fe_vr_goDays) (x_c (fe_vr_wedBits) (x_c (fe_vr_onesOf) (x_n)))))
theorem fe_vr_wedSoon {h0 : fH} : XC (SK 285 h0) ((206, [some 271, none], 0, 0)) := x_state (b := 271) (lps := [(true, 0)]) (tbl := [(159, [some 271, some 290, none], 0, 0), (173, [some 271, none], 0, 0)]) SK_P SK_L vr_wedSoon_k (by decide +kernel) (by decide +kernel) (x_c (fe_cA (T := 290) (by decide)) (x_c (fe_vr_dayBy) (x_n)))
theorem fe_vr_isLost {h0 : fH} : XC (SK 285 h0) ((210, [some 271, none, none, none], 0, 0)) := x_state (b := 271) (lps := []) (tbl := []) SK_P SK_L vr_isLost_k (by decide +kernel) (by decide +kernel) (x_n)
theorem fe_vr_betOf {h0 : fH} : XC (SK 285 h0) ((209, [some 271, none, none], 0, 0)) := x_state (b := 271) (lps := [(true, 0), (true, 0)]) (tbl := [(166, [some 271, none, none, none, none], 0, 0), (210, [some 271, none, none, none], 0, 0)]) SK_P SK_L vr_betOf_k (by decide +kernel) (by decide +kernel) (x_c (fe_vr_couldBe) (x_c (fe_vr_isLost) (x_n)))
theorem fe_vr_wooersOf {h0 : fH} : XC (SK 285 h0) ((213, [some 271, none], 0, 0)) := x_state (b := 271) (lps := [(true, 0)]) (tbl := [(209, [some 271, none, none], 0, 0)]) SK_P SK_L vr_wooersOf_k (by decide +kernel) (by decide +kernel) (x_c (fe_vr_betOf) (x_n))
theorem fe_vr_layMatch {h0 : fH} : XC (SK 285 h0) ((215, [some 271], 0, 0)) := x_state (b := 271) (lps := [(true, 0), (true, 0), (true, 0)]) (tbl := [(213, [some 271, none], 0, 0)]) SK_P SK_L vr_layMatch_k (by decide +kernel) (by decide +kernel) (x_c (fe_vr_wooersOf) (x_n))
theorem fe_vr_partnerOf {h0 : fH} : XC (SK 285 h0) ((218, [some 271, none, none], 0, 0)) := x_state (b := 271) (lps := [(true, 0)]) (tbl := []) SK_P SK_L vr_partnerOf_k (by decide +kernel) (by decide +kernel) (x_n)
theorem fe_vr_allTears {h0 : fH} : XC (SK 285 h0) ((224, [some 271], 0, 0)) := x_state (b := 271) (lps := [(true, 0)]) (tbl := []) SK_P SK_L vr_allTears_k (by decide +kernel) (by decide +kernel) (x_n)
theorem fe_vr_tearsWithout {h0 : fH} : XC (SK 285 h0) ((223, [some 271, none, none], 0, 0)) := x_state (b := 271) (lps := [(true, 0)]) (tbl := [(159, [some 271, some 290, none], 0, 0), (178, [some 271, none], 0, 0), (172, [some 271, none], 0, 0), (224, [some 271], 0, 0)]) SK_P SK_L vr_tearsWithout_k (by decide +kernel) (by decide +kernel) (x_c (fe_cA (T := 290) (by decide)) (x_c (fe_vr_dropWager) (x_c (fe_vr_goDays) (x_c (fe_vr_allTears) (x_n)))))
theorem fe_vr_wagerWith {h0 : fH} : XC (SK 285 h0) ((226, [some 271, none], 0, 0)) := x_state (b := 271) (lps := [(true, 0)]) (tbl := []) SK_P SK_L vr_wagerWith_k (by decide +kernel) (by decide +kernel) (x_n)
theorem fe_vr_isRow {h0 : fH} : XC (SK 285 h0) ((227, [some 271, none], 0, 0)) := x_state (b := 271) (lps := [(true, 0)]) (tbl := [(159, [some 271, some 290, none], 0, 0), (173, [some 271, none], 0, 0)]) SK_P SK_L vr_isRow_k (by decide +kernel) (by decide +kernel) (x_c (fe_cA (T := 290) (by decide)) (x_c (fe_vr_dayBy) (x_n)))
theorem fe_vr_divisor {h0 : fH} : XC (SK 285 h0) ((232, [], 0, 0)) := x_state (b := 0) (lps := [(false, 0)]) (tbl := []) SK_P SK_L vr_divisor_k (by decide +kernel) (by decide +kernel) (x_n)
theorem fe_vr_partOf {h0 : fH} : XC (SK 285 h0) ((231, [], 0, 0)) := x_state (b := 0) (lps := []) (tbl := [(232, [], 0, 0)]) SK_P SK_L vr_partOf_k (by decide +kernel) (by decide +kernel) (x_c (fe_vr_divisor) (x_n))
theorem fe_vr_saddestOne {h0 : fH} : XC (SK 285 h0) ((235, [some 271], 0, 0)) := x_state (b := 271) (lps := [(true, 0)]) (tbl := []) SK_P SK_L vr_saddestOne_k (by decide +kernel) (by decide +kernel) (x_n)
theorem fe_vr_twosOf {h0 : fH} : XC (SK 285 h0) ((236, [some 271, none], 0, 0)) := x_state (b := 271) (lps := [(true, 0), (true, 0)]) (tbl := []) SK_P SK_L vr_twosOf_k (by decide +kernel) (by decide +kernel) (x_n)
theorem fe_vr_freeBits {h0 : fH} : XC (SK 285 h0) ((238, [some 271], 0, 0)) := x_state (b := 271) (lps := [(true, 0)]) (tbl := [(167, [some 271, none], 0, 0)]) SK_P SK_L vr_freeBits_k (by decide +kernel) (by decide +kernel) (x_c (fe_vr_isFree) (x_n))
theorem fe_vr_lastDays {h0 : fH} : XC (SK 285 h0) ((243, [some 271], 0, 0)) := x_state (b := 271) (lps := [(true, 0)]) (tbl := []) SK_P SK_L vr_lastDays_k (by decide +kernel) (by decide +kernel) (x_n)
theorem fe_vr_chasteRun {h0 : fH} : XC (SK 285 h0) ((244, [some 271], 0, 0)) := x_state (b := 271) (lps := [(true, 0)]) (tbl := [(159, [some 271, some 290, none], 0, 0), (173, [some 271, none], 0, 0), (198, [some 271], 0, 0)]) SK_P SK_L vr_chasteRun_k (by decide +kernel) (by decide +kernel) (x_c (fe_cA (T := 290) (by decide)) (x_c (fe_vr_dayBy) (x_c (fe_vr_wedBits) (x_n))))
theorem fe_vr_oddBits {h0 : fH} : XC (SK 285 h0) ((245, [some 271], 0, 0)) := x_state (b := 271) (lps := [(true, 0)]) (tbl := []) SK_P SK_L vr_oddBits_k (by decide +kernel) (by decide +kernel) (x_n)
theorem fe_vr_drawBelow {h0 : fH} : XC (SK 285 h0) ((251, [some 271, none], 0, 0)) := x_state (b := 271) (lps := []) (tbl := []) SK_P SK_L vr_drawBelow_k (by decide +kernel) (by decide +kernel) (x_n)
theorem fe3_vj_fill {h0 : fH} : XC (SK 3 h0) ((47, [some 269, none], 0, 0)) := x_state (b := 269) (lps := [(true, 0)]) (tbl := []) SK_P SK_L vj_fill_k (by decide +kernel) (by decide +kernel) (x_n)
theorem fe3_vw_reckon {h0 : fH} : XC (SK 3 h0) ((112, [some 268, none], 0, 0)) := x_state (b := 268) (lps := [(true, 0), (true, 0), (true, 0)]) (tbl := [(47, [some 269, none], 0, 0), (110, [none, none], 0, 0), (114, [none, none], 0, 0)]) SK_P SK_L vw_reckon_k (by decide +kernel) (by decide +kernel) (x_c (fe3_vj_fill) (x_c (S0_in 0 (fun _ => fz_vt_wooerBits)) (x_c (S0_in 0 (fun _ => fz_vw_mostIn)) (x_n))))
