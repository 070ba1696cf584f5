/-! what holds between two calls: the town, the image, the past, the letters, the row, alike in both -/
noncomputable abbrev gS : Type := gV × (Int × gV) × (Int × (Int → gV)) × (Int × gV) × (Int × gV)
noncomputable def GW (G : gS) : Prop :=
  (WF G.1 ∧ G.1 1 ≤ 999) ∧
  ((G.2.1.1 = 0 ∨ G.2.1.1 = 1) ∧ (G.2.1.1 = 1 → WF G.2.1.2 ∧ G.2.1.2 1 ≤ 999)) ∧
  (0 ≤ G.2.2.1.1 ∧ G.2.2.1.1 ≤ 8 ∧ ∀ t, 0 ≤ t → t < G.2.2.1.1 → WF (G.2.2.1.2 t) ∧ G.2.2.1.2 t 1 ≤ 999) ∧
  (0 ≤ G.2.2.2.1.1 ∧ G.2.2.2.1.1 ≤ 96 ∧ ∀ i, 0 ≤ i → i < G.2.2.2.1.1 → 0 ≤ G.2.2.2.1.2 i ∧ G.2.2.2.1.2 i ≤ 255) ∧
  (0 ≤ G.2.2.2.2.1 ∧ G.2.2.2.2.1 ≤ 12 ∧ ∀ i, 0 ≤ i → i < G.2.2.2.2.1 → 0 ≤ G.2.2.2.2.2 i ∧ G.2.2.2.2.2 i ≤ 99)
noncomputable def CI (I : Int × gV) (h : fH) : Prop := h 1 3 = I.1 ∧ (I.1 = 1 → RC h 57 I.2)
noncomputable def pB (l T t : Int) : Int := 82 + 23 * ((l + 9 - T + t) % 8)
noncomputable def CP (P : Int × (Int → gV)) (h : fH) : Prop := h 80 2 = P.1 ∧ (0 ≤ h 80 1 ∧ h 80 1 < 8) ∧ ∀ t, 0 ≤ t → t < P.1 → RC h (pB (h 80 1) P.1 t) (P.2 t)
noncomputable def CL (L : Int × gV) (h : fH) : Prop := h 266 1 = L.1 ∧ ∀ i, 0 ≤ i → i < L.1 → h 267 i = L.2 i
noncomputable def CO (R : Int × gV) (h : fH) : Prop := h 1 8 = R.1 ∧ ∀ i, 0 ≤ i → i < R.1 → h 2 i = R.2 i
noncomputable def CW (h : fH) : Prop := ∀ b, tw b → RW h b
noncomputable def CJ (G : gS) (h : fH) : Prop := RC h 11 G.1 ∧ CI G.2.1 h ∧ CP G.2.2.1 h ∧ CL G.2.2.2.1 h ∧ CO G.2.2.2.2 h ∧ CW h
noncomputable def MI (I : Int × gV) (h : fH) : Prop := h 271 28 = I.1 ∧ (I.1 = 1 → ∀ i, 0 ≤ i → i < 113 → h 291 i = I.2 i)
noncomputable def MP (P : Int × (Int → gV)) (h : fH) : Prop := h 271 34 = P.1 ∧ ∀ t i, 0 ≤ t → t < P.1 → 0 ≤ i → i < 113 → h 292 (113 * t + i) = P.2 t i
noncomputable def ML (L : Int × gV) (h : fH) : Prop := h 271 19 = L.1 ∧ ∀ i, 0 ≤ i → i < L.1 → h 286 i = L.2 i
noncomputable def MO (R : Int × gV) (h : fH) : Prop := h 271 38 = R.1 ∧ ∀ i, 0 ≤ i → i < R.1 → h 296 i = R.2 i
noncomputable def MJ (G : gS) (h : fH) : Prop := RM h G.1 ∧ MI G.2.1 h ∧ MP G.2.2.1 h ∧ ML G.2.2.2.1 h ∧ MO G.2.2.2.2 h
noncomputable def SJ (h : fH) : Prop := ∃ G, GW G ∧ CJ G h ∧ MJ G h
/-- the class's calls leave the reference's cells, and the other way -/
noncomputable def xC (h h' : fH) : Prop := ∀ c k, 271 ≤ c → h' c k = h c k
noncomputable def xM (h h' : fH) : Prop := ∀ c k, c < 271 → h' c k = h c k
section IV
variable {h h' h0 h1 : fH} {v z c k : Int} {g : gV} {G : gS} {I L R : Int × gV} {P : Int × (Int → gV)}
theorem pB_tw (l T t : Int) : tw (pB l T t) := by
  unfold pB tw
  omega
theorem pB_b (l T t : Int) : 82 ≤ pB l T t ∧ pB l T t ≤ 243 := by
  unfold pB
  omega
theorem CI.cg (a : CI I h) (hB : I.1 = 1 → BG I.2) (e1 : h' 1 3 = h 1 3) (e2 : ∀ c k, 57 ≤ c → c ≤ 79 → h' c k = h c k) : CI I h' := ⟨e1.trans a.1, fun q => RC_cg (a.2 q) (hB q) (fun c k j1 j2 => e2 c k j1 (by omega))⟩
theorem CP.cg (a : CP P h) (hB : ∀ t, 0 ≤ t → t < P.1 → BG (P.2 t)) (e1 : ∀ k, k = 1 ∨ k = 2 → h' 80 k = h 80 k) (e2 : ∀ c k, 82 ≤ c → c ≤ 265 → h' c k = h c k) : CP P h' := by
  obtain ⟨a1, a2, a3⟩ := a
  refine ⟨(e1 2 (Or.inr rfl)).trans a1, by rw [e1 1 (Or.inl rfl)]; exact a2, fun t j1 j2 => ?_⟩
  rw [e1 1 (Or.inl rfl)]
  have := pB_b (h 80 1) P.1 t
  exact RC_cg (a3 t j1 j2) (hB t j1 j2) (fun c k q1 q2 => e2 c k (by omega) (by omega))
theorem CL.cg (a : CL L h) (e1 : h' 266 1 = h 266 1) (e2 : ∀ k, h' 267 k = h 267 k) : CL L h' := ⟨e1.trans a.1, fun i j1 j2 => (e2 i).trans (a.2 i j1 j2)⟩
theorem CO.cg (a : CO R h) (e1 : h' 1 8 = h 1 8) (e2 : ∀ k, h' 2 k = h 2 k) : CO R h' := ⟨e1.trans a.1, fun i j1 j2 => (e2 i).trans (a.2 i j1 j2)⟩
theorem CW.cg (a : CW h) (e : ∀ b k, tw b → h' (b + 19) k = h (b + 19) k) : CW h' := fun b hb => ⟨fun w j1 j2 => by rw [e b w hb]; exact (a b hb).1 w j1 j2, fun w w' j1 j2 j3 => by rw [e b w hb, e b w' hb]; exact (a b hb).2 w w' j1 j2 j3⟩
/-- all towns but one -/
theorem CW.but (a : CW h) {b0 : Int} (hb : tw b0) (hf : frC b0 h h') (hW : RW h' b0) : CW h' := fun b q => by
  by_cases e : b = b0
  · rw [e]
    exact hW
  · refine RW_frC (a b q) hf ?_
    unfold tw at q hb
    omega
theorem MI.cg (a : MI I h) (e1 : h' 271 28 = h 271 28) (e2 : ∀ k, h' 291 k = h 291 k) : MI I h' := ⟨e1.trans a.1, fun q i j1 j2 => (e2 i).trans (a.2 q i j1 j2)⟩
theorem MP.cg (a : MP P h) (e1 : h' 271 34 = h 271 34) (e2 : ∀ k, h' 292 k = h 292 k) : MP P h' := ⟨e1.trans a.1, fun t i j1 j2 j3 j4 => (e2 _).trans (a.2 t i j1 j2 j3 j4)⟩
theorem ML.cg (a : ML L h) (e1 : h' 271 19 = h 271 19) (e2 : ∀ k, h' 286 k = h 286 k) : ML L h' := ⟨e1.trans a.1, fun i j1 j2 => (e2 i).trans (a.2 i j1 j2)⟩
theorem MO.cg (a : MO R h) (e1 : h' 271 38 = h 271 38) (e2 : ∀ k, h' 296 k = h 296 k) : MO R h' := ⟨e1.trans a.1, fun i j1 j2 => (e2 i).trans (a.2 i j1 j2)⟩
theorem GW.bi (W : GW G) : G.2.1.1 = 1 → BG G.2.1.2 := fun q => (W.2.1.2 q).1.bg
theorem GW.bp (W : GW G) : ∀ t, 0 ≤ t → t < G.2.2.1.1 → BG (G.2.2.1.2 t) := fun t j1 j2 => (W.2.2.1.2.2 t j1 j2).1.bg
theorem CJ.cg (a : CJ G h) (W : GW G) (e : ∀ c k, ((c = 1 ∧ (k = 3 ∨ k = 8)) ∨ c = 2 ∨ (11 ≤ c ∧ c ≤ 33) ∨ (57 ≤ c ∧ c ≤ 267)) → h' c k = h c k) (hW : RW h' 34) : CJ G h' := by
  obtain ⟨a1, a2, a3, a4, a5, a6⟩ := a
  refine ⟨RC_cg a1 W.1.1.bg (fun c k j1 j2 => e c k (by omega)), a2.cg W.bi (e _ _ (by omega)) (fun c k j1 j2 => e c k (by omega)), a3.cg W.bp (fun k q => e _ _ (by omega)) (fun c k j1 j2 => e c k (by omega)), a4.cg (e _ _ (by omega)) (fun k => e _ _ (by omega)), a5.cg (e _ _ (by omega)) (fun k => e _ _ (by omega)), fun b hb => ?_⟩
  by_cases q : b = 34
  · rw [q]
    exact hW
  · have hb' := hb
    unfold tw at hb'
    have a := a6 b hb
    exact ⟨fun w j1 j2 => by rw [e (b + 19) w (by omega)]; exact a.1 w j1 j2, fun w w' j1 j2 j3 => by rw [e (b + 19) w (by omega), e (b + 19) w' (by omega)]; exact a.2 w w' j1 j2 j3⟩
theorem CJ.w34 (a : CJ G h) : RW h 34 := a.2.2.2.2.2 34 (by unfold tw; omega)
/-- a refusal counted -/
theorem CJ.ref (a : CJ G h) (W : GW G) : CJ G (fu h 3 k z) := a.cg W (fun c k q => fu_c (by omega)) ⟨fun w j1 j2 => by rw [fu_c (by omega)]; exact a.w34.1 w j1 j2, fun w w' j1 j2 j3 => by rw [fu_c (by omega), fu_c (by omega)]; exact a.w34.2 w w' j1 j2 j3⟩
theorem MJ.cg (a : MJ G h) (e : ∀ c k, (c = 271 ∧ (k = 28 ∨ k = 34 ∨ k = 19 ∨ k = 38)) ∨ c = 286 ∨ c = 291 ∨ c = 292 ∨ c = 296 → h' c k = h c k) (hR : RM h' G.1) : MJ G h' := by
  obtain ⟨a1, a2, a3, a4, a5⟩ := a
  exact ⟨hR, a2.cg (e _ _ (by omega)) (fun k => e _ _ (by omega)), a3.cg (e _ _ (by omega)) (fun k => e _ _ (by omega)), a4.cg (e _ _ (by omega)) (fun k => e _ _ (by omega)), a5.cg (e _ _ (by omega)) (fun k => e _ _ (by omega))⟩
theorem MJ.up (a : MJ G h) (hc : c < 271 ∨ c = 285 ∨ (287 ≤ c ∧ c ≤ 290) ∨ (293 ≤ c ∧ c ≤ 295) ∨ 297 ≤ c ∨ (c = 271 ∧ k ≠ 0 ∧ k ≠ 9 ∧ k ≠ 15 ∧ k ≠ 28 ∧ k ≠ 34 ∧ k ≠ 19 ∧ k ≠ 38)) : MJ G (fu h c k z) := a.cg (fun c' k' q => by unfold fu; rw [if_neg (by omega)]) (RM_sk a.1 (by omega))
theorem MJ.xC (a : MJ G h) (x : xC h h') : MJ G h' := a.cg (fun c k q => x c k (by omega)) (RM_cg a.1 (fun c k j1 j2 _ => x c k j1))
theorem CJ.xM (a : CJ G h) (W : GW G) (x : xM h h') : CJ G h' := a.cg W (fun c k q => x c k (by omega)) ⟨fun w j1 j2 => by rw [x _ _ (by omega)]; exact a.w34.1 w j1 j2, fun w w' j1 j2 j3 => by rw [x _ _ (by omega), x _ _ (by omega)]; exact a.w34.2 w w' j1 j2 j3⟩
theorem xC.rf (h : fH) : xC h h := fun _ _ _ => rfl
theorem xC.tr (a : xC h h0) (b : xC h0 h1) : xC h h1 := fun c k q => (b c k q).trans (a c k q)
theorem xC.up (a : xC h h0) (hc : c < 271) : xC h (fu h0 c k z) := fun c' k' q => by rw [fu_c (by omega)]; exact a c' k' q
theorem xC.fr (hf : frC c h h') (hc : c + 22 < 271) : xC h h' := fun c' k' q => hf c' k' (by omega)
theorem xM.rf (h : fH) : xM h h := fun _ _ _ => rfl
theorem xM.tr (a : xM h h0) (b : xM h0 h1) : xM h h1 := fun c k q => (b c k q).trans (a c k q)
theorem xM.up (a : xM h h0) (hc : 271 ≤ c) : xM h (fu h0 c k z) := fun c' k' q => by rw [fu_c (by omega)]; exact a c' k' q
theorem xM.fr (hf : frM h h') : xM h h' := fun c' k' q => hf c' k' (Or.inl q)
theorem xM.frK (hf : frK c h h') (hc : 271 ≤ c) : xM h h' := fun c' k' q => hf c' k' (by omega) (Or.inl q)
/-- calls that ask -/
theorem cj_ask {j : Nat} {rq : List (Option Int)} {as : List Int} (H : ∀ h, XC (Sq h) (j, rq, 0, 0)) (hr : xR rq as) (hs : fS j as h v h') (a : CJ G h) (W : GW G) : CJ G h' ∧ xC h h' := by
  have f := H h as h v h' hr (fA.rf h) hs
  have f2 : ∀ c k, c ≠ 3 → (c < 268 ∨ 270 < c) → h' c k = h c k := fun c k j1 j2 => f c k (by
    unfold alO
    simp only [List.any_cons, List.any_nil, Bool.or_false, Bool.or_eq_false_iff, Bool.and_eq_false_iff, decide_eq_false_iff_not]
    omega)
  exact ⟨a.cg W (fun c k q => f2 c k (by omega) (by omega)) ⟨fun w j1 j2 => by rw [f2 _ _ (by omega) (by omega)]; exact a.w34.1 w j1 j2, fun w w' j1 j2 j3 => by rw [f2 _ _ (by omega) (by omega), f2 _ _ (by omega) (by omega)]; exact a.w34.2 w w' j1 j2 j3⟩, fun c k q => f2 c k (by omega) (by omega)⟩
theorem cj_mind (S : SC h h') (a : CJ G h) (W : GW G) : CJ G h' ∧ xC h h' := ⟨a.cg W (fun c k q => S.1 c k (by omega)) S.2, fun c k q => S.1 c k (by omega)⟩
theorem mj_ask {j : Nat} {rq : List (Option Int)} {as : List Int} {s : Nat} (H : ∀ g h0, XC (SQ g h0) (j, rq, 0, s)) (h1 : s ≤ 1) (hr : xR rq as) (hs : fS j as h v h') (a : MJ G h) : MJ G h' ∧ xM h h' := by
  obtain ⟨f1, f2, f3⟩ := H G.1 h as h v h' hr ⟨fA.rf h, fun _ => a.1, fun q => absurd (show (1 : Nat) ≤ 0 from q) (by omega)⟩ hs
  have f4 : ∀ c k, (c < 271 ∨ c = 286 ∨ c = 291 ∨ c = 292 ∨ c = 296 ∨ 297 < c ∨ (c = 271 ∧ (k = 28 ∨ k = 34 ∨ k = 19 ∨ k = 38))) → h' c k = h c k := fun c k q => f1 c k (by
    unfold alQ
    rw [decide_eq_true q]
    rfl)
  exact ⟨a.cg (fun c k q => f4 c k (by omega)) (f2 h1), fun c k q => f4 c k (Or.inl q)⟩
end IV
