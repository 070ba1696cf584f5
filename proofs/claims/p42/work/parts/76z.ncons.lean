/-! the meaning of trees again, the newest name first (for the elaborator) -/
noncomputable def xrv (R : List Int) : List Int := List.rec (motive := fun _ => List Int → List Int) (fun acc => acc) (fun a _ ih acc => ih (a :: acc)) R []
noncomputable def xnf (I : Nat → List Int → fH → Prop) (Q : Int → fH → Prop) (nd : xN) (ih : Nat → List Int → fH → Prop) (R : List Int) (h : fH) : Prop := match nd with
  | (0, [c], k, _) => ∀ z' : Int, z' = h (xe (xrv R) c) (k : Int) → ih 0 (z' :: R) h
  | (1, [c, i], _, _) => ∀ z' : Int, z' = h (xe (xrv R) c) (xe (xrv R) i) → ih 0 (z' :: R) h
  | (2, [c, v], k, _) => ∀ h' : fH, h' = fu h (xe (xrv R) c) (k : Int) (xe (xrv R) v) → ih 0 R h'
  | (3, [c, i, v], _, _) => ∀ h' : fH, h' = fu h (xe (xrv R) c) (xe (xrv R) i) (xe (xrv R) v) → ih 0 R h'
  | (4, [a], _, z) => ∀ z' : Int, z' = xe (xrv R) a + z → ih 0 (z' :: R) h
  | (5, [a, p], _, z) => ∀ z' : Int, z' = xe (xrv R) a + 1 + z * xe (xrv R) p → ih 0 (z' :: R) h
  | (6, [a], _, _) => ∀ z' : Int, z' = f_len (xe (xrv R) a) → ih 0 (z' :: R) h
  | (7, [i, j, n], _, _) => ∀ h' : fH, h' = fcp h (xe (xrv R) i) (xe (xrv R) j) (xe (xrv R) n) → ih 0 R h'
  | (8, [a, b], o, _) => ∀ z' : Int, z' = xop2 o (xe (xrv R) a) (xe (xrv R) b) → ih 0 (z' :: R) h
  | (9, [a], o, _) => ∀ z' : Int, z' = xop1 o (xe (xrv R) a) → ih 0 (z' :: R) h
  | (10, [a, b], o, m) => (xcmp o (xe (xrv R) a) (xe (xrv R) b) → ih 0 R h) ∧ (xcmp (xng o) (xe (xrv R) a) (xe (xrv R) b) → ih (Int.toNat m) R h)
  | (11, [a], _, _) => Q (xe (xrv R) a) h
  | (12, as, k, _) => I k (xes (xrv R) as) h
  | (13, as, j, _) => ∀ (v : Int) (h' : fH), fS j (xes (xrv R) as) h v h' → ih 0 (v :: R) h'
  | _ => True
noncomputable def xf (I : Nat → List Int → fH → Prop) (Q : Int → fH → Prop) (T : xT) : Nat → List Int → fH → Prop := List.rec (motive := fun _ => Nat → List Int → fH → Prop) (fun _ _ _ => True) (fun nd _ ih s R h => Nat.rec (motive := fun _ => Prop) (xnf I Q nd ih R h) (fun m _ => ih m R h) s) T
theorem xrv_acc : ∀ (R acc : List Int), (List.rec (motive := fun _ => List Int → List Int) (fun acc => acc) (fun a _ ih acc => ih (a :: acc)) R acc : List Int) = R.reverse ++ acc
  | [], acc => rfl
  | a :: R, acc => by
    show (List.rec (motive := fun _ => List Int → List Int) (fun acc => acc) (fun a _ ih acc => ih (a :: acc)) R (a :: acc) : List Int) = _
    rw [xrv_acc R (a :: acc), List.reverse_cons, List.append_assoc]
    rfl
theorem xrv_eq (R : List Int) : xrv R = R.reverse := by
  unfold xrv
  rw [xrv_acc, List.append_nil]
theorem xf_xd {I : Nat → List Int → fH → Prop} {Q : Int → fH → Prop} : ∀ (T : xT) (s : Nat) (R : List Int) (h : fH), xf I Q T s R h → xd I Q T s R.reverse h
  | [], _, _, _, _ => trivial
  | nd :: T, s + 1, R, h, hf => xf_xd T s R h hf
  | nd :: T, 0, R, h, hf => by
    have ih := xf_xd (I := I) (Q := Q) T
    have ihc : ∀ z h', xf I Q T 0 (z :: R) h' → xd I Q T 0 (R.reverse ++ [z]) h' := fun z h' hz => by
      rw [← List.reverse_cons]
      exact ih 0 _ h' hz
    have hf : xnf I Q nd (xf I Q T) R h := hf
    show xnd I Q nd (xd I Q T) R.reverse h
    unfold xnf at hf
    rw [xrv_eq] at hf
    unfold xnd
    split at hf
    · exact fun z hz => ihc z h (hf z hz)
    · exact fun z hz => ihc z h (hf z hz)
    · exact fun h' hz => ih 0 R h' (hf h' hz)
    · exact fun h' hz => ih 0 R h' (hf h' hz)
    · exact fun z hz => ihc z h (hf z hz)
    · exact fun z hz => ihc z h (hf z hz)
    · exact fun z hz => ihc z h (hf z hz)
    · exact fun h' hz => ih 0 R h' (hf h' hz)
    · exact fun z hz => ihc z h (hf z hz)
    · exact fun z hz => ihc z h (hf z hz)
    · exact ⟨fun q => ih 0 R h (hf.1 q), fun q => ih _ R h (hf.2 q)⟩
    · exact hf
    · exact hf
    · exact fun v h' hz => ihc v h' (hf v h' hz)
    · rename_i n1 n2 n3 n4 n5 n6 n7 n8 n9 n10 n11 n12 n13 n14
      split
      · exact absurd rfl (n1 _ _ _)
      · exact absurd rfl (n2 _ _ _ _)
      · exact absurd rfl (n3 _ _ _ _)
      · exact absurd rfl (n4 _ _ _ _ _)
      · exact absurd rfl (n5 _ _ _)
      · exact absurd rfl (n6 _ _ _ _)
      · exact absurd rfl (n7 _ _ _)
      · exact absurd rfl (n8 _ _ _ _ _)
      · exact absurd rfl (n9 _ _ _ _)
      · exact absurd rfl (n10 _ _ _)
      · exact absurd rfl (n11 _ _ _ _)
      · exact absurd rfl (n12 _ _ _)
      · exact absurd rfl (n13 _ _ _)
      · exact absurd rfl (n14 _ _ _)
      · trivial
theorem x_mef {j : Nat} {hd : xHd} {T : xT} {Ts : List xT} {n : Nat} (hc : x_chk j hd T Ts n = true) {as : List Int} {h h' : fH} {z : Int} (hs : fS j as h z h') (I : Nat → List Int → fH → Prop) (Q : Int → fH → Prop) (h0 : xf I Q T 0 (xrv as) h) (hI : ∀ i Ti, Ts[i]? = some Ti → ∀ vals h, I i vals h → xf I Q Ti 0 (xrv vals) h) : Q z h' := by
  refine x_met hc hs I Q ?_ ?_
  · have := xf_xd _ _ _ _ h0
    rw [xrv_eq, List.reverse_reverse] at this
    exact this
  · intro i Ti hT vals h hi
    have := xf_xd _ _ _ _ (hI i Ti hT vals h hi)
    rw [xrv_eq, List.reverse_reverse] at this
    exact this
