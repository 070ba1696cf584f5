/-! what the tables say of the methods -/
set_option maxRecDepth 100000 in
theorem zz_mok_l : zz_mts.all zz_mok = true := by decide +kernel
theorem zz_mok_mem (mk : zz_Mi) (h : mk ∈ zz_mts) : zz_mok mk = true := List.all_eq_true.mp zz_mok_l mk h
theorem zz_mok_all (k : Nat) (mk : zz_Mi) (h : zz_mts[k]? = some mk) : zz_mok mk = true := zz_mok_mem mk (List.mem_of_getElem? h)
noncomputable def zz_lb : List UInt8 → List UInt8 → Bool
  | [], [] => true
  | a :: s, b :: t => Nat.beq a.toNat b.toNat && zz_lb s t
  | _, _ => false
theorem zz_lb_ok : ∀ (s t : List UInt8), zz_lb s t = true → s = t
  | [], [], _ => rfl
  | a :: s, b :: t, h => by
    have h := (Bool.and_eq_true _ _).mp h
    rw [UInt8.toNat_inj.mp (Nat.eq_of_beq_eq_true h.1), zz_lb_ok s t h.2]
  | [], _ :: _, h => by cases h
  | _ :: _, [], h => by cases h
noncomputable def zz_mcb (mi : zz_Mi) : Bool := match zz_look mi.2.2.2.2.2.2.2.1.1 with
  | some (.code y b ml ret) => decide (y = mi.1) && (zz_lb b.data.toList mi.2.1.data.toList && (decide (ml = mi.2.2.1) && decide (ret = mi.2.2.2.1)))
  | _ => false
theorem zz_mcb_ok {mi : zz_Mi} (h : zz_mcb mi = true) : zz_mcw mi := by
  unfold zz_mcb at h
  unfold zz_mcw
  split at h
  · next y b ml ret e =>
    have h1 := (Bool.and_eq_true _ _).mp h
    have h2 := (Bool.and_eq_true _ _).mp h1.2
    have h3 := (Bool.and_eq_true _ _).mp h2.2
    have eb : b = mi.2.1 := congrArg (fun l => ByteArray.mk (Array.mk l)) (zz_lb_ok _ _ h2.1)
    have e := zz_look_ok e
    rw [e, of_decide_eq_true h1.1, eb, of_decide_eq_true h3.1, of_decide_eq_true h3.2]
  · cases h
set_option maxRecDepth 100000 in
theorem zz_mcb_l : zz_mts.all zz_mcb = true := by decide +kernel
theorem zz_mcw_mem : ∀ mk ∈ zz_mts, zz_mcw mk := fun mk h => zz_mcb_ok (List.all_eq_true.mp zz_mcb_l mk h)
theorem zz_mcw_all (k : Nat) (mk : zz_Mi) (h : zz_mts[k]? = some mk) : zz_mcw mk := zz_mcw_mem mk (List.mem_of_getElem? h)
