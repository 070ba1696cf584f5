/-! what the tables say of the system's classes, by the words' places -/
noncomputable section
noncomputable def zz_cokq (q : vw_C) (ix : List Nat) : Bool := (List.range q.2.2).all (fun k => (parseFieldDescriptor (q.2.1 k).2.2.1).isSome && ((List.range k).all (fun j => !decide ((q.2.1 k).2.1 = (q.2.1 j).2.1)) && (match zz_pth ix k with
  | some i => zz_wd i (u_lay q.1 q.2.1 k)
  | none => false)))
theorem zz_cokq_ok {q : vw_C} {ix : List Nat} (h : zz_cokq q ix = true) : zz_cok q = true := by
  have hne : ∀ k j, k < q.2.2 → j < k → (q.2.1 k).2.1 ≠ (q.2.1 j).2.1 := fun k j hk hj => by
    have h1 := List.all_eq_true.mp h k (List.mem_range.mpr hk)
    have h2 := (Bool.and_eq_true _ _).mp ((Bool.and_eq_true _ _).mp h1).2
    have h3 := List.all_eq_true.mp h2.1 j (List.mem_range.mpr hj)
    simp only [Bool.not_eq_true', decide_eq_false_iff_not] at h3
    exact h3
  refine List.all_eq_true.mpr (fun k hk => ?_)
  have h1 := List.all_eq_true.mp h k hk
  have h2 := (Bool.and_eq_true _ _).mp h1
  have h3 := (Bool.and_eq_true _ _).mp h2.2
  have hk := List.mem_range.mp hk
  have hw : u_lay q.1 q.2.1 k ∈ lw_tbl ∧ zz_good (u_lay q.1 q.2.1 k) = true := by
    have h4 := h3.2
    split at h4
    · rename_i i hi
      unfold zz_wd at h4
      split at h4
      · rename_i v hv
        simp only [Bool.and_eq_true, decide_eq_true_eq] at h4
        exact ⟨h4.1 ▸ List.mem_of_getElem? (zz_look_ok hv), h4.2⟩
      · cases h4
    · cases h4
  simp only [Bool.and_eq_true, decide_eq_true_eq]
  refine ⟨h2.1, List.all_eq_true.mpr (fun j hj => ?_), hw.1, hw.2⟩
  simp only [Bool.or_eq_true, decide_eq_true_eq, Bool.not_eq_true', decide_eq_false_iff_not]
  rcases Nat.lt_trichotomy j k with hjk | hjk | hjk
  · exact .inr (hne k j hk hjk)
  · exact .inl hjk.symm
  · exact .inr (fun e => hne j k (List.mem_range.mp hj) hjk e.symm)
noncomputable def zz_cqs : List (vw_C × List Nat) := [(("LostBets", zF_0, 10), [308, 310, 312, 314, 316, 318, 320, 322, 324, 326]), (("LostBets$Suitor", zF_1, 0), []), (("LostBets$Aunt", zF_2, 0), []), (("LostBets$Girl", zF_3, 0), []), (("LostBets$Gambler", zF_4, 0), []), (("LostBets$Rich", zF_5, 0), []), (("LostBets$Honest", zF_6, 0), []), (("LostBets$Town", zF_7, 16), [215, 217, 219, 221, 223, 225, 227, 229, 231, 233, 235, 237, 239, 241, 243, 245]), (("LostBets$Wager", zF_8, 5), [171, 173, 175, 177, 179]), (("LostBets$Past", zF_9, 3), [261, 263, 265]), (("LostBets$Letters", zF_10, 2), [277, 279]), (("LostBets$Twos", zF_11, 3), [291, 293, 295]), (("LostBetsModel", zF_12, 41), [961, 963, 965, 967, 969, 971, 973, 975, 977, 979, 981, 983, 985, 987, 989, 991, 993, 995, 997, 999, 1001, 1003, 1005, 1007, 1009, 1011, 1013, 1015, 1017, 1019, 1021, 1023, 1025, 1027, 1029, 1031, 1033, 1035, 1037, 1039, 1041])]
set_option maxRecDepth 100000 in
theorem zz_cqs_l : zz_cqs.all (fun x => zz_cokq x.1 x.2) = true := by decide +kernel
theorem zz_cqs_e : zz_cqs.map (fun x => x.1) = classes := rfl
theorem zz_cok_l : classes.all zz_cok = true := by
  rw [← zz_cqs_e]
  refine List.all_eq_true.mpr (fun q hq => ?_)
  obtain ⟨x, hx, e⟩ := List.mem_map.mp hq
  rw [← e]
  exact zz_cokq_ok (List.all_eq_true.mp zz_cqs_l x hx)
end
