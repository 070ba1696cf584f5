/-! the contracts hold, part 2 -/
set_option maxRecDepth 1000000 in
theorem hg_h_29 : (t_chk [] c_29 n_29 4062 && (t_chk [] c_30 n_30 70 && (t_chk [c_30] c_31 n_31 189 && (t_chk [] c_32 n_32 115)))) = true := by decide +kernel
theorem h_29 : t_chk [] c_29 n_29 4062 = true := ((Bool.and_eq_true _ _).mp hg_h_29).1
theorem hg_h_29_0 : (t_chk [] c_30 n_30 70 && (t_chk [c_30] c_31 n_31 189 && (t_chk [] c_32 n_32 115))) = true := ((Bool.and_eq_true _ _).mp hg_h_29).2
theorem k_29 : t_Con c_29 := t_chk_ok h_29 ((fun _ h => absurd h List.not_mem_nil))
theorem h_30 : t_chk [] c_30 n_30 70 = true := ((Bool.and_eq_true _ _).mp hg_h_29_0).1
theorem hg_h_29_1 : (t_chk [c_30] c_31 n_31 189 && (t_chk [] c_32 n_32 115)) = true := ((Bool.and_eq_true _ _).mp hg_h_29_0).2
theorem k_30 : t_Con c_30 := t_chk_ok h_30 ((fun _ h => absurd h List.not_mem_nil))
theorem h_31 : t_chk [c_30] c_31 n_31 189 = true := ((Bool.and_eq_true _ _).mp hg_h_29_1).1
theorem k_31 : t_Con c_31 := t_chk_ok h_31 (List.forall_mem_cons.mpr ⟨k_30, (fun _ h => absurd h List.not_mem_nil)⟩)
theorem h_32 : t_chk [] c_32 n_32 115 = true := ((Bool.and_eq_true _ _).mp hg_h_29_1).2
theorem k_32 : t_Con c_32 := t_chk_ok h_32 ((fun _ h => absurd h List.not_mem_nil))
set_option maxRecDepth 1000000 in
theorem hg_h_33 : (t_chk [] c_33 n_33 67 && (t_chk [] c_34 n_34 67 && (t_chk [c_31, c_32, c_33, c_34] c_35 n_35 299 && (t_chk [c_35] c_36 n_36 61)))) = true := by decide +kernel
theorem h_33 : t_chk [] c_33 n_33 67 = true := ((Bool.and_eq_true _ _).mp hg_h_33).1
theorem hg_h_33_0 : (t_chk [] c_34 n_34 67 && (t_chk [c_31, c_32, c_33, c_34] c_35 n_35 299 && (t_chk [c_35] c_36 n_36 61))) = true := ((Bool.and_eq_true _ _).mp hg_h_33).2
theorem k_33 : t_Con c_33 := t_chk_ok h_33 ((fun _ h => absurd h List.not_mem_nil))
theorem h_34 : t_chk [] c_34 n_34 67 = true := ((Bool.and_eq_true _ _).mp hg_h_33_0).1
theorem hg_h_33_1 : (t_chk [c_31, c_32, c_33, c_34] c_35 n_35 299 && (t_chk [c_35] c_36 n_36 61)) = true := ((Bool.and_eq_true _ _).mp hg_h_33_0).2
theorem k_34 : t_Con c_34 := t_chk_ok h_34 ((fun _ h => absurd h List.not_mem_nil))
theorem h_35 : t_chk [c_31, c_32, c_33, c_34] c_35 n_35 299 = true := ((Bool.and_eq_true _ _).mp hg_h_33_1).1
theorem k_35 : t_Con c_35 := t_chk_ok h_35 (List.forall_mem_cons.mpr ⟨k_31, List.forall_mem_cons.mpr ⟨k_32, List.forall_mem_cons.mpr ⟨k_33, List.forall_mem_cons.mpr ⟨k_34, (fun _ h => absurd h List.not_mem_nil)⟩⟩⟩⟩)
theorem h_36 : t_chk [c_35] c_36 n_36 61 = true := ((Bool.and_eq_true _ _).mp hg_h_33_1).2
theorem k_36 : t_Con c_36 := t_chk_ok h_36 (List.forall_mem_cons.mpr ⟨k_35, (fun _ h => absurd h List.not_mem_nil)⟩)
set_option maxRecDepth 1000000 in
theorem hg_h_37 : (t_chk [] c_37 n_37 130 && (t_chk [] c_38 n_38 101 && (t_chk [] c_39 n_39 74 && (t_chk [] c_40 n_40 77)))) = true := by decide +kernel
theorem h_37 : t_chk [] c_37 n_37 130 = true := ((Bool.and_eq_true _ _).mp hg_h_37).1
theorem hg_h_37_0 : (t_chk [] c_38 n_38 101 && (t_chk [] c_39 n_39 74 && (t_chk [] c_40 n_40 77))) = true := ((Bool.and_eq_true _ _).mp hg_h_37).2
theorem k_37 : t_Con c_37 := t_chk_ok h_37 ((fun _ h => absurd h List.not_mem_nil))
theorem h_38 : t_chk [] c_38 n_38 101 = true := ((Bool.and_eq_true _ _).mp hg_h_37_0).1
theorem hg_h_37_1 : (t_chk [] c_39 n_39 74 && (t_chk [] c_40 n_40 77)) = true := ((Bool.and_eq_true _ _).mp hg_h_37_0).2
theorem k_38 : t_Con c_38 := t_chk_ok h_38 ((fun _ h => absurd h List.not_mem_nil))
theorem h_39 : t_chk [] c_39 n_39 74 = true := ((Bool.and_eq_true _ _).mp hg_h_37_1).1
theorem k_39 : t_Con c_39 := t_chk_ok h_39 ((fun _ h => absurd h List.not_mem_nil))
theorem h_40 : t_chk [] c_40 n_40 77 = true := ((Bool.and_eq_true _ _).mp hg_h_37_1).2
theorem k_40 : t_Con c_40 := t_chk_ok h_40 ((fun _ h => absurd h List.not_mem_nil))
set_option maxRecDepth 1000000 in
theorem hg_h_41 : (t_chk [c_39, c_40] c_41 n_41 73 && (t_chk [c_38, c_39, c_41] c_42 n_42 83 && (t_chk [c_42] c_43 n_43 274 && (t_chk [c_36, c_37, c_43] c_44 n_44 434)))) = true := by decide +kernel
theorem h_41 : t_chk [c_39, c_40] c_41 n_41 73 = true := ((Bool.and_eq_true _ _).mp hg_h_41).1
theorem hg_h_41_0 : (t_chk [c_38, c_39, c_41] c_42 n_42 83 && (t_chk [c_42] c_43 n_43 274 && (t_chk [c_36, c_37, c_43] c_44 n_44 434))) = true := ((Bool.and_eq_true _ _).mp hg_h_41).2
theorem k_41 : t_Con c_41 := t_chk_ok h_41 (List.forall_mem_cons.mpr ⟨k_39, List.forall_mem_cons.mpr ⟨k_40, (fun _ h => absurd h List.not_mem_nil)⟩⟩)
theorem h_42 : t_chk [c_38, c_39, c_41] c_42 n_42 83 = true := ((Bool.and_eq_true _ _).mp hg_h_41_0).1
theorem hg_h_41_1 : (t_chk [c_42] c_43 n_43 274 && (t_chk [c_36, c_37, c_43] c_44 n_44 434)) = true := ((Bool.and_eq_true _ _).mp hg_h_41_0).2
theorem k_42 : t_Con c_42 := t_chk_ok h_42 (List.forall_mem_cons.mpr ⟨k_38, List.forall_mem_cons.mpr ⟨k_39, List.forall_mem_cons.mpr ⟨k_41, (fun _ h => absurd h List.not_mem_nil)⟩⟩⟩)
theorem h_43 : t_chk [c_42] c_43 n_43 274 = true := ((Bool.and_eq_true _ _).mp hg_h_41_1).1
theorem k_43 : t_Con c_43 := t_chk_ok h_43 (List.forall_mem_cons.mpr ⟨k_42, (fun _ h => absurd h List.not_mem_nil)⟩)
theorem h_44 : t_chk [c_36, c_37, c_43] c_44 n_44 434 = true := ((Bool.and_eq_true _ _).mp hg_h_41_1).2
theorem k_44 : t_Con c_44 := t_chk_ok h_44 (List.forall_mem_cons.mpr ⟨k_36, List.forall_mem_cons.mpr ⟨k_37, List.forall_mem_cons.mpr ⟨k_43, (fun _ h => absurd h List.not_mem_nil)⟩⟩⟩)
set_option maxRecDepth 1000000 in
theorem hg_h_45 : (t_chk [] c_45 n_45 3384 && (t_chk [c_28, c_29, c_44, c_45] c_46 n_46 1179 && (t_chk [] c_47 n_47 165 && (t_chk [c_30, c_34, c_40] c_48 n_48 359)))) = true := by decide +kernel
theorem h_45 : t_chk [] c_45 n_45 3384 = true := ((Bool.and_eq_true _ _).mp hg_h_45).1
theorem hg_h_45_0 : (t_chk [c_28, c_29, c_44, c_45] c_46 n_46 1179 && (t_chk [] c_47 n_47 165 && (t_chk [c_30, c_34, c_40] c_48 n_48 359))) = true := ((Bool.and_eq_true _ _).mp hg_h_45).2
theorem k_45 : t_Con c_45 := t_chk_ok h_45 ((fun _ h => absurd h List.not_mem_nil))
theorem h_46 : t_chk [c_28, c_29, c_44, c_45] c_46 n_46 1179 = true := ((Bool.and_eq_true _ _).mp hg_h_45_0).1
theorem hg_h_45_1 : (t_chk [] c_47 n_47 165 && (t_chk [c_30, c_34, c_40] c_48 n_48 359)) = true := ((Bool.and_eq_true _ _).mp hg_h_45_0).2
theorem k_46 : t_Con c_46 := t_chk_ok h_46 (List.forall_mem_cons.mpr ⟨k_28, List.forall_mem_cons.mpr ⟨k_29, List.forall_mem_cons.mpr ⟨k_44, List.forall_mem_cons.mpr ⟨k_45, (fun _ h => absurd h List.not_mem_nil)⟩⟩⟩⟩)
theorem h_47 : t_chk [] c_47 n_47 165 = true := ((Bool.and_eq_true _ _).mp hg_h_45_1).1
theorem k_47 : t_Con c_47 := t_chk_ok h_47 ((fun _ h => absurd h List.not_mem_nil))
theorem h_48 : t_chk [c_30, c_34, c_40] c_48 n_48 359 = true := ((Bool.and_eq_true _ _).mp hg_h_45_1).2
theorem k_48 : t_Con c_48 := t_chk_ok h_48 (List.forall_mem_cons.mpr ⟨k_30, List.forall_mem_cons.mpr ⟨k_34, List.forall_mem_cons.mpr ⟨k_40, (fun _ h => absurd h List.not_mem_nil)⟩⟩⟩)
set_option maxRecDepth 1000000 in
theorem hg_h_49 : (t_chk [] c_49 n_49 161 && (t_chk [] c_50 n_50 180 && (t_chk [] c_51 n_51 67 && (t_chk [c_51] c_52 n_52 145)))) = true := by decide +kernel
theorem h_49 : t_chk [] c_49 n_49 161 = true := ((Bool.and_eq_true _ _).mp hg_h_49).1
theorem hg_h_49_0 : (t_chk [] c_50 n_50 180 && (t_chk [] c_51 n_51 67 && (t_chk [c_51] c_52 n_52 145))) = true := ((Bool.and_eq_true _ _).mp hg_h_49).2
theorem k_49 : t_Con c_49 := t_chk_ok h_49 ((fun _ h => absurd h List.not_mem_nil))
theorem h_50 : t_chk [] c_50 n_50 180 = true := ((Bool.and_eq_true _ _).mp hg_h_49_0).1
theorem hg_h_49_1 : (t_chk [] c_51 n_51 67 && (t_chk [c_51] c_52 n_52 145)) = true := ((Bool.and_eq_true _ _).mp hg_h_49_0).2
theorem k_50 : t_Con c_50 := t_chk_ok h_50 ((fun _ h => absurd h List.not_mem_nil))
theorem h_51 : t_chk [] c_51 n_51 67 = true := ((Bool.and_eq_true _ _).mp hg_h_49_1).1
theorem k_51 : t_Con c_51 := t_chk_ok h_51 ((fun _ h => absurd h List.not_mem_nil))
theorem h_52 : t_chk [c_51] c_52 n_52 145 = true := ((Bool.and_eq_true _ _).mp hg_h_49_1).2
theorem k_52 : t_Con c_52 := t_chk_ok h_52 (List.forall_mem_cons.mpr ⟨k_51, (fun _ h => absurd h List.not_mem_nil)⟩)
set_option maxRecDepth 1000000 in
theorem h_53 : t_chk [c_33] c_53 n_53 257 = true := (by decide +kernel)
theorem k_53 : t_Con c_53 := t_chk_ok h_53 (List.forall_mem_cons.mpr ⟨k_33, (fun _ h => absurd h List.not_mem_nil)⟩)
