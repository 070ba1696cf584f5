/-! the contracts hold, part 2 -/
set_option maxRecDepth 1000000 in
theorem h_35 : t_chk [] c_35 n_35 4062 = true := by decide +kernel
theorem k_35 : t_Con c_35 := t_chk_ok h_35 ((fun _ h => absurd h List.not_mem_nil))
set_option maxRecDepth 1000000 in
theorem h_36 : t_chk [] c_36 n_36 70 = true := by decide +kernel
theorem k_36 : t_Con c_36 := t_chk_ok h_36 ((fun _ h => absurd h List.not_mem_nil))
set_option maxRecDepth 1000000 in
theorem h_37 : t_chk [c_36] c_37 n_37 189 = true := by decide +kernel
theorem k_37 : t_Con c_37 := t_chk_ok h_37 (List.forall_mem_cons.mpr ⟨k_36, (fun _ h => absurd h List.not_mem_nil)⟩)
set_option maxRecDepth 1000000 in
theorem h_38 : t_chk [] c_38 n_38 115 = true := by decide +kernel
theorem k_38 : t_Con c_38 := t_chk_ok h_38 ((fun _ h => absurd h List.not_mem_nil))
set_option maxRecDepth 1000000 in
theorem h_39 : t_chk [] c_39 n_39 67 = true := by decide +kernel
theorem k_39 : t_Con c_39 := t_chk_ok h_39 ((fun _ h => absurd h List.not_mem_nil))
set_option maxRecDepth 1000000 in
theorem h_40 : t_chk [] c_40 n_40 67 = true := by decide +kernel
theorem k_40 : t_Con c_40 := t_chk_ok h_40 ((fun _ h => absurd h List.not_mem_nil))
set_option maxRecDepth 1000000 in
theorem h_41 : t_chk [c_37, c_38, c_39, c_40] c_41 n_41 299 = true := by decide +kernel
theorem k_41 : t_Con c_41 := t_chk_ok h_41 (List.forall_mem_cons.mpr ⟨k_37, List.forall_mem_cons.mpr ⟨k_38, List.forall_mem_cons.mpr ⟨k_39, List.forall_mem_cons.mpr ⟨k_40, (fun _ h => absurd h List.not_mem_nil)⟩⟩⟩⟩)
set_option maxRecDepth 1000000 in
theorem h_42 : t_chk [c_41] c_42 n_42 61 = true := by decide +kernel
theorem k_42 : t_Con c_42 := t_chk_ok h_42 (List.forall_mem_cons.mpr ⟨k_41, (fun _ h => absurd h List.not_mem_nil)⟩)
set_option maxRecDepth 1000000 in
theorem h_43 : t_chk [] c_43 n_43 130 = true := by decide +kernel
theorem k_43 : t_Con c_43 := t_chk_ok h_43 ((fun _ h => absurd h List.not_mem_nil))
set_option maxRecDepth 1000000 in
theorem h_44 : t_chk [] c_44 n_44 101 = true := by decide +kernel
theorem k_44 : t_Con c_44 := t_chk_ok h_44 ((fun _ h => absurd h List.not_mem_nil))
set_option maxRecDepth 1000000 in
theorem h_45 : t_chk [] c_45 n_45 74 = true := by decide +kernel
theorem k_45 : t_Con c_45 := t_chk_ok h_45 ((fun _ h => absurd h List.not_mem_nil))
set_option maxRecDepth 1000000 in
theorem h_46 : t_chk [] c_46 n_46 77 = true := by decide +kernel
theorem k_46 : t_Con c_46 := t_chk_ok h_46 ((fun _ h => absurd h List.not_mem_nil))
set_option maxRecDepth 1000000 in
theorem h_47 : t_chk [c_45, c_46] c_47 n_47 73 = true := by decide +kernel
theorem k_47 : t_Con c_47 := t_chk_ok h_47 (List.forall_mem_cons.mpr ⟨k_45, List.forall_mem_cons.mpr ⟨k_46, (fun _ h => absurd h List.not_mem_nil)⟩⟩)
set_option maxRecDepth 1000000 in
theorem h_48 : t_chk [c_44, c_45, c_47] c_48 n_48 83 = true := by decide +kernel
theorem k_48 : t_Con c_48 := t_chk_ok h_48 (List.forall_mem_cons.mpr ⟨k_44, List.forall_mem_cons.mpr ⟨k_45, List.forall_mem_cons.mpr ⟨k_47, (fun _ h => absurd h List.not_mem_nil)⟩⟩⟩)
set_option maxRecDepth 1000000 in
theorem h_49 : t_chk [c_48] c_49 n_49 274 = true := by decide +kernel
theorem k_49 : t_Con c_49 := t_chk_ok h_49 (List.forall_mem_cons.mpr ⟨k_48, (fun _ h => absurd h List.not_mem_nil)⟩)
set_option maxRecDepth 1000000 in
theorem h_50 : t_chk [c_42, c_43, c_49] c_50 n_50 434 = true := by decide +kernel
theorem k_50 : t_Con c_50 := t_chk_ok h_50 (List.forall_mem_cons.mpr ⟨k_42, List.forall_mem_cons.mpr ⟨k_43, List.forall_mem_cons.mpr ⟨k_49, (fun _ h => absurd h List.not_mem_nil)⟩⟩⟩)
set_option maxRecDepth 1000000 in
theorem h_51 : t_chk [] c_51 n_51 3384 = true := by decide +kernel
theorem k_51 : t_Con c_51 := t_chk_ok h_51 ((fun _ h => absurd h List.not_mem_nil))
set_option maxRecDepth 1000000 in
theorem h_52 : t_chk [c_34, c_35, c_50, c_51] c_52 n_52 1179 = true := by decide +kernel
theorem k_52 : t_Con c_52 := t_chk_ok h_52 (List.forall_mem_cons.mpr ⟨k_34, List.forall_mem_cons.mpr ⟨k_35, List.forall_mem_cons.mpr ⟨k_50, List.forall_mem_cons.mpr ⟨k_51, (fun _ h => absurd h List.not_mem_nil)⟩⟩⟩⟩)
set_option maxRecDepth 1000000 in
theorem h_53 : t_chk [] c_53 n_53 165 = true := by decide +kernel
theorem k_53 : t_Con c_53 := t_chk_ok h_53 ((fun _ h => absurd h List.not_mem_nil))
set_option maxRecDepth 1000000 in
theorem h_54 : t_chk [c_36, c_40, c_46] c_54 n_54 359 = true := by decide +kernel
theorem k_54 : t_Con c_54 := t_chk_ok h_54 (List.forall_mem_cons.mpr ⟨k_36, List.forall_mem_cons.mpr ⟨k_40, List.forall_mem_cons.mpr ⟨k_46, (fun _ h => absurd h List.not_mem_nil)⟩⟩⟩)
set_option maxRecDepth 1000000 in
theorem h_55 : t_chk [] c_55 n_55 161 = true := by decide +kernel
theorem k_55 : t_Con c_55 := t_chk_ok h_55 ((fun _ h => absurd h List.not_mem_nil))
set_option maxRecDepth 1000000 in
theorem h_56 : t_chk [] c_56 n_56 180 = true := by decide +kernel
theorem k_56 : t_Con c_56 := t_chk_ok h_56 ((fun _ h => absurd h List.not_mem_nil))
set_option maxRecDepth 1000000 in
theorem h_57 : t_chk [] c_57 n_57 67 = true := by decide +kernel
theorem k_57 : t_Con c_57 := t_chk_ok h_57 ((fun _ h => absurd h List.not_mem_nil))
set_option maxRecDepth 1000000 in
theorem h_58 : t_chk [c_57] c_58 n_58 145 = true := by decide +kernel
theorem k_58 : t_Con c_58 := t_chk_ok h_58 (List.forall_mem_cons.mpr ⟨k_57, (fun _ h => absurd h List.not_mem_nil)⟩)
set_option maxRecDepth 1000000 in
theorem h_59 : t_chk [c_39] c_59 n_59 257 = true := by decide +kernel
theorem k_59 : t_Con c_59 := t_chk_ok h_59 (List.forall_mem_cons.mpr ⟨k_39, (fun _ h => absurd h List.not_mem_nil)⟩)
