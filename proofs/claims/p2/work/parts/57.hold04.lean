/-! the contracts hold, part 4 -/
set_option maxRecDepth 1000000 in
theorem h_78 : t_chk [c_77] c_78 n_78 268 = true := by decide +kernel
theorem k_78 : t_Con c_78 := t_chk_ok h_78 (List.forall_mem_cons.mpr ⟨k_77, (fun _ h => absurd h List.not_mem_nil)⟩)
set_option maxRecDepth 1000000 in
theorem h_79 : t_chk [c_72] c_79 n_79 2105 = true := by decide +kernel
theorem k_79 : t_Con c_79 := t_chk_ok h_79 (List.forall_mem_cons.mpr ⟨k_72, (fun _ h => absurd h List.not_mem_nil)⟩)
set_option maxRecDepth 1000000 in
theorem h_80 : t_chk [c_79] c_80 n_80 268 = true := by decide +kernel
theorem k_80 : t_Con c_80 := t_chk_ok h_80 (List.forall_mem_cons.mpr ⟨k_79, (fun _ h => absurd h List.not_mem_nil)⟩)
set_option maxRecDepth 1000000 in
theorem h_81 : t_chk [c_72] c_81 n_81 2105 = true := by decide +kernel
theorem k_81 : t_Con c_81 := t_chk_ok h_81 (List.forall_mem_cons.mpr ⟨k_72, (fun _ h => absurd h List.not_mem_nil)⟩)
set_option maxRecDepth 1000000 in
theorem h_82 : t_chk [c_81] c_82 n_82 268 = true := by decide +kernel
theorem k_82 : t_Con c_82 := t_chk_ok h_82 (List.forall_mem_cons.mpr ⟨k_81, (fun _ h => absurd h List.not_mem_nil)⟩)
set_option maxRecDepth 1000000 in
theorem h_83 : t_chk [c_72] c_83 n_83 2105 = true := by decide +kernel
theorem k_83 : t_Con c_83 := t_chk_ok h_83 (List.forall_mem_cons.mpr ⟨k_72, (fun _ h => absurd h List.not_mem_nil)⟩)
set_option maxRecDepth 1000000 in
theorem h_84 : t_chk [c_83] c_84 n_84 268 = true := by decide +kernel
theorem k_84 : t_Con c_84 := t_chk_ok h_84 (List.forall_mem_cons.mpr ⟨k_83, (fun _ h => absurd h List.not_mem_nil)⟩)
set_option maxRecDepth 1000000 in
theorem h_85 : t_chk [c_72] c_85 n_85 2105 = true := by decide +kernel
theorem k_85 : t_Con c_85 := t_chk_ok h_85 (List.forall_mem_cons.mpr ⟨k_72, (fun _ h => absurd h List.not_mem_nil)⟩)
set_option maxRecDepth 1000000 in
theorem h_86 : t_chk [c_85] c_86 n_86 268 = true := by decide +kernel
theorem k_86 : t_Con c_86 := t_chk_ok h_86 (List.forall_mem_cons.mpr ⟨k_85, (fun _ h => absurd h List.not_mem_nil)⟩)
set_option maxRecDepth 1000000 in
theorem h_87 : t_chk [c_72] c_87 n_87 2105 = true := by decide +kernel
theorem k_87 : t_Con c_87 := t_chk_ok h_87 (List.forall_mem_cons.mpr ⟨k_72, (fun _ h => absurd h List.not_mem_nil)⟩)
set_option maxRecDepth 1000000 in
theorem h_88 : t_chk [c_87] c_88 n_88 268 = true := by decide +kernel
theorem k_88 : t_Con c_88 := t_chk_ok h_88 (List.forall_mem_cons.mpr ⟨k_87, (fun _ h => absurd h List.not_mem_nil)⟩)
set_option maxRecDepth 1000000 in
theorem h_89 : t_chk [c_72] c_89 n_89 13981 = true := by decide +kernel
theorem k_89 : t_Con c_89 := t_chk_ok h_89 (List.forall_mem_cons.mpr ⟨k_72, (fun _ h => absurd h List.not_mem_nil)⟩)
