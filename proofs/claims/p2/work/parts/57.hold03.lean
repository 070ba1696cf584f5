/-! the contracts hold, part 3 -/
set_option maxRecDepth 1000000 in
theorem h_60 : t_chk [] c_60 n_60 125 = true := by decide +kernel
theorem k_60 : t_Con c_60 := t_chk_ok h_60 ((fun _ h => absurd h List.not_mem_nil))
set_option maxRecDepth 1000000 in
theorem h_61 : t_chk [] c_61 n_61 325 = true := by decide +kernel
theorem k_61 : t_Con c_61 := t_chk_ok h_61 ((fun _ h => absurd h List.not_mem_nil))
set_option maxRecDepth 1000000 in
theorem h_62 : t_chk [] c_62 n_62 2397 = true := by decide +kernel
theorem k_62 : t_Con c_62 := t_chk_ok h_62 ((fun _ h => absurd h List.not_mem_nil))
set_option maxRecDepth 1000000 in
theorem h_63 : t_chk [] c_63 n_63 65 = true := by decide +kernel
theorem k_63 : t_Con c_63 := t_chk_ok h_63 ((fun _ h => absurd h List.not_mem_nil))
set_option maxRecDepth 1000000 in
theorem h_64 : t_chk [c_62, c_63] c_64 n_64 248 = true := by decide +kernel
theorem k_64 : t_Con c_64 := t_chk_ok h_64 (List.forall_mem_cons.mpr ⟨k_62, List.forall_mem_cons.mpr ⟨k_63, (fun _ h => absurd h List.not_mem_nil)⟩⟩)
set_option maxRecDepth 1000000 in
theorem h_65 : t_chk [c_43] c_65 n_65 229 = true := by decide +kernel
theorem k_65 : t_Con c_65 := t_chk_ok h_65 (List.forall_mem_cons.mpr ⟨k_43, (fun _ h => absurd h List.not_mem_nil)⟩)
set_option maxRecDepth 1000000 in
theorem h_66 : t_chk [] c_66 n_66 199 = true := by decide +kernel
theorem k_66 : t_Con c_66 := t_chk_ok h_66 ((fun _ h => absurd h List.not_mem_nil))
set_option maxRecDepth 1000000 in
theorem h_67 : t_chk [] c_67 n_67 180 = true := by decide +kernel
theorem k_67 : t_Con c_67 := t_chk_ok h_67 ((fun _ h => absurd h List.not_mem_nil))
set_option maxRecDepth 1000000 in
theorem h_68 : t_chk [] c_68 n_68 71 = true := by decide +kernel
theorem k_68 : t_Con c_68 := t_chk_ok h_68 ((fun _ h => absurd h List.not_mem_nil))
set_option maxRecDepth 1000000 in
theorem h_69 : t_chk [c_68] c_69 n_69 235 = true := by decide +kernel
theorem k_69 : t_Con c_69 := t_chk_ok h_69 (List.forall_mem_cons.mpr ⟨k_68, (fun _ h => absurd h List.not_mem_nil)⟩)
set_option maxRecDepth 1000000 in
theorem h_70 : t_chk [c_69] c_70 n_70 74 = true := by decide +kernel
theorem k_70 : t_Con c_70 := t_chk_ok h_70 (List.forall_mem_cons.mpr ⟨k_69, (fun _ h => absurd h List.not_mem_nil)⟩)
set_option maxRecDepth 1000000 in
theorem h_71 : t_chk [c_70] c_71 n_71 252 = true := by decide +kernel
theorem k_71 : t_Con c_71 := t_chk_ok h_71 (List.forall_mem_cons.mpr ⟨k_70, (fun _ h => absurd h List.not_mem_nil)⟩)
set_option maxRecDepth 1000000 in
theorem h_72 : t_chk [] c_72 n_72 4062 = true := by decide +kernel
theorem k_72 : t_Con c_72 := t_chk_ok h_72 ((fun _ h => absurd h List.not_mem_nil))
set_option maxRecDepth 1000000 in
theorem h_73 : t_chk [c_72] c_73 n_73 2105 = true := by decide +kernel
theorem k_73 : t_Con c_73 := t_chk_ok h_73 (List.forall_mem_cons.mpr ⟨k_72, (fun _ h => absurd h List.not_mem_nil)⟩)
set_option maxRecDepth 1000000 in
theorem h_74 : t_chk [c_73] c_74 n_74 268 = true := by decide +kernel
theorem k_74 : t_Con c_74 := t_chk_ok h_74 (List.forall_mem_cons.mpr ⟨k_73, (fun _ h => absurd h List.not_mem_nil)⟩)
set_option maxRecDepth 1000000 in
theorem h_75 : t_chk [c_72] c_75 n_75 2105 = true := by decide +kernel
theorem k_75 : t_Con c_75 := t_chk_ok h_75 (List.forall_mem_cons.mpr ⟨k_72, (fun _ h => absurd h List.not_mem_nil)⟩)
set_option maxRecDepth 1000000 in
theorem h_76 : t_chk [c_75] c_76 n_76 268 = true := by decide +kernel
theorem k_76 : t_Con c_76 := t_chk_ok h_76 (List.forall_mem_cons.mpr ⟨k_75, (fun _ h => absurd h List.not_mem_nil)⟩)
set_option maxRecDepth 1000000 in
theorem h_77 : t_chk [c_72] c_77 n_77 2105 = true := by decide +kernel
theorem k_77 : t_Con c_77 := t_chk_ok h_77 (List.forall_mem_cons.mpr ⟨k_72, (fun _ h => absurd h List.not_mem_nil)⟩)
