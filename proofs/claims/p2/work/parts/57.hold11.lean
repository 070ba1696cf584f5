/-! the contracts hold, part 11 -/
set_option maxRecDepth 1000000 in
theorem h_281 : t_chk [c_280] c_281 n_281 67 = true := by decide +kernel
theorem k_281 : t_Con c_281 := t_chk_ok h_281 (List.forall_mem_cons.mpr ⟨k_280, (fun _ h => absurd h List.not_mem_nil)⟩)
set_option maxRecDepth 1000000 in
theorem h_282 : t_chk [] c_282 n_282 86 = true := by decide +kernel
theorem k_282 : t_Con c_282 := t_chk_ok h_282 ((fun _ h => absurd h List.not_mem_nil))
set_option maxRecDepth 1000000 in
theorem h_283 : t_chk [c_231, c_282] c_283 n_283 102 = true := by decide +kernel
theorem k_283 : t_Con c_283 := t_chk_ok h_283 (List.forall_mem_cons.mpr ⟨k_231, List.forall_mem_cons.mpr ⟨k_282, (fun _ h => absurd h List.not_mem_nil)⟩⟩)
set_option maxRecDepth 1000000 in
theorem h_284 : t_chk [c_127, c_216] c_284 n_284 112 = true := by decide +kernel
theorem k_284 : t_Con c_284 := t_chk_ok h_284 (List.forall_mem_cons.mpr ⟨k_127, List.forall_mem_cons.mpr ⟨k_216, (fun _ h => absurd h List.not_mem_nil)⟩⟩)
