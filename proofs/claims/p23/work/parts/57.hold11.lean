/-! the contracts hold, part 11 -/
set_option maxRecDepth 1000000 in
theorem h_278 : t_chk [c_277] c_278 n_278 84 = true := by decide +kernel
theorem k_278 : t_Con c_278 := t_chk_ok h_278 (List.forall_mem_cons.mpr ⟨k_277, (fun _ h => absurd h List.not_mem_nil)⟩)
set_option maxRecDepth 1000000 in
theorem h_279 : t_chk [] c_279 n_279 71 = true := by decide +kernel
theorem k_279 : t_Con c_279 := t_chk_ok h_279 ((fun _ h => absurd h List.not_mem_nil))
set_option maxRecDepth 1000000 in
theorem h_280 : t_chk [] c_280 n_280 3384 = true := by decide +kernel
theorem k_280 : t_Con c_280 := t_chk_ok h_280 ((fun _ h => absurd h List.not_mem_nil))
set_option maxRecDepth 1000000 in
theorem h_281 : t_chk [c_280] c_281 n_281 67 = true := by decide +kernel
theorem k_281 : t_Con c_281 := t_chk_ok h_281 (List.forall_mem_cons.mpr ⟨k_280, (fun _ h => absurd h List.not_mem_nil)⟩)
set_option maxRecDepth 1000000 in
theorem h_282 : t_chk [] c_282 n_282 86 = true := by decide +kernel
theorem k_282 : t_Con c_282 := t_chk_ok h_282 ((fun _ h => absurd h List.not_mem_nil))
set_option maxRecDepth 1000000 in
theorem h_283 : t_chk [c_225, c_282] c_283 n_283 102 = true := by decide +kernel
theorem k_283 : t_Con c_283 := t_chk_ok h_283 (List.forall_mem_cons.mpr ⟨k_225, List.forall_mem_cons.mpr ⟨k_282, (fun _ h => absurd h List.not_mem_nil)⟩⟩)
set_option maxRecDepth 1000000 in
theorem h_284 : t_chk [c_121, c_210] c_284 n_284 112 = true := by decide +kernel
theorem k_284 : t_Con c_284 := t_chk_ok h_284 (List.forall_mem_cons.mpr ⟨k_121, List.forall_mem_cons.mpr ⟨k_210, (fun _ h => absurd h List.not_mem_nil)⟩⟩)
