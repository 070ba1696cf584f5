/-! the contracts hold, part 11 -/
set_option maxRecDepth 1000000 in
theorem hg_h_278 : (t_chk [c_277] c_278 n_278 84 && (t_chk [] c_279 n_279 71 && (t_chk [] c_280 n_280 3384 && (t_chk [c_280] c_281 n_281 67)))) = true := by decide +kernel
theorem h_278 : t_chk [c_277] c_278 n_278 84 = true := ((Bool.and_eq_true _ _).mp hg_h_278).1
theorem hg_h_278_0 : (t_chk [] c_279 n_279 71 && (t_chk [] c_280 n_280 3384 && (t_chk [c_280] c_281 n_281 67))) = true := ((Bool.and_eq_true _ _).mp hg_h_278).2
theorem k_278 : t_Con c_278 := t_chk_ok h_278 (List.forall_mem_cons.mpr ⟨k_277, (fun _ h => absurd h List.not_mem_nil)⟩)
theorem h_279 : t_chk [] c_279 n_279 71 = true := ((Bool.and_eq_true _ _).mp hg_h_278_0).1
theorem hg_h_278_1 : (t_chk [] c_280 n_280 3384 && (t_chk [c_280] c_281 n_281 67)) = true := ((Bool.and_eq_true _ _).mp hg_h_278_0).2
theorem k_279 : t_Con c_279 := t_chk_ok h_279 ((fun _ h => absurd h List.not_mem_nil))
theorem h_280 : t_chk [] c_280 n_280 3384 = true := ((Bool.and_eq_true _ _).mp hg_h_278_1).1
theorem k_280 : t_Con c_280 := t_chk_ok h_280 ((fun _ h => absurd h List.not_mem_nil))
theorem h_281 : t_chk [c_280] c_281 n_281 67 = true := ((Bool.and_eq_true _ _).mp hg_h_278_1).2
theorem k_281 : t_Con c_281 := t_chk_ok h_281 (List.forall_mem_cons.mpr ⟨k_280, (fun _ h => absurd h List.not_mem_nil)⟩)
set_option maxRecDepth 1000000 in
theorem hg_h_282 : (t_chk [] c_282 n_282 86 && (t_chk [c_225, c_282] c_283 n_283 102 && (t_chk [c_121, c_210] c_284 n_284 112))) = true := by decide +kernel
theorem h_282 : t_chk [] c_282 n_282 86 = true := ((Bool.and_eq_true _ _).mp hg_h_282).1
theorem hg_h_282_0 : (t_chk [c_225, c_282] c_283 n_283 102 && (t_chk [c_121, c_210] c_284 n_284 112)) = true := ((Bool.and_eq_true _ _).mp hg_h_282).2
theorem k_282 : t_Con c_282 := t_chk_ok h_282 ((fun _ h => absurd h List.not_mem_nil))
theorem h_283 : t_chk [c_225, c_282] c_283 n_283 102 = true := ((Bool.and_eq_true _ _).mp hg_h_282_0).1
theorem k_283 : t_Con c_283 := t_chk_ok h_283 (List.forall_mem_cons.mpr ⟨k_225, List.forall_mem_cons.mpr ⟨k_282, (fun _ h => absurd h List.not_mem_nil)⟩⟩)
theorem h_284 : t_chk [c_121, c_210] c_284 n_284 112 = true := ((Bool.and_eq_true _ _).mp hg_h_282_0).2
theorem k_284 : t_Con c_284 := t_chk_ok h_284 (List.forall_mem_cons.mpr ⟨k_121, List.forall_mem_cons.mpr ⟨k_210, (fun _ h => absurd h List.not_mem_nil)⟩⟩)
