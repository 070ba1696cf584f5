/-! the contracts hold, part 7 -/
set_option maxRecDepth 1000000 in
theorem h_146 : t_chk [c_143] c_146 n_146 2109 = true := by decide +kernel
theorem k_146 : t_Con c_146 := t_chk_ok h_146 (List.forall_mem_cons.mpr ⟨k_143, (fun _ h => absurd h List.not_mem_nil)⟩)
set_option maxRecDepth 1000000 in
theorem h_147 : t_chk [c_143] c_147 n_147 2109 = true := by decide +kernel
theorem k_147 : t_Con c_147 := t_chk_ok h_147 (List.forall_mem_cons.mpr ⟨k_143, (fun _ h => absurd h List.not_mem_nil)⟩)
set_option maxRecDepth 1000000 in
theorem h_148 : t_chk [c_143] c_148 n_148 2109 = true := by decide +kernel
theorem k_148 : t_Con c_148 := t_chk_ok h_148 (List.forall_mem_cons.mpr ⟨k_143, (fun _ h => absurd h List.not_mem_nil)⟩)
set_option maxRecDepth 1000000 in
theorem h_149 : t_chk [c_143] c_149 n_149 2109 = true := by decide +kernel
theorem k_149 : t_Con c_149 := t_chk_ok h_149 (List.forall_mem_cons.mpr ⟨k_143, (fun _ h => absurd h List.not_mem_nil)⟩)
set_option maxRecDepth 1000000 in
theorem h_150 : t_chk [c_143] c_150 n_150 2109 = true := by decide +kernel
theorem k_150 : t_Con c_150 := t_chk_ok h_150 (List.forall_mem_cons.mpr ⟨k_143, (fun _ h => absurd h List.not_mem_nil)⟩)
set_option maxRecDepth 1000000 in
theorem h_151 : t_chk [c_143] c_151 n_151 2109 = true := by decide +kernel
theorem k_151 : t_Con c_151 := t_chk_ok h_151 (List.forall_mem_cons.mpr ⟨k_143, (fun _ h => absurd h List.not_mem_nil)⟩)
set_option maxRecDepth 1000000 in
theorem h_152 : t_chk [c_123] c_152 n_152 66 = true := by decide +kernel
theorem k_152 : t_Con c_152 := t_chk_ok h_152 (List.forall_mem_cons.mpr ⟨k_123, (fun _ h => absurd h List.not_mem_nil)⟩)
set_option maxRecDepth 1000000 in
theorem h_153 : t_chk [c_152] c_153 n_153 98 = true := by decide +kernel
theorem k_153 : t_Con c_153 := t_chk_ok h_153 (List.forall_mem_cons.mpr ⟨k_152, (fun _ h => absurd h List.not_mem_nil)⟩)
set_option maxRecDepth 1000000 in
theorem h_154 : t_chk [c_101, c_152] c_154 n_154 91 = true := by decide +kernel
theorem k_154 : t_Con c_154 := t_chk_ok h_154 (List.forall_mem_cons.mpr ⟨k_101, List.forall_mem_cons.mpr ⟨k_152, (fun _ h => absurd h List.not_mem_nil)⟩⟩)
set_option maxRecDepth 1000000 in
theorem h_155 : t_chk [c_153, c_154] c_155 n_155 198 = true := by decide +kernel
theorem k_155 : t_Con c_155 := t_chk_ok h_155 (List.forall_mem_cons.mpr ⟨k_153, List.forall_mem_cons.mpr ⟨k_154, (fun _ h => absurd h List.not_mem_nil)⟩⟩)
set_option maxRecDepth 1000000 in
theorem h_156 : t_chk [c_35, c_42, c_51] c_156 n_156 346 = true := by decide +kernel
theorem k_156 : t_Con c_156 := t_chk_ok h_156 (List.forall_mem_cons.mpr ⟨k_35, List.forall_mem_cons.mpr ⟨k_42, List.forall_mem_cons.mpr ⟨k_51, (fun _ h => absurd h List.not_mem_nil)⟩⟩⟩)
set_option maxRecDepth 1000000 in
theorem h_157 : t_chk [c_24, c_57] c_157 n_157 80 = true := by decide +kernel
theorem k_157 : t_Con c_157 := t_chk_ok h_157 (List.forall_mem_cons.mpr ⟨k_24, List.forall_mem_cons.mpr ⟨k_57, (fun _ h => absurd h List.not_mem_nil)⟩⟩)
set_option maxRecDepth 1000000 in
theorem h_158 : t_chk [c_157] c_158 n_158 237 = true := by decide +kernel
theorem k_158 : t_Con c_158 := t_chk_ok h_158 (List.forall_mem_cons.mpr ⟨k_157, (fun _ h => absurd h List.not_mem_nil)⟩)
set_option maxRecDepth 1000000 in
theorem h_159 : t_chk [c_35, c_42, c_51] c_159 n_159 80 = true := by decide +kernel
theorem k_159 : t_Con c_159 := t_chk_ok h_159 (List.forall_mem_cons.mpr ⟨k_35, List.forall_mem_cons.mpr ⟨k_42, List.forall_mem_cons.mpr ⟨k_51, (fun _ h => absurd h List.not_mem_nil)⟩⟩⟩)
set_option maxRecDepth 1000000 in
theorem h_160 : t_chk [c_159] c_160 n_160 258 = true := by decide +kernel
theorem k_160 : t_Con c_160 := t_chk_ok h_160 (List.forall_mem_cons.mpr ⟨k_159, (fun _ h => absurd h List.not_mem_nil)⟩)
set_option maxRecDepth 1000000 in
theorem h_161 : t_chk [c_152] c_161 n_161 70 = true := by decide +kernel
theorem k_161 : t_Con c_161 := t_chk_ok h_161 (List.forall_mem_cons.mpr ⟨k_152, (fun _ h => absurd h List.not_mem_nil)⟩)
