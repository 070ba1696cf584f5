/-! the contracts hold, part 7 -/
set_option maxRecDepth 1000000 in
theorem hg_h_140 : (t_chk [c_137] c_140 n_140 2109 && (t_chk [c_137] c_141 n_141 2109 && (t_chk [c_137] c_142 n_142 2109 && (t_chk [c_137] c_143 n_143 2109)))) = true := by decide +kernel
theorem h_140 : t_chk [c_137] c_140 n_140 2109 = true := ((Bool.and_eq_true _ _).mp hg_h_140).1
theorem hg_h_140_0 : (t_chk [c_137] c_141 n_141 2109 && (t_chk [c_137] c_142 n_142 2109 && (t_chk [c_137] c_143 n_143 2109))) = true := ((Bool.and_eq_true _ _).mp hg_h_140).2
theorem k_140 : t_Con c_140 := t_chk_ok h_140 (List.forall_mem_cons.mpr ⟨k_137, (fun _ h => absurd h List.not_mem_nil)⟩)
theorem h_141 : t_chk [c_137] c_141 n_141 2109 = true := ((Bool.and_eq_true _ _).mp hg_h_140_0).1
theorem hg_h_140_1 : (t_chk [c_137] c_142 n_142 2109 && (t_chk [c_137] c_143 n_143 2109)) = true := ((Bool.and_eq_true _ _).mp hg_h_140_0).2
theorem k_141 : t_Con c_141 := t_chk_ok h_141 (List.forall_mem_cons.mpr ⟨k_137, (fun _ h => absurd h List.not_mem_nil)⟩)
theorem h_142 : t_chk [c_137] c_142 n_142 2109 = true := ((Bool.and_eq_true _ _).mp hg_h_140_1).1
theorem k_142 : t_Con c_142 := t_chk_ok h_142 (List.forall_mem_cons.mpr ⟨k_137, (fun _ h => absurd h List.not_mem_nil)⟩)
theorem h_143 : t_chk [c_137] c_143 n_143 2109 = true := ((Bool.and_eq_true _ _).mp hg_h_140_1).2
theorem k_143 : t_Con c_143 := t_chk_ok h_143 (List.forall_mem_cons.mpr ⟨k_137, (fun _ h => absurd h List.not_mem_nil)⟩)
set_option maxRecDepth 1000000 in
theorem hg_h_144 : (t_chk [c_137] c_144 n_144 2109 && (t_chk [c_137] c_145 n_145 2109 && (t_chk [c_117] c_146 n_146 66 && (t_chk [c_146] c_147 n_147 98)))) = true := by decide +kernel
theorem h_144 : t_chk [c_137] c_144 n_144 2109 = true := ((Bool.and_eq_true _ _).mp hg_h_144).1
theorem hg_h_144_0 : (t_chk [c_137] c_145 n_145 2109 && (t_chk [c_117] c_146 n_146 66 && (t_chk [c_146] c_147 n_147 98))) = true := ((Bool.and_eq_true _ _).mp hg_h_144).2
theorem k_144 : t_Con c_144 := t_chk_ok h_144 (List.forall_mem_cons.mpr ⟨k_137, (fun _ h => absurd h List.not_mem_nil)⟩)
theorem h_145 : t_chk [c_137] c_145 n_145 2109 = true := ((Bool.and_eq_true _ _).mp hg_h_144_0).1
theorem hg_h_144_1 : (t_chk [c_117] c_146 n_146 66 && (t_chk [c_146] c_147 n_147 98)) = true := ((Bool.and_eq_true _ _).mp hg_h_144_0).2
theorem k_145 : t_Con c_145 := t_chk_ok h_145 (List.forall_mem_cons.mpr ⟨k_137, (fun _ h => absurd h List.not_mem_nil)⟩)
theorem h_146 : t_chk [c_117] c_146 n_146 66 = true := ((Bool.and_eq_true _ _).mp hg_h_144_1).1
theorem k_146 : t_Con c_146 := t_chk_ok h_146 (List.forall_mem_cons.mpr ⟨k_117, (fun _ h => absurd h List.not_mem_nil)⟩)
theorem h_147 : t_chk [c_146] c_147 n_147 98 = true := ((Bool.and_eq_true _ _).mp hg_h_144_1).2
theorem k_147 : t_Con c_147 := t_chk_ok h_147 (List.forall_mem_cons.mpr ⟨k_146, (fun _ h => absurd h List.not_mem_nil)⟩)
set_option maxRecDepth 1000000 in
theorem hg_h_148 : (t_chk [c_95, c_146] c_148 n_148 91 && (t_chk [c_147, c_148] c_149 n_149 198 && (t_chk [c_29, c_36, c_45] c_150 n_150 346 && (t_chk [c_18, c_51] c_151 n_151 80)))) = true := by decide +kernel
theorem h_148 : t_chk [c_95, c_146] c_148 n_148 91 = true := ((Bool.and_eq_true _ _).mp hg_h_148).1
theorem hg_h_148_0 : (t_chk [c_147, c_148] c_149 n_149 198 && (t_chk [c_29, c_36, c_45] c_150 n_150 346 && (t_chk [c_18, c_51] c_151 n_151 80))) = true := ((Bool.and_eq_true _ _).mp hg_h_148).2
theorem k_148 : t_Con c_148 := t_chk_ok h_148 (List.forall_mem_cons.mpr ⟨k_95, List.forall_mem_cons.mpr ⟨k_146, (fun _ h => absurd h List.not_mem_nil)⟩⟩)
theorem h_149 : t_chk [c_147, c_148] c_149 n_149 198 = true := ((Bool.and_eq_true _ _).mp hg_h_148_0).1
theorem hg_h_148_1 : (t_chk [c_29, c_36, c_45] c_150 n_150 346 && (t_chk [c_18, c_51] c_151 n_151 80)) = true := ((Bool.and_eq_true _ _).mp hg_h_148_0).2
theorem k_149 : t_Con c_149 := t_chk_ok h_149 (List.forall_mem_cons.mpr ⟨k_147, List.forall_mem_cons.mpr ⟨k_148, (fun _ h => absurd h List.not_mem_nil)⟩⟩)
theorem h_150 : t_chk [c_29, c_36, c_45] c_150 n_150 346 = true := ((Bool.and_eq_true _ _).mp hg_h_148_1).1
theorem k_150 : t_Con c_150 := t_chk_ok h_150 (List.forall_mem_cons.mpr ⟨k_29, List.forall_mem_cons.mpr ⟨k_36, List.forall_mem_cons.mpr ⟨k_45, (fun _ h => absurd h List.not_mem_nil)⟩⟩⟩)
theorem h_151 : t_chk [c_18, c_51] c_151 n_151 80 = true := ((Bool.and_eq_true _ _).mp hg_h_148_1).2
theorem k_151 : t_Con c_151 := t_chk_ok h_151 (List.forall_mem_cons.mpr ⟨k_18, List.forall_mem_cons.mpr ⟨k_51, (fun _ h => absurd h List.not_mem_nil)⟩⟩)
set_option maxRecDepth 1000000 in
theorem hg_h_152 : (t_chk [c_151] c_152 n_152 237 && (t_chk [c_29, c_36, c_45] c_153 n_153 80 && (t_chk [c_153] c_154 n_154 258 && (t_chk [c_146] c_155 n_155 70)))) = true := by decide +kernel
theorem h_152 : t_chk [c_151] c_152 n_152 237 = true := ((Bool.and_eq_true _ _).mp hg_h_152).1
theorem hg_h_152_0 : (t_chk [c_29, c_36, c_45] c_153 n_153 80 && (t_chk [c_153] c_154 n_154 258 && (t_chk [c_146] c_155 n_155 70))) = true := ((Bool.and_eq_true _ _).mp hg_h_152).2
theorem k_152 : t_Con c_152 := t_chk_ok h_152 (List.forall_mem_cons.mpr ⟨k_151, (fun _ h => absurd h List.not_mem_nil)⟩)
theorem h_153 : t_chk [c_29, c_36, c_45] c_153 n_153 80 = true := ((Bool.and_eq_true _ _).mp hg_h_152_0).1
theorem hg_h_152_1 : (t_chk [c_153] c_154 n_154 258 && (t_chk [c_146] c_155 n_155 70)) = true := ((Bool.and_eq_true _ _).mp hg_h_152_0).2
theorem k_153 : t_Con c_153 := t_chk_ok h_153 (List.forall_mem_cons.mpr ⟨k_29, List.forall_mem_cons.mpr ⟨k_36, List.forall_mem_cons.mpr ⟨k_45, (fun _ h => absurd h List.not_mem_nil)⟩⟩⟩)
theorem h_154 : t_chk [c_153] c_154 n_154 258 = true := ((Bool.and_eq_true _ _).mp hg_h_152_1).1
theorem k_154 : t_Con c_154 := t_chk_ok h_154 (List.forall_mem_cons.mpr ⟨k_153, (fun _ h => absurd h List.not_mem_nil)⟩)
theorem h_155 : t_chk [c_146] c_155 n_155 70 = true := ((Bool.and_eq_true _ _).mp hg_h_152_1).2
theorem k_155 : t_Con c_155 := t_chk_ok h_155 (List.forall_mem_cons.mpr ⟨k_146, (fun _ h => absurd h List.not_mem_nil)⟩)
