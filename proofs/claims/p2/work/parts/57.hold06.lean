/-! the contracts hold, part 6 -/
set_option maxRecDepth 1000000 in
theorem h_120 : t_chk [c_116, c_117, c_118, c_119] c_120 n_120 1306 = true := by decide +kernel
theorem k_120 : t_Con c_120 := t_chk_ok h_120 (List.forall_mem_cons.mpr ⟨k_116, List.forall_mem_cons.mpr ⟨k_117, List.forall_mem_cons.mpr ⟨k_118, List.forall_mem_cons.mpr ⟨k_119, (fun _ h => absurd h List.not_mem_nil)⟩⟩⟩⟩)
set_option maxRecDepth 1000000 in
theorem h_121 : t_chk [c_24, c_57] c_121 n_121 90 = true := by decide +kernel
theorem k_121 : t_Con c_121 := t_chk_ok h_121 (List.forall_mem_cons.mpr ⟨k_24, List.forall_mem_cons.mpr ⟨k_57, (fun _ h => absurd h List.not_mem_nil)⟩⟩)
set_option maxRecDepth 1000000 in
theorem h_122 : t_chk [c_120, c_121] c_122 n_122 68 = true := by decide +kernel
theorem k_122 : t_Con c_122 := t_chk_ok h_122 (List.forall_mem_cons.mpr ⟨k_120, List.forall_mem_cons.mpr ⟨k_121, (fun _ h => absurd h List.not_mem_nil)⟩⟩)
set_option maxRecDepth 1000000 in
theorem h_123 : t_chk [c_101, c_119] c_123 n_123 89 = true := by decide +kernel
theorem k_123 : t_Con c_123 := t_chk_ok h_123 (List.forall_mem_cons.mpr ⟨k_101, List.forall_mem_cons.mpr ⟨k_119, (fun _ h => absurd h List.not_mem_nil)⟩⟩)
set_option maxRecDepth 1000000 in
theorem h_124 : t_chk [c_123] c_124 n_124 66 = true := by decide +kernel
theorem k_124 : t_Con c_124 := t_chk_ok h_124 (List.forall_mem_cons.mpr ⟨k_123, (fun _ h => absurd h List.not_mem_nil)⟩)
set_option maxRecDepth 1000000 in
theorem h_125 : t_chk [c_124] c_125 n_125 70 = true := by decide +kernel
theorem k_125 : t_Con c_125 := t_chk_ok h_125 (List.forall_mem_cons.mpr ⟨k_124, (fun _ h => absurd h List.not_mem_nil)⟩)
set_option maxRecDepth 1000000 in
theorem h_126 : t_chk [c_70, c_122, c_125] c_126 n_126 147 = true := by decide +kernel
theorem k_126 : t_Con c_126 := t_chk_ok h_126 (List.forall_mem_cons.mpr ⟨k_70, List.forall_mem_cons.mpr ⟨k_122, List.forall_mem_cons.mpr ⟨k_125, (fun _ h => absurd h List.not_mem_nil)⟩⟩⟩)
set_option maxRecDepth 1000000 in
theorem h_127 : t_chk [] c_127 n_127 79 = true := by decide +kernel
theorem k_127 : t_Con c_127 := t_chk_ok h_127 ((fun _ h => absurd h List.not_mem_nil))
set_option maxRecDepth 1000000 in
theorem h_128 : t_chk [] c_128 n_128 1582 = true := by decide +kernel
theorem k_128 : t_Con c_128 := t_chk_ok h_128 ((fun _ h => absurd h List.not_mem_nil))
set_option maxRecDepth 1000000 in
theorem h_129 : t_chk [c_42, c_73, c_127, c_128] c_129 n_129 157 = true := by decide +kernel
theorem k_129 : t_Con c_129 := t_chk_ok h_129 (List.forall_mem_cons.mpr ⟨k_42, List.forall_mem_cons.mpr ⟨k_73, List.forall_mem_cons.mpr ⟨k_127, List.forall_mem_cons.mpr ⟨k_128, (fun _ h => absurd h List.not_mem_nil)⟩⟩⟩⟩)
set_option maxRecDepth 1000000 in
theorem h_130 : t_chk [c_42, c_75, c_127, c_128] c_130 n_130 157 = true := by decide +kernel
theorem k_130 : t_Con c_130 := t_chk_ok h_130 (List.forall_mem_cons.mpr ⟨k_42, List.forall_mem_cons.mpr ⟨k_75, List.forall_mem_cons.mpr ⟨k_127, List.forall_mem_cons.mpr ⟨k_128, (fun _ h => absurd h List.not_mem_nil)⟩⟩⟩⟩)
set_option maxRecDepth 1000000 in
theorem h_131 : t_chk [c_42, c_77, c_127, c_128] c_131 n_131 157 = true := by decide +kernel
theorem k_131 : t_Con c_131 := t_chk_ok h_131 (List.forall_mem_cons.mpr ⟨k_42, List.forall_mem_cons.mpr ⟨k_77, List.forall_mem_cons.mpr ⟨k_127, List.forall_mem_cons.mpr ⟨k_128, (fun _ h => absurd h List.not_mem_nil)⟩⟩⟩⟩)
set_option maxRecDepth 1000000 in
theorem h_132 : t_chk [c_42, c_79, c_127, c_128] c_132 n_132 157 = true := by decide +kernel
theorem k_132 : t_Con c_132 := t_chk_ok h_132 (List.forall_mem_cons.mpr ⟨k_42, List.forall_mem_cons.mpr ⟨k_79, List.forall_mem_cons.mpr ⟨k_127, List.forall_mem_cons.mpr ⟨k_128, (fun _ h => absurd h List.not_mem_nil)⟩⟩⟩⟩)
set_option maxRecDepth 1000000 in
theorem h_133 : t_chk [c_42, c_81, c_127, c_128] c_133 n_133 157 = true := by decide +kernel
theorem k_133 : t_Con c_133 := t_chk_ok h_133 (List.forall_mem_cons.mpr ⟨k_42, List.forall_mem_cons.mpr ⟨k_81, List.forall_mem_cons.mpr ⟨k_127, List.forall_mem_cons.mpr ⟨k_128, (fun _ h => absurd h List.not_mem_nil)⟩⟩⟩⟩)
set_option maxRecDepth 1000000 in
theorem h_134 : t_chk [c_42, c_83, c_127, c_128] c_134 n_134 157 = true := by decide +kernel
theorem k_134 : t_Con c_134 := t_chk_ok h_134 (List.forall_mem_cons.mpr ⟨k_42, List.forall_mem_cons.mpr ⟨k_83, List.forall_mem_cons.mpr ⟨k_127, List.forall_mem_cons.mpr ⟨k_128, (fun _ h => absurd h List.not_mem_nil)⟩⟩⟩⟩)
set_option maxRecDepth 1000000 in
theorem h_135 : t_chk [c_42, c_85, c_127, c_128] c_135 n_135 157 = true := by decide +kernel
theorem k_135 : t_Con c_135 := t_chk_ok h_135 (List.forall_mem_cons.mpr ⟨k_42, List.forall_mem_cons.mpr ⟨k_85, List.forall_mem_cons.mpr ⟨k_127, List.forall_mem_cons.mpr ⟨k_128, (fun _ h => absurd h List.not_mem_nil)⟩⟩⟩⟩)
set_option maxRecDepth 1000000 in
theorem h_136 : t_chk [c_42, c_87, c_127, c_128] c_136 n_136 157 = true := by decide +kernel
theorem k_136 : t_Con c_136 := t_chk_ok h_136 (List.forall_mem_cons.mpr ⟨k_42, List.forall_mem_cons.mpr ⟨k_87, List.forall_mem_cons.mpr ⟨k_127, List.forall_mem_cons.mpr ⟨k_128, (fun _ h => absurd h List.not_mem_nil)⟩⟩⟩⟩)
set_option maxRecDepth 1000000 in
theorem h_137 : t_chk [c_42, c_89, c_127, c_128] c_137 n_137 157 = true := by decide +kernel
theorem k_137 : t_Con c_137 := t_chk_ok h_137 (List.forall_mem_cons.mpr ⟨k_42, List.forall_mem_cons.mpr ⟨k_89, List.forall_mem_cons.mpr ⟨k_127, List.forall_mem_cons.mpr ⟨k_128, (fun _ h => absurd h List.not_mem_nil)⟩⟩⟩⟩)
set_option maxRecDepth 1000000 in
theorem h_138 : t_chk [] c_138 n_138 71 = true := by decide +kernel
theorem k_138 : t_Con c_138 := t_chk_ok h_138 ((fun _ h => absurd h List.not_mem_nil))
set_option maxRecDepth 1000000 in
theorem h_139 : t_chk [c_138] c_139 n_139 235 = true := by decide +kernel
theorem k_139 : t_Con c_139 := t_chk_ok h_139 (List.forall_mem_cons.mpr ⟨k_138, (fun _ h => absurd h List.not_mem_nil)⟩)
set_option maxRecDepth 1000000 in
theorem h_140 : t_chk [c_139] c_140 n_140 74 = true := by decide +kernel
theorem k_140 : t_Con c_140 := t_chk_ok h_140 (List.forall_mem_cons.mpr ⟨k_139, (fun _ h => absurd h List.not_mem_nil)⟩)
set_option maxRecDepth 1000000 in
theorem h_141 : t_chk [c_140] c_141 n_141 78 = true := by decide +kernel
theorem k_141 : t_Con c_141 := t_chk_ok h_141 (List.forall_mem_cons.mpr ⟨k_140, (fun _ h => absurd h List.not_mem_nil)⟩)
set_option maxRecDepth 1000000 in
theorem h_142 : t_chk [] c_142 n_142 71 = true := by decide +kernel
theorem k_142 : t_Con c_142 := t_chk_ok h_142 ((fun _ h => absurd h List.not_mem_nil))
set_option maxRecDepth 1000000 in
theorem h_143 : t_chk [] c_143 n_143 3384 = true := by decide +kernel
theorem k_143 : t_Con c_143 := t_chk_ok h_143 ((fun _ h => absurd h List.not_mem_nil))
set_option maxRecDepth 1000000 in
theorem h_144 : t_chk [c_143] c_144 n_144 2109 = true := by decide +kernel
theorem k_144 : t_Con c_144 := t_chk_ok h_144 (List.forall_mem_cons.mpr ⟨k_143, (fun _ h => absurd h List.not_mem_nil)⟩)
set_option maxRecDepth 1000000 in
theorem h_145 : t_chk [c_143] c_145 n_145 2109 = true := by decide +kernel
theorem k_145 : t_Con c_145 := t_chk_ok h_145 (List.forall_mem_cons.mpr ⟨k_143, (fun _ h => absurd h List.not_mem_nil)⟩)
