/-! the contracts hold, part 6 -/
set_option maxRecDepth 1000000 in
theorem hg_h_114 : (t_chk [c_110, c_111, c_112, c_113] c_114 n_114 1306 && (t_chk [c_18, c_51] c_115 n_115 90 && (t_chk [c_114, c_115] c_116 n_116 68 && (t_chk [c_95, c_113] c_117 n_117 89)))) = true := by decide +kernel
theorem h_114 : t_chk [c_110, c_111, c_112, c_113] c_114 n_114 1306 = true := ((Bool.and_eq_true _ _).mp hg_h_114).1
theorem hg_h_114_0 : (t_chk [c_18, c_51] c_115 n_115 90 && (t_chk [c_114, c_115] c_116 n_116 68 && (t_chk [c_95, c_113] c_117 n_117 89))) = true := ((Bool.and_eq_true _ _).mp hg_h_114).2
theorem k_114 : t_Con c_114 := t_chk_ok h_114 (List.forall_mem_cons.mpr ⟨k_110, List.forall_mem_cons.mpr ⟨k_111, List.forall_mem_cons.mpr ⟨k_112, List.forall_mem_cons.mpr ⟨k_113, (fun _ h => absurd h List.not_mem_nil)⟩⟩⟩⟩)
theorem h_115 : t_chk [c_18, c_51] c_115 n_115 90 = true := ((Bool.and_eq_true _ _).mp hg_h_114_0).1
theorem hg_h_114_1 : (t_chk [c_114, c_115] c_116 n_116 68 && (t_chk [c_95, c_113] c_117 n_117 89)) = true := ((Bool.and_eq_true _ _).mp hg_h_114_0).2
theorem k_115 : t_Con c_115 := t_chk_ok h_115 (List.forall_mem_cons.mpr ⟨k_18, List.forall_mem_cons.mpr ⟨k_51, (fun _ h => absurd h List.not_mem_nil)⟩⟩)
theorem h_116 : t_chk [c_114, c_115] c_116 n_116 68 = true := ((Bool.and_eq_true _ _).mp hg_h_114_1).1
theorem k_116 : t_Con c_116 := t_chk_ok h_116 (List.forall_mem_cons.mpr ⟨k_114, List.forall_mem_cons.mpr ⟨k_115, (fun _ h => absurd h List.not_mem_nil)⟩⟩)
theorem h_117 : t_chk [c_95, c_113] c_117 n_117 89 = true := ((Bool.and_eq_true _ _).mp hg_h_114_1).2
theorem k_117 : t_Con c_117 := t_chk_ok h_117 (List.forall_mem_cons.mpr ⟨k_95, List.forall_mem_cons.mpr ⟨k_113, (fun _ h => absurd h List.not_mem_nil)⟩⟩)
set_option maxRecDepth 1000000 in
theorem hg_h_118 : (t_chk [c_117] c_118 n_118 66 && (t_chk [c_118] c_119 n_119 70 && (t_chk [c_64, c_116, c_119] c_120 n_120 147 && (t_chk [] c_121 n_121 79)))) = true := by decide +kernel
theorem h_118 : t_chk [c_117] c_118 n_118 66 = true := ((Bool.and_eq_true _ _).mp hg_h_118).1
theorem hg_h_118_0 : (t_chk [c_118] c_119 n_119 70 && (t_chk [c_64, c_116, c_119] c_120 n_120 147 && (t_chk [] c_121 n_121 79))) = true := ((Bool.and_eq_true _ _).mp hg_h_118).2
theorem k_118 : t_Con c_118 := t_chk_ok h_118 (List.forall_mem_cons.mpr ⟨k_117, (fun _ h => absurd h List.not_mem_nil)⟩)
theorem h_119 : t_chk [c_118] c_119 n_119 70 = true := ((Bool.and_eq_true _ _).mp hg_h_118_0).1
theorem hg_h_118_1 : (t_chk [c_64, c_116, c_119] c_120 n_120 147 && (t_chk [] c_121 n_121 79)) = true := ((Bool.and_eq_true _ _).mp hg_h_118_0).2
theorem k_119 : t_Con c_119 := t_chk_ok h_119 (List.forall_mem_cons.mpr ⟨k_118, (fun _ h => absurd h List.not_mem_nil)⟩)
theorem h_120 : t_chk [c_64, c_116, c_119] c_120 n_120 147 = true := ((Bool.and_eq_true _ _).mp hg_h_118_1).1
theorem k_120 : t_Con c_120 := t_chk_ok h_120 (List.forall_mem_cons.mpr ⟨k_64, List.forall_mem_cons.mpr ⟨k_116, List.forall_mem_cons.mpr ⟨k_119, (fun _ h => absurd h List.not_mem_nil)⟩⟩⟩)
theorem h_121 : t_chk [] c_121 n_121 79 = true := ((Bool.and_eq_true _ _).mp hg_h_118_1).2
theorem k_121 : t_Con c_121 := t_chk_ok h_121 ((fun _ h => absurd h List.not_mem_nil))
set_option maxRecDepth 1000000 in
theorem hg_h_122 : (t_chk [] c_122 n_122 1582 && (t_chk [c_36, c_67, c_121, c_122] c_123 n_123 157 && (t_chk [c_36, c_69, c_121, c_122] c_124 n_124 157 && (t_chk [c_36, c_71, c_121, c_122] c_125 n_125 157)))) = true := by decide +kernel
theorem h_122 : t_chk [] c_122 n_122 1582 = true := ((Bool.and_eq_true _ _).mp hg_h_122).1
theorem hg_h_122_0 : (t_chk [c_36, c_67, c_121, c_122] c_123 n_123 157 && (t_chk [c_36, c_69, c_121, c_122] c_124 n_124 157 && (t_chk [c_36, c_71, c_121, c_122] c_125 n_125 157))) = true := ((Bool.and_eq_true _ _).mp hg_h_122).2
theorem k_122 : t_Con c_122 := t_chk_ok h_122 ((fun _ h => absurd h List.not_mem_nil))
theorem h_123 : t_chk [c_36, c_67, c_121, c_122] c_123 n_123 157 = true := ((Bool.and_eq_true _ _).mp hg_h_122_0).1
theorem hg_h_122_1 : (t_chk [c_36, c_69, c_121, c_122] c_124 n_124 157 && (t_chk [c_36, c_71, c_121, c_122] c_125 n_125 157)) = true := ((Bool.and_eq_true _ _).mp hg_h_122_0).2
theorem k_123 : t_Con c_123 := t_chk_ok h_123 (List.forall_mem_cons.mpr ⟨k_36, List.forall_mem_cons.mpr ⟨k_67, List.forall_mem_cons.mpr ⟨k_121, List.forall_mem_cons.mpr ⟨k_122, (fun _ h => absurd h List.not_mem_nil)⟩⟩⟩⟩)
theorem h_124 : t_chk [c_36, c_69, c_121, c_122] c_124 n_124 157 = true := ((Bool.and_eq_true _ _).mp hg_h_122_1).1
theorem k_124 : t_Con c_124 := t_chk_ok h_124 (List.forall_mem_cons.mpr ⟨k_36, List.forall_mem_cons.mpr ⟨k_69, List.forall_mem_cons.mpr ⟨k_121, List.forall_mem_cons.mpr ⟨k_122, (fun _ h => absurd h List.not_mem_nil)⟩⟩⟩⟩)
theorem h_125 : t_chk [c_36, c_71, c_121, c_122] c_125 n_125 157 = true := ((Bool.and_eq_true _ _).mp hg_h_122_1).2
theorem k_125 : t_Con c_125 := t_chk_ok h_125 (List.forall_mem_cons.mpr ⟨k_36, List.forall_mem_cons.mpr ⟨k_71, List.forall_mem_cons.mpr ⟨k_121, List.forall_mem_cons.mpr ⟨k_122, (fun _ h => absurd h List.not_mem_nil)⟩⟩⟩⟩)
set_option maxRecDepth 1000000 in
theorem hg_h_126 : (t_chk [c_36, c_73, c_121, c_122] c_126 n_126 157 && (t_chk [c_36, c_75, c_121, c_122] c_127 n_127 157 && (t_chk [c_36, c_77, c_121, c_122] c_128 n_128 157 && (t_chk [c_36, c_79, c_121, c_122] c_129 n_129 157)))) = true := by decide +kernel
theorem h_126 : t_chk [c_36, c_73, c_121, c_122] c_126 n_126 157 = true := ((Bool.and_eq_true _ _).mp hg_h_126).1
theorem hg_h_126_0 : (t_chk [c_36, c_75, c_121, c_122] c_127 n_127 157 && (t_chk [c_36, c_77, c_121, c_122] c_128 n_128 157 && (t_chk [c_36, c_79, c_121, c_122] c_129 n_129 157))) = true := ((Bool.and_eq_true _ _).mp hg_h_126).2
theorem k_126 : t_Con c_126 := t_chk_ok h_126 (List.forall_mem_cons.mpr ⟨k_36, List.forall_mem_cons.mpr ⟨k_73, List.forall_mem_cons.mpr ⟨k_121, List.forall_mem_cons.mpr ⟨k_122, (fun _ h => absurd h List.not_mem_nil)⟩⟩⟩⟩)
theorem h_127 : t_chk [c_36, c_75, c_121, c_122] c_127 n_127 157 = true := ((Bool.and_eq_true _ _).mp hg_h_126_0).1
theorem hg_h_126_1 : (t_chk [c_36, c_77, c_121, c_122] c_128 n_128 157 && (t_chk [c_36, c_79, c_121, c_122] c_129 n_129 157)) = true := ((Bool.and_eq_true _ _).mp hg_h_126_0).2
theorem k_127 : t_Con c_127 := t_chk_ok h_127 (List.forall_mem_cons.mpr ⟨k_36, List.forall_mem_cons.mpr ⟨k_75, List.forall_mem_cons.mpr ⟨k_121, List.forall_mem_cons.mpr ⟨k_122, (fun _ h => absurd h List.not_mem_nil)⟩⟩⟩⟩)
theorem h_128 : t_chk [c_36, c_77, c_121, c_122] c_128 n_128 157 = true := ((Bool.and_eq_true _ _).mp hg_h_126_1).1
theorem k_128 : t_Con c_128 := t_chk_ok h_128 (List.forall_mem_cons.mpr ⟨k_36, List.forall_mem_cons.mpr ⟨k_77, List.forall_mem_cons.mpr ⟨k_121, List.forall_mem_cons.mpr ⟨k_122, (fun _ h => absurd h List.not_mem_nil)⟩⟩⟩⟩)
theorem h_129 : t_chk [c_36, c_79, c_121, c_122] c_129 n_129 157 = true := ((Bool.and_eq_true _ _).mp hg_h_126_1).2
theorem k_129 : t_Con c_129 := t_chk_ok h_129 (List.forall_mem_cons.mpr ⟨k_36, List.forall_mem_cons.mpr ⟨k_79, List.forall_mem_cons.mpr ⟨k_121, List.forall_mem_cons.mpr ⟨k_122, (fun _ h => absurd h List.not_mem_nil)⟩⟩⟩⟩)
set_option maxRecDepth 1000000 in
theorem hg_h_130 : (t_chk [c_36, c_81, c_121, c_122] c_130 n_130 157 && (t_chk [c_36, c_83, c_121, c_122] c_131 n_131 157 && (t_chk [] c_132 n_132 71 && (t_chk [c_132] c_133 n_133 235)))) = true := by decide +kernel
theorem h_130 : t_chk [c_36, c_81, c_121, c_122] c_130 n_130 157 = true := ((Bool.and_eq_true _ _).mp hg_h_130).1
theorem hg_h_130_0 : (t_chk [c_36, c_83, c_121, c_122] c_131 n_131 157 && (t_chk [] c_132 n_132 71 && (t_chk [c_132] c_133 n_133 235))) = true := ((Bool.and_eq_true _ _).mp hg_h_130).2
theorem k_130 : t_Con c_130 := t_chk_ok h_130 (List.forall_mem_cons.mpr ⟨k_36, List.forall_mem_cons.mpr ⟨k_81, List.forall_mem_cons.mpr ⟨k_121, List.forall_mem_cons.mpr ⟨k_122, (fun _ h => absurd h List.not_mem_nil)⟩⟩⟩⟩)
theorem h_131 : t_chk [c_36, c_83, c_121, c_122] c_131 n_131 157 = true := ((Bool.and_eq_true _ _).mp hg_h_130_0).1
theorem hg_h_130_1 : (t_chk [] c_132 n_132 71 && (t_chk [c_132] c_133 n_133 235)) = true := ((Bool.and_eq_true _ _).mp hg_h_130_0).2
theorem k_131 : t_Con c_131 := t_chk_ok h_131 (List.forall_mem_cons.mpr ⟨k_36, List.forall_mem_cons.mpr ⟨k_83, List.forall_mem_cons.mpr ⟨k_121, List.forall_mem_cons.mpr ⟨k_122, (fun _ h => absurd h List.not_mem_nil)⟩⟩⟩⟩)
theorem h_132 : t_chk [] c_132 n_132 71 = true := ((Bool.and_eq_true _ _).mp hg_h_130_1).1
theorem k_132 : t_Con c_132 := t_chk_ok h_132 ((fun _ h => absurd h List.not_mem_nil))
theorem h_133 : t_chk [c_132] c_133 n_133 235 = true := ((Bool.and_eq_true _ _).mp hg_h_130_1).2
theorem k_133 : t_Con c_133 := t_chk_ok h_133 (List.forall_mem_cons.mpr ⟨k_132, (fun _ h => absurd h List.not_mem_nil)⟩)
set_option maxRecDepth 1000000 in
theorem hg_h_134 : (t_chk [c_133] c_134 n_134 74 && (t_chk [c_134] c_135 n_135 78 && (t_chk [] c_136 n_136 71 && (t_chk [] c_137 n_137 3384)))) = true := by decide +kernel
theorem h_134 : t_chk [c_133] c_134 n_134 74 = true := ((Bool.and_eq_true _ _).mp hg_h_134).1
theorem hg_h_134_0 : (t_chk [c_134] c_135 n_135 78 && (t_chk [] c_136 n_136 71 && (t_chk [] c_137 n_137 3384))) = true := ((Bool.and_eq_true _ _).mp hg_h_134).2
theorem k_134 : t_Con c_134 := t_chk_ok h_134 (List.forall_mem_cons.mpr ⟨k_133, (fun _ h => absurd h List.not_mem_nil)⟩)
theorem h_135 : t_chk [c_134] c_135 n_135 78 = true := ((Bool.and_eq_true _ _).mp hg_h_134_0).1
theorem hg_h_134_1 : (t_chk [] c_136 n_136 71 && (t_chk [] c_137 n_137 3384)) = true := ((Bool.and_eq_true _ _).mp hg_h_134_0).2
theorem k_135 : t_Con c_135 := t_chk_ok h_135 (List.forall_mem_cons.mpr ⟨k_134, (fun _ h => absurd h List.not_mem_nil)⟩)
theorem h_136 : t_chk [] c_136 n_136 71 = true := ((Bool.and_eq_true _ _).mp hg_h_134_1).1
theorem k_136 : t_Con c_136 := t_chk_ok h_136 ((fun _ h => absurd h List.not_mem_nil))
theorem h_137 : t_chk [] c_137 n_137 3384 = true := ((Bool.and_eq_true _ _).mp hg_h_134_1).2
theorem k_137 : t_Con c_137 := t_chk_ok h_137 ((fun _ h => absurd h List.not_mem_nil))
set_option maxRecDepth 1000000 in
theorem hg_h_138 : (t_chk [c_137] c_138 n_138 2109 && (t_chk [c_137] c_139 n_139 2109)) = true := by decide +kernel
theorem h_138 : t_chk [c_137] c_138 n_138 2109 = true := ((Bool.and_eq_true _ _).mp hg_h_138).1
theorem k_138 : t_Con c_138 := t_chk_ok h_138 (List.forall_mem_cons.mpr ⟨k_137, (fun _ h => absurd h List.not_mem_nil)⟩)
theorem h_139 : t_chk [c_137] c_139 n_139 2109 = true := ((Bool.and_eq_true _ _).mp hg_h_138).2
theorem k_139 : t_Con c_139 := t_chk_ok h_139 (List.forall_mem_cons.mpr ⟨k_137, (fun _ h => absurd h List.not_mem_nil)⟩)
