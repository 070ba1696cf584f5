/-! the contracts hold, part 5 -/
set_option maxRecDepth 1000000 in
theorem h_90 : t_chk [c_89] c_90 n_90 268 = true := by decide +kernel
theorem k_90 : t_Con c_90 := t_chk_ok h_90 (List.forall_mem_cons.mpr ⟨k_89, (fun _ h => absurd h List.not_mem_nil)⟩)
set_option maxRecDepth 1000000 in
theorem h_91 : t_chk [c_70] c_91 n_91 255 = true := by decide +kernel
theorem k_91 : t_Con c_91 := t_chk_ok h_91 (List.forall_mem_cons.mpr ⟨k_70, (fun _ h => absurd h List.not_mem_nil)⟩)
set_option maxRecDepth 1000000 in
theorem h_92 : t_chk [c_73] c_92 n_92 238 = true := by decide +kernel
theorem k_92 : t_Con c_92 := t_chk_ok h_92 (List.forall_mem_cons.mpr ⟨k_73, (fun _ h => absurd h List.not_mem_nil)⟩)
set_option maxRecDepth 1000000 in
theorem h_93 : t_chk [c_75] c_93 n_93 238 = true := by decide +kernel
theorem k_93 : t_Con c_93 := t_chk_ok h_93 (List.forall_mem_cons.mpr ⟨k_75, (fun _ h => absurd h List.not_mem_nil)⟩)
set_option maxRecDepth 1000000 in
theorem h_94 : t_chk [c_77] c_94 n_94 238 = true := by decide +kernel
theorem k_94 : t_Con c_94 := t_chk_ok h_94 (List.forall_mem_cons.mpr ⟨k_77, (fun _ h => absurd h List.not_mem_nil)⟩)
set_option maxRecDepth 1000000 in
theorem h_95 : t_chk [c_79] c_95 n_95 238 = true := by decide +kernel
theorem k_95 : t_Con c_95 := t_chk_ok h_95 (List.forall_mem_cons.mpr ⟨k_79, (fun _ h => absurd h List.not_mem_nil)⟩)
set_option maxRecDepth 1000000 in
theorem h_96 : t_chk [c_81] c_96 n_96 238 = true := by decide +kernel
theorem k_96 : t_Con c_96 := t_chk_ok h_96 (List.forall_mem_cons.mpr ⟨k_81, (fun _ h => absurd h List.not_mem_nil)⟩)
set_option maxRecDepth 1000000 in
theorem h_97 : t_chk [c_83] c_97 n_97 238 = true := by decide +kernel
theorem k_97 : t_Con c_97 := t_chk_ok h_97 (List.forall_mem_cons.mpr ⟨k_83, (fun _ h => absurd h List.not_mem_nil)⟩)
set_option maxRecDepth 1000000 in
theorem h_98 : t_chk [c_85] c_98 n_98 238 = true := by decide +kernel
theorem k_98 : t_Con c_98 := t_chk_ok h_98 (List.forall_mem_cons.mpr ⟨k_85, (fun _ h => absurd h List.not_mem_nil)⟩)
set_option maxRecDepth 1000000 in
theorem h_99 : t_chk [c_87] c_99 n_99 238 = true := by decide +kernel
theorem k_99 : t_Con c_99 := t_chk_ok h_99 (List.forall_mem_cons.mpr ⟨k_87, (fun _ h => absurd h List.not_mem_nil)⟩)
set_option maxRecDepth 1000000 in
theorem h_100 : t_chk [c_89] c_100 n_100 238 = true := by decide +kernel
theorem k_100 : t_Con c_100 := t_chk_ok h_100 (List.forall_mem_cons.mpr ⟨k_89, (fun _ h => absurd h List.not_mem_nil)⟩)
set_option maxRecDepth 1000000 in
theorem h_101 : t_chk [] c_101 n_101 78 = true := by decide +kernel
theorem k_101 : t_Con c_101 := t_chk_ok h_101 ((fun _ h => absurd h List.not_mem_nil))
set_option maxRecDepth 1000000 in
theorem h_102 : t_chk [c_101] c_102 n_102 77 = true := by decide +kernel
theorem k_102 : t_Con c_102 := t_chk_ok h_102 (List.forall_mem_cons.mpr ⟨k_101, (fun _ h => absurd h List.not_mem_nil)⟩)
set_option maxRecDepth 1000000 in
theorem h_103 : t_chk [] c_103 n_103 70 = true := by decide +kernel
theorem k_103 : t_Con c_103 := t_chk_ok h_103 ((fun _ h => absurd h List.not_mem_nil))
set_option maxRecDepth 1000000 in
theorem h_104 : t_chk [c_103] c_104 n_104 74 = true := by decide +kernel
theorem k_104 : t_Con c_104 := t_chk_ok h_104 (List.forall_mem_cons.mpr ⟨k_103, (fun _ h => absurd h List.not_mem_nil)⟩)
set_option maxRecDepth 1000000 in
theorem h_105 : t_chk [c_102, c_103, c_104] c_105 n_105 83 = true := by decide +kernel
theorem k_105 : t_Con c_105 := t_chk_ok h_105 (List.forall_mem_cons.mpr ⟨k_102, List.forall_mem_cons.mpr ⟨k_103, List.forall_mem_cons.mpr ⟨k_104, (fun _ h => absurd h List.not_mem_nil)⟩⟩⟩)
set_option maxRecDepth 1000000 in
theorem h_106 : t_chk [c_70, c_105] c_106 n_106 491 = true := by decide +kernel
theorem k_106 : t_Con c_106 := t_chk_ok h_106 (List.forall_mem_cons.mpr ⟨k_70, List.forall_mem_cons.mpr ⟨k_105, (fun _ h => absurd h List.not_mem_nil)⟩⟩)
set_option maxRecDepth 1000000 in
theorem h_107 : t_chk [c_48, c_73] c_107 n_107 737 = true := by decide +kernel
theorem k_107 : t_Con c_107 := t_chk_ok h_107 (List.forall_mem_cons.mpr ⟨k_48, List.forall_mem_cons.mpr ⟨k_73, (fun _ h => absurd h List.not_mem_nil)⟩⟩)
set_option maxRecDepth 1000000 in
theorem h_108 : t_chk [c_48, c_75] c_108 n_108 737 = true := by decide +kernel
theorem k_108 : t_Con c_108 := t_chk_ok h_108 (List.forall_mem_cons.mpr ⟨k_48, List.forall_mem_cons.mpr ⟨k_75, (fun _ h => absurd h List.not_mem_nil)⟩⟩)
set_option maxRecDepth 1000000 in
theorem h_109 : t_chk [c_48, c_77] c_109 n_109 737 = true := by decide +kernel
theorem k_109 : t_Con c_109 := t_chk_ok h_109 (List.forall_mem_cons.mpr ⟨k_48, List.forall_mem_cons.mpr ⟨k_77, (fun _ h => absurd h List.not_mem_nil)⟩⟩)
set_option maxRecDepth 1000000 in
theorem h_110 : t_chk [c_48, c_79] c_110 n_110 737 = true := by decide +kernel
theorem k_110 : t_Con c_110 := t_chk_ok h_110 (List.forall_mem_cons.mpr ⟨k_48, List.forall_mem_cons.mpr ⟨k_79, (fun _ h => absurd h List.not_mem_nil)⟩⟩)
set_option maxRecDepth 1000000 in
theorem h_111 : t_chk [c_48, c_81] c_111 n_111 737 = true := by decide +kernel
theorem k_111 : t_Con c_111 := t_chk_ok h_111 (List.forall_mem_cons.mpr ⟨k_48, List.forall_mem_cons.mpr ⟨k_81, (fun _ h => absurd h List.not_mem_nil)⟩⟩)
set_option maxRecDepth 1000000 in
theorem h_112 : t_chk [c_48, c_83] c_112 n_112 737 = true := by decide +kernel
theorem k_112 : t_Con c_112 := t_chk_ok h_112 (List.forall_mem_cons.mpr ⟨k_48, List.forall_mem_cons.mpr ⟨k_83, (fun _ h => absurd h List.not_mem_nil)⟩⟩)
set_option maxRecDepth 1000000 in
theorem h_113 : t_chk [c_48, c_85] c_113 n_113 737 = true := by decide +kernel
theorem k_113 : t_Con c_113 := t_chk_ok h_113 (List.forall_mem_cons.mpr ⟨k_48, List.forall_mem_cons.mpr ⟨k_85, (fun _ h => absurd h List.not_mem_nil)⟩⟩)
set_option maxRecDepth 1000000 in
theorem h_114 : t_chk [c_48, c_87] c_114 n_114 737 = true := by decide +kernel
theorem k_114 : t_Con c_114 := t_chk_ok h_114 (List.forall_mem_cons.mpr ⟨k_48, List.forall_mem_cons.mpr ⟨k_87, (fun _ h => absurd h List.not_mem_nil)⟩⟩)
set_option maxRecDepth 1000000 in
theorem h_115 : t_chk [c_48, c_89] c_115 n_115 737 = true := by decide +kernel
theorem k_115 : t_Con c_115 := t_chk_ok h_115 (List.forall_mem_cons.mpr ⟨k_48, List.forall_mem_cons.mpr ⟨k_89, (fun _ h => absurd h List.not_mem_nil)⟩⟩)
set_option maxRecDepth 1000000 in
theorem h_116 : t_chk [c_57] c_116 n_116 83 = true := by decide +kernel
theorem k_116 : t_Con c_116 := t_chk_ok h_116 (List.forall_mem_cons.mpr ⟨k_57, (fun _ h => absurd h List.not_mem_nil)⟩)
set_option maxRecDepth 1000000 in
theorem h_117 : t_chk [] c_117 n_117 88 = true := by decide +kernel
theorem k_117 : t_Con c_117 := t_chk_ok h_117 ((fun _ h => absurd h List.not_mem_nil))
set_option maxRecDepth 1000000 in
theorem h_118 : t_chk [c_57] c_118 n_118 83 = true := by decide +kernel
theorem k_118 : t_Con c_118 := t_chk_ok h_118 (List.forall_mem_cons.mpr ⟨k_57, (fun _ h => absurd h List.not_mem_nil)⟩)
set_option maxRecDepth 1000000 in
theorem h_119 : t_chk [c_57] c_119 n_119 83 = true := by decide +kernel
theorem k_119 : t_Con c_119 := t_chk_ok h_119 (List.forall_mem_cons.mpr ⟨k_57, (fun _ h => absurd h List.not_mem_nil)⟩)
