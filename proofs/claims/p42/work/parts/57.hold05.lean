/-! the contracts hold, part 5 -/
set_option maxRecDepth 1000000 in
theorem hg_h_84 : (t_chk [c_83] c_84 n_84 268 && (t_chk [c_64] c_85 n_85 255 && (t_chk [c_67] c_86 n_86 238 && (t_chk [c_69] c_87 n_87 238)))) = true := by decide +kernel
theorem h_84 : t_chk [c_83] c_84 n_84 268 = true := ((Bool.and_eq_true _ _).mp hg_h_84).1
theorem hg_h_84_0 : (t_chk [c_64] c_85 n_85 255 && (t_chk [c_67] c_86 n_86 238 && (t_chk [c_69] c_87 n_87 238))) = true := ((Bool.and_eq_true _ _).mp hg_h_84).2
theorem k_84 : t_Con c_84 := t_chk_ok h_84 (List.forall_mem_cons.mpr ⟨k_83, (fun _ h => absurd h List.not_mem_nil)⟩)
theorem h_85 : t_chk [c_64] c_85 n_85 255 = true := ((Bool.and_eq_true _ _).mp hg_h_84_0).1
theorem hg_h_84_1 : (t_chk [c_67] c_86 n_86 238 && (t_chk [c_69] c_87 n_87 238)) = true := ((Bool.and_eq_true _ _).mp hg_h_84_0).2
theorem k_85 : t_Con c_85 := t_chk_ok h_85 (List.forall_mem_cons.mpr ⟨k_64, (fun _ h => absurd h List.not_mem_nil)⟩)
theorem h_86 : t_chk [c_67] c_86 n_86 238 = true := ((Bool.and_eq_true _ _).mp hg_h_84_1).1
theorem k_86 : t_Con c_86 := t_chk_ok h_86 (List.forall_mem_cons.mpr ⟨k_67, (fun _ h => absurd h List.not_mem_nil)⟩)
theorem h_87 : t_chk [c_69] c_87 n_87 238 = true := ((Bool.and_eq_true _ _).mp hg_h_84_1).2
theorem k_87 : t_Con c_87 := t_chk_ok h_87 (List.forall_mem_cons.mpr ⟨k_69, (fun _ h => absurd h List.not_mem_nil)⟩)
set_option maxRecDepth 1000000 in
theorem hg_h_88 : (t_chk [c_71] c_88 n_88 238 && (t_chk [c_73] c_89 n_89 238 && (t_chk [c_75] c_90 n_90 238 && (t_chk [c_77] c_91 n_91 238)))) = true := by decide +kernel
theorem h_88 : t_chk [c_71] c_88 n_88 238 = true := ((Bool.and_eq_true _ _).mp hg_h_88).1
theorem hg_h_88_0 : (t_chk [c_73] c_89 n_89 238 && (t_chk [c_75] c_90 n_90 238 && (t_chk [c_77] c_91 n_91 238))) = true := ((Bool.and_eq_true _ _).mp hg_h_88).2
theorem k_88 : t_Con c_88 := t_chk_ok h_88 (List.forall_mem_cons.mpr ⟨k_71, (fun _ h => absurd h List.not_mem_nil)⟩)
theorem h_89 : t_chk [c_73] c_89 n_89 238 = true := ((Bool.and_eq_true _ _).mp hg_h_88_0).1
theorem hg_h_88_1 : (t_chk [c_75] c_90 n_90 238 && (t_chk [c_77] c_91 n_91 238)) = true := ((Bool.and_eq_true _ _).mp hg_h_88_0).2
theorem k_89 : t_Con c_89 := t_chk_ok h_89 (List.forall_mem_cons.mpr ⟨k_73, (fun _ h => absurd h List.not_mem_nil)⟩)
theorem h_90 : t_chk [c_75] c_90 n_90 238 = true := ((Bool.and_eq_true _ _).mp hg_h_88_1).1
theorem k_90 : t_Con c_90 := t_chk_ok h_90 (List.forall_mem_cons.mpr ⟨k_75, (fun _ h => absurd h List.not_mem_nil)⟩)
theorem h_91 : t_chk [c_77] c_91 n_91 238 = true := ((Bool.and_eq_true _ _).mp hg_h_88_1).2
theorem k_91 : t_Con c_91 := t_chk_ok h_91 (List.forall_mem_cons.mpr ⟨k_77, (fun _ h => absurd h List.not_mem_nil)⟩)
set_option maxRecDepth 1000000 in
theorem hg_h_92 : (t_chk [c_79] c_92 n_92 238 && (t_chk [c_81] c_93 n_93 238 && (t_chk [c_83] c_94 n_94 238 && (t_chk [] c_95 n_95 78)))) = true := by decide +kernel
theorem h_92 : t_chk [c_79] c_92 n_92 238 = true := ((Bool.and_eq_true _ _).mp hg_h_92).1
theorem hg_h_92_0 : (t_chk [c_81] c_93 n_93 238 && (t_chk [c_83] c_94 n_94 238 && (t_chk [] c_95 n_95 78))) = true := ((Bool.and_eq_true _ _).mp hg_h_92).2
theorem k_92 : t_Con c_92 := t_chk_ok h_92 (List.forall_mem_cons.mpr ⟨k_79, (fun _ h => absurd h List.not_mem_nil)⟩)
theorem h_93 : t_chk [c_81] c_93 n_93 238 = true := ((Bool.and_eq_true _ _).mp hg_h_92_0).1
theorem hg_h_92_1 : (t_chk [c_83] c_94 n_94 238 && (t_chk [] c_95 n_95 78)) = true := ((Bool.and_eq_true _ _).mp hg_h_92_0).2
theorem k_93 : t_Con c_93 := t_chk_ok h_93 (List.forall_mem_cons.mpr ⟨k_81, (fun _ h => absurd h List.not_mem_nil)⟩)
theorem h_94 : t_chk [c_83] c_94 n_94 238 = true := ((Bool.and_eq_true _ _).mp hg_h_92_1).1
theorem k_94 : t_Con c_94 := t_chk_ok h_94 (List.forall_mem_cons.mpr ⟨k_83, (fun _ h => absurd h List.not_mem_nil)⟩)
theorem h_95 : t_chk [] c_95 n_95 78 = true := ((Bool.and_eq_true _ _).mp hg_h_92_1).2
theorem k_95 : t_Con c_95 := t_chk_ok h_95 ((fun _ h => absurd h List.not_mem_nil))
set_option maxRecDepth 1000000 in
theorem hg_h_96 : (t_chk [c_95] c_96 n_96 77 && (t_chk [] c_97 n_97 70 && (t_chk [c_97] c_98 n_98 74 && (t_chk [c_96, c_97, c_98] c_99 n_99 83)))) = true := by decide +kernel
theorem h_96 : t_chk [c_95] c_96 n_96 77 = true := ((Bool.and_eq_true _ _).mp hg_h_96).1
theorem hg_h_96_0 : (t_chk [] c_97 n_97 70 && (t_chk [c_97] c_98 n_98 74 && (t_chk [c_96, c_97, c_98] c_99 n_99 83))) = true := ((Bool.and_eq_true _ _).mp hg_h_96).2
theorem k_96 : t_Con c_96 := t_chk_ok h_96 (List.forall_mem_cons.mpr ⟨k_95, (fun _ h => absurd h List.not_mem_nil)⟩)
theorem h_97 : t_chk [] c_97 n_97 70 = true := ((Bool.and_eq_true _ _).mp hg_h_96_0).1
theorem hg_h_96_1 : (t_chk [c_97] c_98 n_98 74 && (t_chk [c_96, c_97, c_98] c_99 n_99 83)) = true := ((Bool.and_eq_true _ _).mp hg_h_96_0).2
theorem k_97 : t_Con c_97 := t_chk_ok h_97 ((fun _ h => absurd h List.not_mem_nil))
theorem h_98 : t_chk [c_97] c_98 n_98 74 = true := ((Bool.and_eq_true _ _).mp hg_h_96_1).1
theorem k_98 : t_Con c_98 := t_chk_ok h_98 (List.forall_mem_cons.mpr ⟨k_97, (fun _ h => absurd h List.not_mem_nil)⟩)
theorem h_99 : t_chk [c_96, c_97, c_98] c_99 n_99 83 = true := ((Bool.and_eq_true _ _).mp hg_h_96_1).2
theorem k_99 : t_Con c_99 := t_chk_ok h_99 (List.forall_mem_cons.mpr ⟨k_96, List.forall_mem_cons.mpr ⟨k_97, List.forall_mem_cons.mpr ⟨k_98, (fun _ h => absurd h List.not_mem_nil)⟩⟩⟩)
set_option maxRecDepth 1000000 in
theorem hg_h_100 : (t_chk [c_64, c_99] c_100 n_100 491 && (t_chk [c_42, c_67] c_101 n_101 737 && (t_chk [c_42, c_69] c_102 n_102 737 && (t_chk [c_42, c_71] c_103 n_103 737)))) = true := by decide +kernel
theorem h_100 : t_chk [c_64, c_99] c_100 n_100 491 = true := ((Bool.and_eq_true _ _).mp hg_h_100).1
theorem hg_h_100_0 : (t_chk [c_42, c_67] c_101 n_101 737 && (t_chk [c_42, c_69] c_102 n_102 737 && (t_chk [c_42, c_71] c_103 n_103 737))) = true := ((Bool.and_eq_true _ _).mp hg_h_100).2
theorem k_100 : t_Con c_100 := t_chk_ok h_100 (List.forall_mem_cons.mpr ⟨k_64, List.forall_mem_cons.mpr ⟨k_99, (fun _ h => absurd h List.not_mem_nil)⟩⟩)
theorem h_101 : t_chk [c_42, c_67] c_101 n_101 737 = true := ((Bool.and_eq_true _ _).mp hg_h_100_0).1
theorem hg_h_100_1 : (t_chk [c_42, c_69] c_102 n_102 737 && (t_chk [c_42, c_71] c_103 n_103 737)) = true := ((Bool.and_eq_true _ _).mp hg_h_100_0).2
theorem k_101 : t_Con c_101 := t_chk_ok h_101 (List.forall_mem_cons.mpr ⟨k_42, List.forall_mem_cons.mpr ⟨k_67, (fun _ h => absurd h List.not_mem_nil)⟩⟩)
theorem h_102 : t_chk [c_42, c_69] c_102 n_102 737 = true := ((Bool.and_eq_true _ _).mp hg_h_100_1).1
theorem k_102 : t_Con c_102 := t_chk_ok h_102 (List.forall_mem_cons.mpr ⟨k_42, List.forall_mem_cons.mpr ⟨k_69, (fun _ h => absurd h List.not_mem_nil)⟩⟩)
theorem h_103 : t_chk [c_42, c_71] c_103 n_103 737 = true := ((Bool.and_eq_true _ _).mp hg_h_100_1).2
theorem k_103 : t_Con c_103 := t_chk_ok h_103 (List.forall_mem_cons.mpr ⟨k_42, List.forall_mem_cons.mpr ⟨k_71, (fun _ h => absurd h List.not_mem_nil)⟩⟩)
set_option maxRecDepth 1000000 in
theorem hg_h_104 : (t_chk [c_42, c_73] c_104 n_104 737 && (t_chk [c_42, c_75] c_105 n_105 737 && (t_chk [c_42, c_77] c_106 n_106 737 && (t_chk [c_42, c_79] c_107 n_107 737)))) = true := by decide +kernel
theorem h_104 : t_chk [c_42, c_73] c_104 n_104 737 = true := ((Bool.and_eq_true _ _).mp hg_h_104).1
theorem hg_h_104_0 : (t_chk [c_42, c_75] c_105 n_105 737 && (t_chk [c_42, c_77] c_106 n_106 737 && (t_chk [c_42, c_79] c_107 n_107 737))) = true := ((Bool.and_eq_true _ _).mp hg_h_104).2
theorem k_104 : t_Con c_104 := t_chk_ok h_104 (List.forall_mem_cons.mpr ⟨k_42, List.forall_mem_cons.mpr ⟨k_73, (fun _ h => absurd h List.not_mem_nil)⟩⟩)
theorem h_105 : t_chk [c_42, c_75] c_105 n_105 737 = true := ((Bool.and_eq_true _ _).mp hg_h_104_0).1
theorem hg_h_104_1 : (t_chk [c_42, c_77] c_106 n_106 737 && (t_chk [c_42, c_79] c_107 n_107 737)) = true := ((Bool.and_eq_true _ _).mp hg_h_104_0).2
theorem k_105 : t_Con c_105 := t_chk_ok h_105 (List.forall_mem_cons.mpr ⟨k_42, List.forall_mem_cons.mpr ⟨k_75, (fun _ h => absurd h List.not_mem_nil)⟩⟩)
theorem h_106 : t_chk [c_42, c_77] c_106 n_106 737 = true := ((Bool.and_eq_true _ _).mp hg_h_104_1).1
theorem k_106 : t_Con c_106 := t_chk_ok h_106 (List.forall_mem_cons.mpr ⟨k_42, List.forall_mem_cons.mpr ⟨k_77, (fun _ h => absurd h List.not_mem_nil)⟩⟩)
theorem h_107 : t_chk [c_42, c_79] c_107 n_107 737 = true := ((Bool.and_eq_true _ _).mp hg_h_104_1).2
theorem k_107 : t_Con c_107 := t_chk_ok h_107 (List.forall_mem_cons.mpr ⟨k_42, List.forall_mem_cons.mpr ⟨k_79, (fun _ h => absurd h List.not_mem_nil)⟩⟩)
set_option maxRecDepth 1000000 in
theorem hg_h_108 : (t_chk [c_42, c_81] c_108 n_108 737 && (t_chk [c_42, c_83] c_109 n_109 737 && (t_chk [c_51] c_110 n_110 83 && (t_chk [] c_111 n_111 88)))) = true := by decide +kernel
theorem h_108 : t_chk [c_42, c_81] c_108 n_108 737 = true := ((Bool.and_eq_true _ _).mp hg_h_108).1
theorem hg_h_108_0 : (t_chk [c_42, c_83] c_109 n_109 737 && (t_chk [c_51] c_110 n_110 83 && (t_chk [] c_111 n_111 88))) = true := ((Bool.and_eq_true _ _).mp hg_h_108).2
theorem k_108 : t_Con c_108 := t_chk_ok h_108 (List.forall_mem_cons.mpr ⟨k_42, List.forall_mem_cons.mpr ⟨k_81, (fun _ h => absurd h List.not_mem_nil)⟩⟩)
theorem h_109 : t_chk [c_42, c_83] c_109 n_109 737 = true := ((Bool.and_eq_true _ _).mp hg_h_108_0).1
theorem hg_h_108_1 : (t_chk [c_51] c_110 n_110 83 && (t_chk [] c_111 n_111 88)) = true := ((Bool.and_eq_true _ _).mp hg_h_108_0).2
theorem k_109 : t_Con c_109 := t_chk_ok h_109 (List.forall_mem_cons.mpr ⟨k_42, List.forall_mem_cons.mpr ⟨k_83, (fun _ h => absurd h List.not_mem_nil)⟩⟩)
theorem h_110 : t_chk [c_51] c_110 n_110 83 = true := ((Bool.and_eq_true _ _).mp hg_h_108_1).1
theorem k_110 : t_Con c_110 := t_chk_ok h_110 (List.forall_mem_cons.mpr ⟨k_51, (fun _ h => absurd h List.not_mem_nil)⟩)
theorem h_111 : t_chk [] c_111 n_111 88 = true := ((Bool.and_eq_true _ _).mp hg_h_108_1).2
theorem k_111 : t_Con c_111 := t_chk_ok h_111 ((fun _ h => absurd h List.not_mem_nil))
set_option maxRecDepth 1000000 in
theorem hg_h_112 : (t_chk [c_51] c_112 n_112 83 && (t_chk [c_51] c_113 n_113 83)) = true := by decide +kernel
theorem h_112 : t_chk [c_51] c_112 n_112 83 = true := ((Bool.and_eq_true _ _).mp hg_h_112).1
theorem k_112 : t_Con c_112 := t_chk_ok h_112 (List.forall_mem_cons.mpr ⟨k_51, (fun _ h => absurd h List.not_mem_nil)⟩)
theorem h_113 : t_chk [c_51] c_113 n_113 83 = true := ((Bool.and_eq_true _ _).mp hg_h_112).2
theorem k_113 : t_Con c_113 := t_chk_ok h_113 (List.forall_mem_cons.mpr ⟨k_51, (fun _ h => absurd h List.not_mem_nil)⟩)
