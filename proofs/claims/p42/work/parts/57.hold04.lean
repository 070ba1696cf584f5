/-! the contracts hold, part 4 -/
set_option maxRecDepth 1000000 in
theorem hg_h_72 : (t_chk [c_71] c_72 n_72 268 && (t_chk [c_66] c_73 n_73 2105 && (t_chk [c_73] c_74 n_74 268 && (t_chk [c_66] c_75 n_75 2105)))) = true := by decide +kernel
theorem h_72 : t_chk [c_71] c_72 n_72 268 = true := ((Bool.and_eq_true _ _).mp hg_h_72).1
theorem hg_h_72_0 : (t_chk [c_66] c_73 n_73 2105 && (t_chk [c_73] c_74 n_74 268 && (t_chk [c_66] c_75 n_75 2105))) = true := ((Bool.and_eq_true _ _).mp hg_h_72).2
theorem k_72 : t_Con c_72 := t_chk_ok h_72 (List.forall_mem_cons.mpr ⟨k_71, (fun _ h => absurd h List.not_mem_nil)⟩)
theorem h_73 : t_chk [c_66] c_73 n_73 2105 = true := ((Bool.and_eq_true _ _).mp hg_h_72_0).1
theorem hg_h_72_1 : (t_chk [c_73] c_74 n_74 268 && (t_chk [c_66] c_75 n_75 2105)) = true := ((Bool.and_eq_true _ _).mp hg_h_72_0).2
theorem k_73 : t_Con c_73 := t_chk_ok h_73 (List.forall_mem_cons.mpr ⟨k_66, (fun _ h => absurd h List.not_mem_nil)⟩)
theorem h_74 : t_chk [c_73] c_74 n_74 268 = true := ((Bool.and_eq_true _ _).mp hg_h_72_1).1
theorem k_74 : t_Con c_74 := t_chk_ok h_74 (List.forall_mem_cons.mpr ⟨k_73, (fun _ h => absurd h List.not_mem_nil)⟩)
theorem h_75 : t_chk [c_66] c_75 n_75 2105 = true := ((Bool.and_eq_true _ _).mp hg_h_72_1).2
theorem k_75 : t_Con c_75 := t_chk_ok h_75 (List.forall_mem_cons.mpr ⟨k_66, (fun _ h => absurd h List.not_mem_nil)⟩)
set_option maxRecDepth 1000000 in
theorem hg_h_76 : (t_chk [c_75] c_76 n_76 268 && (t_chk [c_66] c_77 n_77 2105 && (t_chk [c_77] c_78 n_78 268 && (t_chk [c_66] c_79 n_79 2105)))) = true := by decide +kernel
theorem h_76 : t_chk [c_75] c_76 n_76 268 = true := ((Bool.and_eq_true _ _).mp hg_h_76).1
theorem hg_h_76_0 : (t_chk [c_66] c_77 n_77 2105 && (t_chk [c_77] c_78 n_78 268 && (t_chk [c_66] c_79 n_79 2105))) = true := ((Bool.and_eq_true _ _).mp hg_h_76).2
theorem k_76 : t_Con c_76 := t_chk_ok h_76 (List.forall_mem_cons.mpr ⟨k_75, (fun _ h => absurd h List.not_mem_nil)⟩)
theorem h_77 : t_chk [c_66] c_77 n_77 2105 = true := ((Bool.and_eq_true _ _).mp hg_h_76_0).1
theorem hg_h_76_1 : (t_chk [c_77] c_78 n_78 268 && (t_chk [c_66] c_79 n_79 2105)) = true := ((Bool.and_eq_true _ _).mp hg_h_76_0).2
theorem k_77 : t_Con c_77 := t_chk_ok h_77 (List.forall_mem_cons.mpr ⟨k_66, (fun _ h => absurd h List.not_mem_nil)⟩)
theorem h_78 : t_chk [c_77] c_78 n_78 268 = true := ((Bool.and_eq_true _ _).mp hg_h_76_1).1
theorem k_78 : t_Con c_78 := t_chk_ok h_78 (List.forall_mem_cons.mpr ⟨k_77, (fun _ h => absurd h List.not_mem_nil)⟩)
theorem h_79 : t_chk [c_66] c_79 n_79 2105 = true := ((Bool.and_eq_true _ _).mp hg_h_76_1).2
theorem k_79 : t_Con c_79 := t_chk_ok h_79 (List.forall_mem_cons.mpr ⟨k_66, (fun _ h => absurd h List.not_mem_nil)⟩)
set_option maxRecDepth 1000000 in
theorem hg_h_80 : (t_chk [c_79] c_80 n_80 268 && (t_chk [c_66] c_81 n_81 2105 && (t_chk [c_81] c_82 n_82 268 && (t_chk [c_66] c_83 n_83 13981)))) = true := by decide +kernel
theorem h_80 : t_chk [c_79] c_80 n_80 268 = true := ((Bool.and_eq_true _ _).mp hg_h_80).1
theorem hg_h_80_0 : (t_chk [c_66] c_81 n_81 2105 && (t_chk [c_81] c_82 n_82 268 && (t_chk [c_66] c_83 n_83 13981))) = true := ((Bool.and_eq_true _ _).mp hg_h_80).2
theorem k_80 : t_Con c_80 := t_chk_ok h_80 (List.forall_mem_cons.mpr ⟨k_79, (fun _ h => absurd h List.not_mem_nil)⟩)
theorem h_81 : t_chk [c_66] c_81 n_81 2105 = true := ((Bool.and_eq_true _ _).mp hg_h_80_0).1
theorem hg_h_80_1 : (t_chk [c_81] c_82 n_82 268 && (t_chk [c_66] c_83 n_83 13981)) = true := ((Bool.and_eq_true _ _).mp hg_h_80_0).2
theorem k_81 : t_Con c_81 := t_chk_ok h_81 (List.forall_mem_cons.mpr ⟨k_66, (fun _ h => absurd h List.not_mem_nil)⟩)
theorem h_82 : t_chk [c_81] c_82 n_82 268 = true := ((Bool.and_eq_true _ _).mp hg_h_80_1).1
theorem k_82 : t_Con c_82 := t_chk_ok h_82 (List.forall_mem_cons.mpr ⟨k_81, (fun _ h => absurd h List.not_mem_nil)⟩)
theorem h_83 : t_chk [c_66] c_83 n_83 13981 = true := ((Bool.and_eq_true _ _).mp hg_h_80_1).2
theorem k_83 : t_Con c_83 := t_chk_ok h_83 (List.forall_mem_cons.mpr ⟨k_66, (fun _ h => absurd h List.not_mem_nil)⟩)
