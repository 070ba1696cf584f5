/-! the contracts hold, part 3 -/
set_option maxRecDepth 1000000 in
theorem hg_h_54 : (t_chk [] c_54 n_54 125 && (t_chk [] c_55 n_55 325 && (t_chk [] c_56 n_56 2397 && (t_chk [] c_57 n_57 65)))) = true := by decide +kernel
theorem h_54 : t_chk [] c_54 n_54 125 = true := ((Bool.and_eq_true _ _).mp hg_h_54).1
theorem hg_h_54_0 : (t_chk [] c_55 n_55 325 && (t_chk [] c_56 n_56 2397 && (t_chk [] c_57 n_57 65))) = true := ((Bool.and_eq_true _ _).mp hg_h_54).2
theorem k_54 : t_Con c_54 := t_chk_ok h_54 ((fun _ h => absurd h List.not_mem_nil))
theorem h_55 : t_chk [] c_55 n_55 325 = true := ((Bool.and_eq_true _ _).mp hg_h_54_0).1
theorem hg_h_54_1 : (t_chk [] c_56 n_56 2397 && (t_chk [] c_57 n_57 65)) = true := ((Bool.and_eq_true _ _).mp hg_h_54_0).2
theorem k_55 : t_Con c_55 := t_chk_ok h_55 ((fun _ h => absurd h List.not_mem_nil))
theorem h_56 : t_chk [] c_56 n_56 2397 = true := ((Bool.and_eq_true _ _).mp hg_h_54_1).1
theorem k_56 : t_Con c_56 := t_chk_ok h_56 ((fun _ h => absurd h List.not_mem_nil))
theorem h_57 : t_chk [] c_57 n_57 65 = true := ((Bool.and_eq_true _ _).mp hg_h_54_1).2
theorem k_57 : t_Con c_57 := t_chk_ok h_57 ((fun _ h => absurd h List.not_mem_nil))
set_option maxRecDepth 1000000 in
theorem hg_h_58 : (t_chk [c_56, c_57] c_58 n_58 248 && (t_chk [c_37] c_59 n_59 229 && (t_chk [] c_60 n_60 199 && (t_chk [] c_61 n_61 180)))) = true := by decide +kernel
theorem h_58 : t_chk [c_56, c_57] c_58 n_58 248 = true := ((Bool.and_eq_true _ _).mp hg_h_58).1
theorem hg_h_58_0 : (t_chk [c_37] c_59 n_59 229 && (t_chk [] c_60 n_60 199 && (t_chk [] c_61 n_61 180))) = true := ((Bool.and_eq_true _ _).mp hg_h_58).2
theorem k_58 : t_Con c_58 := t_chk_ok h_58 (List.forall_mem_cons.mpr ⟨k_56, List.forall_mem_cons.mpr ⟨k_57, (fun _ h => absurd h List.not_mem_nil)⟩⟩)
theorem h_59 : t_chk [c_37] c_59 n_59 229 = true := ((Bool.and_eq_true _ _).mp hg_h_58_0).1
theorem hg_h_58_1 : (t_chk [] c_60 n_60 199 && (t_chk [] c_61 n_61 180)) = true := ((Bool.and_eq_true _ _).mp hg_h_58_0).2
theorem k_59 : t_Con c_59 := t_chk_ok h_59 (List.forall_mem_cons.mpr ⟨k_37, (fun _ h => absurd h List.not_mem_nil)⟩)
theorem h_60 : t_chk [] c_60 n_60 199 = true := ((Bool.and_eq_true _ _).mp hg_h_58_1).1
theorem k_60 : t_Con c_60 := t_chk_ok h_60 ((fun _ h => absurd h List.not_mem_nil))
theorem h_61 : t_chk [] c_61 n_61 180 = true := ((Bool.and_eq_true _ _).mp hg_h_58_1).2
theorem k_61 : t_Con c_61 := t_chk_ok h_61 ((fun _ h => absurd h List.not_mem_nil))
set_option maxRecDepth 1000000 in
theorem hg_h_62 : (t_chk [] c_62 n_62 71 && (t_chk [c_62] c_63 n_63 235 && (t_chk [c_63] c_64 n_64 74 && (t_chk [c_64] c_65 n_65 252)))) = true := by decide +kernel
theorem h_62 : t_chk [] c_62 n_62 71 = true := ((Bool.and_eq_true _ _).mp hg_h_62).1
theorem hg_h_62_0 : (t_chk [c_62] c_63 n_63 235 && (t_chk [c_63] c_64 n_64 74 && (t_chk [c_64] c_65 n_65 252))) = true := ((Bool.and_eq_true _ _).mp hg_h_62).2
theorem k_62 : t_Con c_62 := t_chk_ok h_62 ((fun _ h => absurd h List.not_mem_nil))
theorem h_63 : t_chk [c_62] c_63 n_63 235 = true := ((Bool.and_eq_true _ _).mp hg_h_62_0).1
theorem hg_h_62_1 : (t_chk [c_63] c_64 n_64 74 && (t_chk [c_64] c_65 n_65 252)) = true := ((Bool.and_eq_true _ _).mp hg_h_62_0).2
theorem k_63 : t_Con c_63 := t_chk_ok h_63 (List.forall_mem_cons.mpr ⟨k_62, (fun _ h => absurd h List.not_mem_nil)⟩)
theorem h_64 : t_chk [c_63] c_64 n_64 74 = true := ((Bool.and_eq_true _ _).mp hg_h_62_1).1
theorem k_64 : t_Con c_64 := t_chk_ok h_64 (List.forall_mem_cons.mpr ⟨k_63, (fun _ h => absurd h List.not_mem_nil)⟩)
theorem h_65 : t_chk [c_64] c_65 n_65 252 = true := ((Bool.and_eq_true _ _).mp hg_h_62_1).2
theorem k_65 : t_Con c_65 := t_chk_ok h_65 (List.forall_mem_cons.mpr ⟨k_64, (fun _ h => absurd h List.not_mem_nil)⟩)
set_option maxRecDepth 1000000 in
theorem hg_h_66 : (t_chk [] c_66 n_66 4062 && (t_chk [c_66] c_67 n_67 2105 && (t_chk [c_67] c_68 n_68 268 && (t_chk [c_66] c_69 n_69 2105)))) = true := by decide +kernel
theorem h_66 : t_chk [] c_66 n_66 4062 = true := ((Bool.and_eq_true _ _).mp hg_h_66).1
theorem hg_h_66_0 : (t_chk [c_66] c_67 n_67 2105 && (t_chk [c_67] c_68 n_68 268 && (t_chk [c_66] c_69 n_69 2105))) = true := ((Bool.and_eq_true _ _).mp hg_h_66).2
theorem k_66 : t_Con c_66 := t_chk_ok h_66 ((fun _ h => absurd h List.not_mem_nil))
theorem h_67 : t_chk [c_66] c_67 n_67 2105 = true := ((Bool.and_eq_true _ _).mp hg_h_66_0).1
theorem hg_h_66_1 : (t_chk [c_67] c_68 n_68 268 && (t_chk [c_66] c_69 n_69 2105)) = true := ((Bool.and_eq_true _ _).mp hg_h_66_0).2
theorem k_67 : t_Con c_67 := t_chk_ok h_67 (List.forall_mem_cons.mpr ⟨k_66, (fun _ h => absurd h List.not_mem_nil)⟩)
theorem h_68 : t_chk [c_67] c_68 n_68 268 = true := ((Bool.and_eq_true _ _).mp hg_h_66_1).1
theorem k_68 : t_Con c_68 := t_chk_ok h_68 (List.forall_mem_cons.mpr ⟨k_67, (fun _ h => absurd h List.not_mem_nil)⟩)
theorem h_69 : t_chk [c_66] c_69 n_69 2105 = true := ((Bool.and_eq_true _ _).mp hg_h_66_1).2
theorem k_69 : t_Con c_69 := t_chk_ok h_69 (List.forall_mem_cons.mpr ⟨k_66, (fun _ h => absurd h List.not_mem_nil)⟩)
set_option maxRecDepth 1000000 in
theorem hg_h_70 : (t_chk [c_69] c_70 n_70 268 && (t_chk [c_66] c_71 n_71 2105)) = true := by decide +kernel
theorem h_70 : t_chk [c_69] c_70 n_70 268 = true := ((Bool.and_eq_true _ _).mp hg_h_70).1
theorem k_70 : t_Con c_70 := t_chk_ok h_70 (List.forall_mem_cons.mpr ⟨k_69, (fun _ h => absurd h List.not_mem_nil)⟩)
theorem h_71 : t_chk [c_66] c_71 n_71 2105 = true := ((Bool.and_eq_true _ _).mp hg_h_70).2
theorem k_71 : t_Con c_71 := t_chk_ok h_71 (List.forall_mem_cons.mpr ⟨k_66, (fun _ h => absurd h List.not_mem_nil)⟩)
