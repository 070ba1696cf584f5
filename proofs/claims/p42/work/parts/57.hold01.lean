/-! the contracts hold, part 1 -/
set_option maxRecDepth 1000000 in
theorem hg_h_1 : (t_chk [] c_1 n_1 135 && (t_chk [] c_2 n_2 122 && (t_chk [] c_3 n_3 66 && (t_chk [c_3] c_4 n_4 56)))) = true := by decide +kernel
theorem h_1 : t_chk [] c_1 n_1 135 = true := ((Bool.and_eq_true _ _).mp hg_h_1).1
theorem hg_h_1_0 : (t_chk [] c_2 n_2 122 && (t_chk [] c_3 n_3 66 && (t_chk [c_3] c_4 n_4 56))) = true := ((Bool.and_eq_true _ _).mp hg_h_1).2
theorem k_1 : t_Con c_1 := t_chk_ok h_1 ((fun _ h => absurd h List.not_mem_nil))
theorem h_2 : t_chk [] c_2 n_2 122 = true := ((Bool.and_eq_true _ _).mp hg_h_1_0).1
theorem hg_h_1_1 : (t_chk [] c_3 n_3 66 && (t_chk [c_3] c_4 n_4 56)) = true := ((Bool.and_eq_true _ _).mp hg_h_1_0).2
theorem k_2 : t_Con c_2 := t_chk_ok h_2 ((fun _ h => absurd h List.not_mem_nil))
theorem h_3 : t_chk [] c_3 n_3 66 = true := ((Bool.and_eq_true _ _).mp hg_h_1_1).1
theorem k_3 : t_Con c_3 := t_chk_ok h_3 ((fun _ h => absurd h List.not_mem_nil))
theorem h_4 : t_chk [c_3] c_4 n_4 56 = true := ((Bool.and_eq_true _ _).mp hg_h_1_1).2
theorem k_4 : t_Con c_4 := t_chk_ok h_4 (List.forall_mem_cons.mpr ⟨k_3, (fun _ h => absurd h List.not_mem_nil)⟩)
set_option maxRecDepth 1000000 in
theorem hg_h_5 : (t_chk [c_3, c_4] c_5 n_5 725 && (t_chk [] c_6 n_6 71 && (t_chk [c_6] c_7 n_7 235 && (t_chk [] c_8 n_8 71)))) = true := by decide +kernel
theorem h_5 : t_chk [c_3, c_4] c_5 n_5 725 = true := ((Bool.and_eq_true _ _).mp hg_h_5).1
theorem hg_h_5_0 : (t_chk [] c_6 n_6 71 && (t_chk [c_6] c_7 n_7 235 && (t_chk [] c_8 n_8 71))) = true := ((Bool.and_eq_true _ _).mp hg_h_5).2
theorem k_5 : t_Con c_5 := t_chk_ok h_5 (List.forall_mem_cons.mpr ⟨k_3, List.forall_mem_cons.mpr ⟨k_4, (fun _ h => absurd h List.not_mem_nil)⟩⟩)
theorem h_6 : t_chk [] c_6 n_6 71 = true := ((Bool.and_eq_true _ _).mp hg_h_5_0).1
theorem hg_h_5_1 : (t_chk [c_6] c_7 n_7 235 && (t_chk [] c_8 n_8 71)) = true := ((Bool.and_eq_true _ _).mp hg_h_5_0).2
theorem k_6 : t_Con c_6 := t_chk_ok h_6 ((fun _ h => absurd h List.not_mem_nil))
theorem h_7 : t_chk [c_6] c_7 n_7 235 = true := ((Bool.and_eq_true _ _).mp hg_h_5_1).1
theorem k_7 : t_Con c_7 := t_chk_ok h_7 (List.forall_mem_cons.mpr ⟨k_6, (fun _ h => absurd h List.not_mem_nil)⟩)
theorem h_8 : t_chk [] c_8 n_8 71 = true := ((Bool.and_eq_true _ _).mp hg_h_5_1).2
theorem k_8 : t_Con c_8 := t_chk_ok h_8 ((fun _ h => absurd h List.not_mem_nil))
set_option maxRecDepth 1000000 in
theorem hg_h_9 : (t_chk [c_8] c_9 n_9 235 && (t_chk [] c_10 n_10 2397 && (t_chk [] c_11 n_11 65 && (t_chk [] c_12 n_12 67)))) = true := by decide +kernel
theorem h_9 : t_chk [c_8] c_9 n_9 235 = true := ((Bool.and_eq_true _ _).mp hg_h_9).1
theorem hg_h_9_0 : (t_chk [] c_10 n_10 2397 && (t_chk [] c_11 n_11 65 && (t_chk [] c_12 n_12 67))) = true := ((Bool.and_eq_true _ _).mp hg_h_9).2
theorem k_9 : t_Con c_9 := t_chk_ok h_9 (List.forall_mem_cons.mpr ⟨k_8, (fun _ h => absurd h List.not_mem_nil)⟩)
theorem h_10 : t_chk [] c_10 n_10 2397 = true := ((Bool.and_eq_true _ _).mp hg_h_9_0).1
theorem hg_h_9_1 : (t_chk [] c_11 n_11 65 && (t_chk [] c_12 n_12 67)) = true := ((Bool.and_eq_true _ _).mp hg_h_9_0).2
theorem k_10 : t_Con c_10 := t_chk_ok h_10 ((fun _ h => absurd h List.not_mem_nil))
theorem h_11 : t_chk [] c_11 n_11 65 = true := ((Bool.and_eq_true _ _).mp hg_h_9_1).1
theorem k_11 : t_Con c_11 := t_chk_ok h_11 ((fun _ h => absurd h List.not_mem_nil))
theorem h_12 : t_chk [] c_12 n_12 67 = true := ((Bool.and_eq_true _ _).mp hg_h_9_1).2
theorem k_12 : t_Con c_12 := t_chk_ok h_12 ((fun _ h => absurd h List.not_mem_nil))
set_option maxRecDepth 1000000 in
theorem hg_h_13 : (t_chk [c_12] c_13 n_13 83 && (t_chk [] c_14 n_14 88 && (t_chk [c_12] c_15 n_15 83 && (t_chk [c_12] c_16 n_16 83)))) = true := by decide +kernel
theorem h_13 : t_chk [c_12] c_13 n_13 83 = true := ((Bool.and_eq_true _ _).mp hg_h_13).1
theorem hg_h_13_0 : (t_chk [] c_14 n_14 88 && (t_chk [c_12] c_15 n_15 83 && (t_chk [c_12] c_16 n_16 83))) = true := ((Bool.and_eq_true _ _).mp hg_h_13).2
theorem k_13 : t_Con c_13 := t_chk_ok h_13 (List.forall_mem_cons.mpr ⟨k_12, (fun _ h => absurd h List.not_mem_nil)⟩)
theorem h_14 : t_chk [] c_14 n_14 88 = true := ((Bool.and_eq_true _ _).mp hg_h_13_0).1
theorem hg_h_13_1 : (t_chk [c_12] c_15 n_15 83 && (t_chk [c_12] c_16 n_16 83)) = true := ((Bool.and_eq_true _ _).mp hg_h_13_0).2
theorem k_14 : t_Con c_14 := t_chk_ok h_14 ((fun _ h => absurd h List.not_mem_nil))
theorem h_15 : t_chk [c_12] c_15 n_15 83 = true := ((Bool.and_eq_true _ _).mp hg_h_13_1).1
theorem k_15 : t_Con c_15 := t_chk_ok h_15 (List.forall_mem_cons.mpr ⟨k_12, (fun _ h => absurd h List.not_mem_nil)⟩)
theorem h_16 : t_chk [c_12] c_16 n_16 83 = true := ((Bool.and_eq_true _ _).mp hg_h_13_1).2
theorem k_16 : t_Con c_16 := t_chk_ok h_16 (List.forall_mem_cons.mpr ⟨k_12, (fun _ h => absurd h List.not_mem_nil)⟩)
set_option maxRecDepth 1000000 in
theorem hg_h_17 : (t_chk [c_13, c_14, c_15, c_16] c_17 n_17 1306 && (t_chk [] c_18 n_18 65 && (t_chk [c_12, c_18] c_19 n_19 90 && (t_chk [c_17, c_19] c_20 n_20 68)))) = true := by decide +kernel
theorem h_17 : t_chk [c_13, c_14, c_15, c_16] c_17 n_17 1306 = true := ((Bool.and_eq_true _ _).mp hg_h_17).1
theorem hg_h_17_0 : (t_chk [] c_18 n_18 65 && (t_chk [c_12, c_18] c_19 n_19 90 && (t_chk [c_17, c_19] c_20 n_20 68))) = true := ((Bool.and_eq_true _ _).mp hg_h_17).2
theorem k_17 : t_Con c_17 := t_chk_ok h_17 (List.forall_mem_cons.mpr ⟨k_13, List.forall_mem_cons.mpr ⟨k_14, List.forall_mem_cons.mpr ⟨k_15, List.forall_mem_cons.mpr ⟨k_16, (fun _ h => absurd h List.not_mem_nil)⟩⟩⟩⟩)
theorem h_18 : t_chk [] c_18 n_18 65 = true := ((Bool.and_eq_true _ _).mp hg_h_17_0).1
theorem hg_h_17_1 : (t_chk [c_12, c_18] c_19 n_19 90 && (t_chk [c_17, c_19] c_20 n_20 68)) = true := ((Bool.and_eq_true _ _).mp hg_h_17_0).2
theorem k_18 : t_Con c_18 := t_chk_ok h_18 ((fun _ h => absurd h List.not_mem_nil))
theorem h_19 : t_chk [c_12, c_18] c_19 n_19 90 = true := ((Bool.and_eq_true _ _).mp hg_h_17_1).1
theorem k_19 : t_Con c_19 := t_chk_ok h_19 (List.forall_mem_cons.mpr ⟨k_12, List.forall_mem_cons.mpr ⟨k_18, (fun _ h => absurd h List.not_mem_nil)⟩⟩)
theorem h_20 : t_chk [c_17, c_19] c_20 n_20 68 = true := ((Bool.and_eq_true _ _).mp hg_h_17_1).2
theorem k_20 : t_Con c_20 := t_chk_ok h_20 (List.forall_mem_cons.mpr ⟨k_17, List.forall_mem_cons.mpr ⟨k_19, (fun _ h => absurd h List.not_mem_nil)⟩⟩)
set_option maxRecDepth 1000000 in
theorem hg_h_21 : (t_chk [] c_21 n_21 78 && (t_chk [c_21] c_22 n_22 77 && (t_chk [] c_23 n_23 70 && (t_chk [c_23] c_24 n_24 74)))) = true := by decide +kernel
theorem h_21 : t_chk [] c_21 n_21 78 = true := ((Bool.and_eq_true _ _).mp hg_h_21).1
theorem hg_h_21_0 : (t_chk [c_21] c_22 n_22 77 && (t_chk [] c_23 n_23 70 && (t_chk [c_23] c_24 n_24 74))) = true := ((Bool.and_eq_true _ _).mp hg_h_21).2
theorem k_21 : t_Con c_21 := t_chk_ok h_21 ((fun _ h => absurd h List.not_mem_nil))
theorem h_22 : t_chk [c_21] c_22 n_22 77 = true := ((Bool.and_eq_true _ _).mp hg_h_21_0).1
theorem hg_h_21_1 : (t_chk [] c_23 n_23 70 && (t_chk [c_23] c_24 n_24 74)) = true := ((Bool.and_eq_true _ _).mp hg_h_21_0).2
theorem k_22 : t_Con c_22 := t_chk_ok h_22 (List.forall_mem_cons.mpr ⟨k_21, (fun _ h => absurd h List.not_mem_nil)⟩)
theorem h_23 : t_chk [] c_23 n_23 70 = true := ((Bool.and_eq_true _ _).mp hg_h_21_1).1
theorem k_23 : t_Con c_23 := t_chk_ok h_23 ((fun _ h => absurd h List.not_mem_nil))
theorem h_24 : t_chk [c_23] c_24 n_24 74 = true := ((Bool.and_eq_true _ _).mp hg_h_21_1).2
theorem k_24 : t_Con c_24 := t_chk_ok h_24 (List.forall_mem_cons.mpr ⟨k_23, (fun _ h => absurd h List.not_mem_nil)⟩)
set_option maxRecDepth 1000000 in
theorem hg_h_25 : (t_chk [c_22, c_23, c_24] c_25 n_25 83 && (t_chk [c_3, c_4, c_10, c_11, c_20, c_25] c_26 n_26 754 && (t_chk [c_3, c_5, c_7, c_9, c_26] c_27 n_27 229 && (t_chk [] c_28 n_28 10654)))) = true := by decide +kernel
theorem h_25 : t_chk [c_22, c_23, c_24] c_25 n_25 83 = true := ((Bool.and_eq_true _ _).mp hg_h_25).1
theorem hg_h_25_0 : (t_chk [c_3, c_4, c_10, c_11, c_20, c_25] c_26 n_26 754 && (t_chk [c_3, c_5, c_7, c_9, c_26] c_27 n_27 229 && (t_chk [] c_28 n_28 10654))) = true := ((Bool.and_eq_true _ _).mp hg_h_25).2
theorem k_25 : t_Con c_25 := t_chk_ok h_25 (List.forall_mem_cons.mpr ⟨k_22, List.forall_mem_cons.mpr ⟨k_23, List.forall_mem_cons.mpr ⟨k_24, (fun _ h => absurd h List.not_mem_nil)⟩⟩⟩)
theorem h_26 : t_chk [c_3, c_4, c_10, c_11, c_20, c_25] c_26 n_26 754 = true := ((Bool.and_eq_true _ _).mp hg_h_25_0).1
theorem hg_h_25_1 : (t_chk [c_3, c_5, c_7, c_9, c_26] c_27 n_27 229 && (t_chk [] c_28 n_28 10654)) = true := ((Bool.and_eq_true _ _).mp hg_h_25_0).2
theorem k_26 : t_Con c_26 := t_chk_ok h_26 (List.forall_mem_cons.mpr ⟨k_3, List.forall_mem_cons.mpr ⟨k_4, List.forall_mem_cons.mpr ⟨k_10, List.forall_mem_cons.mpr ⟨k_11, List.forall_mem_cons.mpr ⟨k_20, List.forall_mem_cons.mpr ⟨k_25, (fun _ h => absurd h List.not_mem_nil)⟩⟩⟩⟩⟩⟩)
theorem h_27 : t_chk [c_3, c_5, c_7, c_9, c_26] c_27 n_27 229 = true := ((Bool.and_eq_true _ _).mp hg_h_25_1).1
theorem k_27 : t_Con c_27 := t_chk_ok h_27 (List.forall_mem_cons.mpr ⟨k_3, List.forall_mem_cons.mpr ⟨k_5, List.forall_mem_cons.mpr ⟨k_7, List.forall_mem_cons.mpr ⟨k_9, List.forall_mem_cons.mpr ⟨k_26, (fun _ h => absurd h List.not_mem_nil)⟩⟩⟩⟩⟩)
theorem h_28 : t_chk [] c_28 n_28 10654 = true := ((Bool.and_eq_true _ _).mp hg_h_25_1).2
theorem k_28 : t_Con c_28 := t_chk_ok h_28 ((fun _ h => absurd h List.not_mem_nil))
