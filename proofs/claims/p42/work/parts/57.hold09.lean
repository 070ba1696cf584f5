/-! the contracts hold, part 9 -/
set_option maxRecDepth 1000000 in
theorem hg_h_204 : (t_chk [c_33] c_204 n_204 72 && (t_chk [c_39, c_204] c_205 n_205 217 && (t_chk [c_192] c_206 n_206 98 && (t_chk [c_206] c_207 n_207 69)))) = true := by decide +kernel
theorem h_204 : t_chk [c_33] c_204 n_204 72 = true := ((Bool.and_eq_true _ _).mp hg_h_204).1
theorem hg_h_204_0 : (t_chk [c_39, c_204] c_205 n_205 217 && (t_chk [c_192] c_206 n_206 98 && (t_chk [c_206] c_207 n_207 69))) = true := ((Bool.and_eq_true _ _).mp hg_h_204).2
theorem k_204 : t_Con c_204 := t_chk_ok h_204 (List.forall_mem_cons.mpr ⟨k_33, (fun _ h => absurd h List.not_mem_nil)⟩)
theorem h_205 : t_chk [c_39, c_204] c_205 n_205 217 = true := ((Bool.and_eq_true _ _).mp hg_h_204_0).1
theorem hg_h_204_1 : (t_chk [c_192] c_206 n_206 98 && (t_chk [c_206] c_207 n_207 69)) = true := ((Bool.and_eq_true _ _).mp hg_h_204_0).2
theorem k_205 : t_Con c_205 := t_chk_ok h_205 (List.forall_mem_cons.mpr ⟨k_39, List.forall_mem_cons.mpr ⟨k_204, (fun _ h => absurd h List.not_mem_nil)⟩⟩)
theorem h_206 : t_chk [c_192] c_206 n_206 98 = true := ((Bool.and_eq_true _ _).mp hg_h_204_1).1
theorem k_206 : t_Con c_206 := t_chk_ok h_206 (List.forall_mem_cons.mpr ⟨k_192, (fun _ h => absurd h List.not_mem_nil)⟩)
theorem h_207 : t_chk [c_206] c_207 n_207 69 = true := ((Bool.and_eq_true _ _).mp hg_h_204_1).2
theorem k_207 : t_Con c_207 := t_chk_ok h_207 (List.forall_mem_cons.mpr ⟨k_206, (fun _ h => absurd h List.not_mem_nil)⟩)
set_option maxRecDepth 1000000 in
theorem hg_h_208 : (t_chk [c_7, c_14] c_208 n_208 211 && (t_chk [c_196, c_207, c_208] c_209 n_209 163 && (t_chk [] c_210 n_210 69 && (t_chk [c_32, c_36, c_45, c_182, c_210] c_211 n_211 3034)))) = true := by decide +kernel
theorem h_208 : t_chk [c_7, c_14] c_208 n_208 211 = true := ((Bool.and_eq_true _ _).mp hg_h_208).1
theorem hg_h_208_0 : (t_chk [c_196, c_207, c_208] c_209 n_209 163 && (t_chk [] c_210 n_210 69 && (t_chk [c_32, c_36, c_45, c_182, c_210] c_211 n_211 3034))) = true := ((Bool.and_eq_true _ _).mp hg_h_208).2
theorem k_208 : t_Con c_208 := t_chk_ok h_208 (List.forall_mem_cons.mpr ⟨k_7, List.forall_mem_cons.mpr ⟨k_14, (fun _ h => absurd h List.not_mem_nil)⟩⟩)
theorem h_209 : t_chk [c_196, c_207, c_208] c_209 n_209 163 = true := ((Bool.and_eq_true _ _).mp hg_h_208_0).1
theorem hg_h_208_1 : (t_chk [] c_210 n_210 69 && (t_chk [c_32, c_36, c_45, c_182, c_210] c_211 n_211 3034)) = true := ((Bool.and_eq_true _ _).mp hg_h_208_0).2
theorem k_209 : t_Con c_209 := t_chk_ok h_209 (List.forall_mem_cons.mpr ⟨k_196, List.forall_mem_cons.mpr ⟨k_207, List.forall_mem_cons.mpr ⟨k_208, (fun _ h => absurd h List.not_mem_nil)⟩⟩⟩)
theorem h_210 : t_chk [] c_210 n_210 69 = true := ((Bool.and_eq_true _ _).mp hg_h_208_1).1
theorem k_210 : t_Con c_210 := t_chk_ok h_210 ((fun _ h => absurd h List.not_mem_nil))
theorem h_211 : t_chk [c_32, c_36, c_45, c_182, c_210] c_211 n_211 3034 = true := ((Bool.and_eq_true _ _).mp hg_h_208_1).2
theorem k_211 : t_Con c_211 := t_chk_ok h_211 (List.forall_mem_cons.mpr ⟨k_32, List.forall_mem_cons.mpr ⟨k_36, List.forall_mem_cons.mpr ⟨k_45, List.forall_mem_cons.mpr ⟨k_182, List.forall_mem_cons.mpr ⟨k_210, (fun _ h => absurd h List.not_mem_nil)⟩⟩⟩⟩⟩)
set_option maxRecDepth 1000000 in
theorem hg_h_212 : (t_chk [c_29, c_122, c_211] c_212 n_212 190 && (t_chk [c_206] c_213 n_213 72 && (t_chk [c_7, c_21, c_213] c_214 n_214 223 && (t_chk [] c_215 n_215 86)))) = true := by decide +kernel
theorem h_212 : t_chk [c_29, c_122, c_211] c_212 n_212 190 = true := ((Bool.and_eq_true _ _).mp hg_h_212).1
theorem hg_h_212_0 : (t_chk [c_206] c_213 n_213 72 && (t_chk [c_7, c_21, c_213] c_214 n_214 223 && (t_chk [] c_215 n_215 86))) = true := ((Bool.and_eq_true _ _).mp hg_h_212).2
theorem k_212 : t_Con c_212 := t_chk_ok h_212 (List.forall_mem_cons.mpr ⟨k_29, List.forall_mem_cons.mpr ⟨k_122, List.forall_mem_cons.mpr ⟨k_211, (fun _ h => absurd h List.not_mem_nil)⟩⟩⟩)
theorem h_213 : t_chk [c_206] c_213 n_213 72 = true := ((Bool.and_eq_true _ _).mp hg_h_212_0).1
theorem hg_h_212_1 : (t_chk [c_7, c_21, c_213] c_214 n_214 223 && (t_chk [] c_215 n_215 86)) = true := ((Bool.and_eq_true _ _).mp hg_h_212_0).2
theorem k_213 : t_Con c_213 := t_chk_ok h_213 (List.forall_mem_cons.mpr ⟨k_206, (fun _ h => absurd h List.not_mem_nil)⟩)
theorem h_214 : t_chk [c_7, c_21, c_213] c_214 n_214 223 = true := ((Bool.and_eq_true _ _).mp hg_h_212_1).1
theorem k_214 : t_Con c_214 := t_chk_ok h_214 (List.forall_mem_cons.mpr ⟨k_7, List.forall_mem_cons.mpr ⟨k_21, List.forall_mem_cons.mpr ⟨k_213, (fun _ h => absurd h List.not_mem_nil)⟩⟩⟩)
theorem h_215 : t_chk [] c_215 n_215 86 = true := ((Bool.and_eq_true _ _).mp hg_h_212_1).2
theorem k_215 : t_Con c_215 := t_chk_ok h_215 ((fun _ h => absurd h List.not_mem_nil))
set_option maxRecDepth 1000000 in
theorem hg_h_216 : (t_chk [c_35, c_45] c_216 n_216 104 && (t_chk [c_29, c_215, c_216] c_217 n_217 318 && (t_chk [c_7, c_10, c_213] c_218 n_218 225 && (t_chk [c_29, c_216] c_219 n_219 310)))) = true := by decide +kernel
theorem h_216 : t_chk [c_35, c_45] c_216 n_216 104 = true := ((Bool.and_eq_true _ _).mp hg_h_216).1
theorem hg_h_216_0 : (t_chk [c_29, c_215, c_216] c_217 n_217 318 && (t_chk [c_7, c_10, c_213] c_218 n_218 225 && (t_chk [c_29, c_216] c_219 n_219 310))) = true := ((Bool.and_eq_true _ _).mp hg_h_216).2
theorem k_216 : t_Con c_216 := t_chk_ok h_216 (List.forall_mem_cons.mpr ⟨k_35, List.forall_mem_cons.mpr ⟨k_45, (fun _ h => absurd h List.not_mem_nil)⟩⟩)
theorem h_217 : t_chk [c_29, c_215, c_216] c_217 n_217 318 = true := ((Bool.and_eq_true _ _).mp hg_h_216_0).1
theorem hg_h_216_1 : (t_chk [c_7, c_10, c_213] c_218 n_218 225 && (t_chk [c_29, c_216] c_219 n_219 310)) = true := ((Bool.and_eq_true _ _).mp hg_h_216_0).2
theorem k_217 : t_Con c_217 := t_chk_ok h_217 (List.forall_mem_cons.mpr ⟨k_29, List.forall_mem_cons.mpr ⟨k_215, List.forall_mem_cons.mpr ⟨k_216, (fun _ h => absurd h List.not_mem_nil)⟩⟩⟩)
theorem h_218 : t_chk [c_7, c_10, c_213] c_218 n_218 225 = true := ((Bool.and_eq_true _ _).mp hg_h_216_1).1
theorem k_218 : t_Con c_218 := t_chk_ok h_218 (List.forall_mem_cons.mpr ⟨k_7, List.forall_mem_cons.mpr ⟨k_10, List.forall_mem_cons.mpr ⟨k_213, (fun _ h => absurd h List.not_mem_nil)⟩⟩⟩)
theorem h_219 : t_chk [c_29, c_216] c_219 n_219 310 = true := ((Bool.and_eq_true _ _).mp hg_h_216_1).2
theorem k_219 : t_Con c_219 := t_chk_ok h_219 (List.forall_mem_cons.mpr ⟨k_29, List.forall_mem_cons.mpr ⟨k_216, (fun _ h => absurd h List.not_mem_nil)⟩⟩)
set_option maxRecDepth 1000000 in
theorem hg_h_220 : (t_chk [c_12, c_25] c_220 n_220 108 && (t_chk [c_7, c_96, c_220] c_221 n_221 412 && (t_chk [c_29, c_38, c_42, c_45, c_167] c_222 n_222 636 && (t_chk [c_95] c_223 n_223 441)))) = true := by decide +kernel
theorem h_220 : t_chk [c_12, c_25] c_220 n_220 108 = true := ((Bool.and_eq_true _ _).mp hg_h_220).1
theorem hg_h_220_0 : (t_chk [c_7, c_96, c_220] c_221 n_221 412 && (t_chk [c_29, c_38, c_42, c_45, c_167] c_222 n_222 636 && (t_chk [c_95] c_223 n_223 441))) = true := ((Bool.and_eq_true _ _).mp hg_h_220).2
theorem k_220 : t_Con c_220 := t_chk_ok h_220 (List.forall_mem_cons.mpr ⟨k_12, List.forall_mem_cons.mpr ⟨k_25, (fun _ h => absurd h List.not_mem_nil)⟩⟩)
theorem h_221 : t_chk [c_7, c_96, c_220] c_221 n_221 412 = true := ((Bool.and_eq_true _ _).mp hg_h_220_0).1
theorem hg_h_220_1 : (t_chk [c_29, c_38, c_42, c_45, c_167] c_222 n_222 636 && (t_chk [c_95] c_223 n_223 441)) = true := ((Bool.and_eq_true _ _).mp hg_h_220_0).2
theorem k_221 : t_Con c_221 := t_chk_ok h_221 (List.forall_mem_cons.mpr ⟨k_7, List.forall_mem_cons.mpr ⟨k_96, List.forall_mem_cons.mpr ⟨k_220, (fun _ h => absurd h List.not_mem_nil)⟩⟩⟩)
theorem h_222 : t_chk [c_29, c_38, c_42, c_45, c_167] c_222 n_222 636 = true := ((Bool.and_eq_true _ _).mp hg_h_220_1).1
theorem k_222 : t_Con c_222 := t_chk_ok h_222 (List.forall_mem_cons.mpr ⟨k_29, List.forall_mem_cons.mpr ⟨k_38, List.forall_mem_cons.mpr ⟨k_42, List.forall_mem_cons.mpr ⟨k_45, List.forall_mem_cons.mpr ⟨k_167, (fun _ h => absurd h List.not_mem_nil)⟩⟩⟩⟩⟩)
theorem h_223 : t_chk [c_95] c_223 n_223 441 = true := ((Bool.and_eq_true _ _).mp hg_h_220_1).2
theorem k_223 : t_Con c_223 := t_chk_ok h_223 (List.forall_mem_cons.mpr ⟨k_95, (fun _ h => absurd h List.not_mem_nil)⟩)
set_option maxRecDepth 1000000 in
theorem hg_h_224 : (t_chk [c_0, c_29, c_35, c_45, c_182] c_224 n_224 473 && (t_chk [c_147] c_225 n_225 69 && (t_chk [c_225] c_226 n_226 151 && (t_chk [c_210] c_227 n_227 208)))) = true := by decide +kernel
theorem h_224 : t_chk [c_0, c_29, c_35, c_45, c_182] c_224 n_224 473 = true := ((Bool.and_eq_true _ _).mp hg_h_224).1
theorem hg_h_224_0 : (t_chk [c_147] c_225 n_225 69 && (t_chk [c_225] c_226 n_226 151 && (t_chk [c_210] c_227 n_227 208))) = true := ((Bool.and_eq_true _ _).mp hg_h_224).2
theorem k_224 : t_Con c_224 := t_chk_ok h_224 (List.forall_mem_cons.mpr ⟨k_0, List.forall_mem_cons.mpr ⟨k_29, List.forall_mem_cons.mpr ⟨k_35, List.forall_mem_cons.mpr ⟨k_45, List.forall_mem_cons.mpr ⟨k_182, (fun _ h => absurd h List.not_mem_nil)⟩⟩⟩⟩⟩)
theorem h_225 : t_chk [c_147] c_225 n_225 69 = true := ((Bool.and_eq_true _ _).mp hg_h_224_0).1
theorem hg_h_224_1 : (t_chk [c_225] c_226 n_226 151 && (t_chk [c_210] c_227 n_227 208)) = true := ((Bool.and_eq_true _ _).mp hg_h_224_0).2
theorem k_225 : t_Con c_225 := t_chk_ok h_225 (List.forall_mem_cons.mpr ⟨k_147, (fun _ h => absurd h List.not_mem_nil)⟩)
theorem h_226 : t_chk [c_225] c_226 n_226 151 = true := ((Bool.and_eq_true _ _).mp hg_h_224_1).1
theorem k_226 : t_Con c_226 := t_chk_ok h_226 (List.forall_mem_cons.mpr ⟨k_225, (fun _ h => absurd h List.not_mem_nil)⟩)
theorem h_227 : t_chk [c_210] c_227 n_227 208 = true := ((Bool.and_eq_true _ _).mp hg_h_224_1).2
theorem k_227 : t_Con c_227 := t_chk_ok h_227 (List.forall_mem_cons.mpr ⟨k_210, (fun _ h => absurd h List.not_mem_nil)⟩)
set_option maxRecDepth 1000000 in
theorem hg_h_228 : (t_chk [c_96] c_228 n_228 74 && (t_chk [] c_229 n_229 110 && (t_chk [] c_230 n_230 95 && (t_chk [c_228, c_229, c_230] c_231 n_231 78)))) = true := by decide +kernel
theorem h_228 : t_chk [c_96] c_228 n_228 74 = true := ((Bool.and_eq_true _ _).mp hg_h_228).1
theorem hg_h_228_0 : (t_chk [] c_229 n_229 110 && (t_chk [] c_230 n_230 95 && (t_chk [c_228, c_229, c_230] c_231 n_231 78))) = true := ((Bool.and_eq_true _ _).mp hg_h_228).2
theorem k_228 : t_Con c_228 := t_chk_ok h_228 (List.forall_mem_cons.mpr ⟨k_96, (fun _ h => absurd h List.not_mem_nil)⟩)
theorem h_229 : t_chk [] c_229 n_229 110 = true := ((Bool.and_eq_true _ _).mp hg_h_228_0).1
theorem hg_h_228_1 : (t_chk [] c_230 n_230 95 && (t_chk [c_228, c_229, c_230] c_231 n_231 78)) = true := ((Bool.and_eq_true _ _).mp hg_h_228_0).2
theorem k_229 : t_Con c_229 := t_chk_ok h_229 ((fun _ h => absurd h List.not_mem_nil))
theorem h_230 : t_chk [] c_230 n_230 95 = true := ((Bool.and_eq_true _ _).mp hg_h_228_1).1
theorem k_230 : t_Con c_230 := t_chk_ok h_230 ((fun _ h => absurd h List.not_mem_nil))
theorem h_231 : t_chk [c_228, c_229, c_230] c_231 n_231 78 = true := ((Bool.and_eq_true _ _).mp hg_h_228_1).2
theorem k_231 : t_Con c_231 := t_chk_ok h_231 (List.forall_mem_cons.mpr ⟨k_228, List.forall_mem_cons.mpr ⟨k_229, List.forall_mem_cons.mpr ⟨k_230, (fun _ h => absurd h List.not_mem_nil)⟩⟩⟩)
set_option maxRecDepth 1000000 in
theorem hg_h_232 : (t_chk [c_38] c_232 n_232 78 && (t_chk [] c_233 n_233 69 && (t_chk [c_233] c_234 n_234 269 && (t_chk [] c_235 n_235 85)))) = true := by decide +kernel
theorem h_232 : t_chk [c_38] c_232 n_232 78 = true := ((Bool.and_eq_true _ _).mp hg_h_232).1
theorem hg_h_232_0 : (t_chk [] c_233 n_233 69 && (t_chk [c_233] c_234 n_234 269 && (t_chk [] c_235 n_235 85))) = true := ((Bool.and_eq_true _ _).mp hg_h_232).2
theorem k_232 : t_Con c_232 := t_chk_ok h_232 (List.forall_mem_cons.mpr ⟨k_38, (fun _ h => absurd h List.not_mem_nil)⟩)
theorem h_233 : t_chk [] c_233 n_233 69 = true := ((Bool.and_eq_true _ _).mp hg_h_232_0).1
theorem hg_h_232_1 : (t_chk [c_233] c_234 n_234 269 && (t_chk [] c_235 n_235 85)) = true := ((Bool.and_eq_true _ _).mp hg_h_232_0).2
theorem k_233 : t_Con c_233 := t_chk_ok h_233 ((fun _ h => absurd h List.not_mem_nil))
theorem h_234 : t_chk [c_233] c_234 n_234 269 = true := ((Bool.and_eq_true _ _).mp hg_h_232_1).1
theorem k_234 : t_Con c_234 := t_chk_ok h_234 (List.forall_mem_cons.mpr ⟨k_233, (fun _ h => absurd h List.not_mem_nil)⟩)
theorem h_235 : t_chk [] c_235 n_235 85 = true := ((Bool.and_eq_true _ _).mp hg_h_232_1).2
theorem k_235 : t_Con c_235 := t_chk_ok h_235 ((fun _ h => absurd h List.not_mem_nil))
set_option maxRecDepth 1000000 in
theorem hg_h_236 : (t_chk [c_232, c_234, c_235] c_236 n_236 80 && (t_chk [] c_237 n_237 128 && (t_chk [] c_238 n_238 150 && (t_chk [] c_239 n_239 249)))) = true := by decide +kernel
theorem h_236 : t_chk [c_232, c_234, c_235] c_236 n_236 80 = true := ((Bool.and_eq_true _ _).mp hg_h_236).1
theorem hg_h_236_0 : (t_chk [] c_237 n_237 128 && (t_chk [] c_238 n_238 150 && (t_chk [] c_239 n_239 249))) = true := ((Bool.and_eq_true _ _).mp hg_h_236).2
theorem k_236 : t_Con c_236 := t_chk_ok h_236 (List.forall_mem_cons.mpr ⟨k_232, List.forall_mem_cons.mpr ⟨k_234, List.forall_mem_cons.mpr ⟨k_235, (fun _ h => absurd h List.not_mem_nil)⟩⟩⟩)
theorem h_237 : t_chk [] c_237 n_237 128 = true := ((Bool.and_eq_true _ _).mp hg_h_236_0).1
theorem hg_h_236_1 : (t_chk [] c_238 n_238 150 && (t_chk [] c_239 n_239 249)) = true := ((Bool.and_eq_true _ _).mp hg_h_236_0).2
theorem k_237 : t_Con c_237 := t_chk_ok h_237 ((fun _ h => absurd h List.not_mem_nil))
theorem h_238 : t_chk [] c_238 n_238 150 = true := ((Bool.and_eq_true _ _).mp hg_h_236_1).1
theorem k_238 : t_Con c_238 := t_chk_ok h_238 ((fun _ h => absurd h List.not_mem_nil))
theorem h_239 : t_chk [] c_239 n_239 249 = true := ((Bool.and_eq_true _ _).mp hg_h_236_1).2
theorem k_239 : t_Con c_239 := t_chk_ok h_239 ((fun _ h => absurd h List.not_mem_nil))
