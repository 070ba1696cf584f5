/-! the contracts hold, part 9 -/
set_option maxRecDepth 1000000 in
theorem h_210 : t_chk [c_39] c_210 n_210 72 = true := by decide +kernel
theorem k_210 : t_Con c_210 := t_chk_ok h_210 (List.forall_mem_cons.mpr ⟨k_39, (fun _ h => absurd h List.not_mem_nil)⟩)
set_option maxRecDepth 1000000 in
theorem h_211 : t_chk [c_45, c_210] c_211 n_211 217 = true := by decide +kernel
theorem k_211 : t_Con c_211 := t_chk_ok h_211 (List.forall_mem_cons.mpr ⟨k_45, List.forall_mem_cons.mpr ⟨k_210, (fun _ h => absurd h List.not_mem_nil)⟩⟩)
set_option maxRecDepth 1000000 in
theorem h_212 : t_chk [c_198] c_212 n_212 98 = true := by decide +kernel
theorem k_212 : t_Con c_212 := t_chk_ok h_212 (List.forall_mem_cons.mpr ⟨k_198, (fun _ h => absurd h List.not_mem_nil)⟩)
set_option maxRecDepth 1000000 in
theorem h_213 : t_chk [c_212] c_213 n_213 69 = true := by decide +kernel
theorem k_213 : t_Con c_213 := t_chk_ok h_213 (List.forall_mem_cons.mpr ⟨k_212, (fun _ h => absurd h List.not_mem_nil)⟩)
set_option maxRecDepth 1000000 in
theorem h_214 : t_chk [c_13, c_20] c_214 n_214 211 = true := by decide +kernel
theorem k_214 : t_Con c_214 := t_chk_ok h_214 (List.forall_mem_cons.mpr ⟨k_13, List.forall_mem_cons.mpr ⟨k_20, (fun _ h => absurd h List.not_mem_nil)⟩⟩)
set_option maxRecDepth 1000000 in
theorem h_215 : t_chk [c_202, c_213, c_214] c_215 n_215 163 = true := by decide +kernel
theorem k_215 : t_Con c_215 := t_chk_ok h_215 (List.forall_mem_cons.mpr ⟨k_202, List.forall_mem_cons.mpr ⟨k_213, List.forall_mem_cons.mpr ⟨k_214, (fun _ h => absurd h List.not_mem_nil)⟩⟩⟩)
set_option maxRecDepth 1000000 in
theorem h_216 : t_chk [] c_216 n_216 69 = true := by decide +kernel
theorem k_216 : t_Con c_216 := t_chk_ok h_216 ((fun _ h => absurd h List.not_mem_nil))
set_option maxRecDepth 1000000 in
theorem h_217 : t_chk [c_38, c_42, c_51, c_188, c_216] c_217 n_217 3034 = true := by decide +kernel
theorem k_217 : t_Con c_217 := t_chk_ok h_217 (List.forall_mem_cons.mpr ⟨k_38, List.forall_mem_cons.mpr ⟨k_42, List.forall_mem_cons.mpr ⟨k_51, List.forall_mem_cons.mpr ⟨k_188, List.forall_mem_cons.mpr ⟨k_216, (fun _ h => absurd h List.not_mem_nil)⟩⟩⟩⟩⟩)
set_option maxRecDepth 1000000 in
theorem h_218 : t_chk [c_35, c_128, c_217] c_218 n_218 190 = true := by decide +kernel
theorem k_218 : t_Con c_218 := t_chk_ok h_218 (List.forall_mem_cons.mpr ⟨k_35, List.forall_mem_cons.mpr ⟨k_128, List.forall_mem_cons.mpr ⟨k_217, (fun _ h => absurd h List.not_mem_nil)⟩⟩⟩)
set_option maxRecDepth 1000000 in
theorem h_219 : t_chk [c_212] c_219 n_219 72 = true := by decide +kernel
theorem k_219 : t_Con c_219 := t_chk_ok h_219 (List.forall_mem_cons.mpr ⟨k_212, (fun _ h => absurd h List.not_mem_nil)⟩)
set_option maxRecDepth 1000000 in
theorem h_220 : t_chk [c_13, c_27, c_219] c_220 n_220 223 = true := by decide +kernel
theorem k_220 : t_Con c_220 := t_chk_ok h_220 (List.forall_mem_cons.mpr ⟨k_13, List.forall_mem_cons.mpr ⟨k_27, List.forall_mem_cons.mpr ⟨k_219, (fun _ h => absurd h List.not_mem_nil)⟩⟩⟩)
set_option maxRecDepth 1000000 in
theorem h_221 : t_chk [] c_221 n_221 86 = true := by decide +kernel
theorem k_221 : t_Con c_221 := t_chk_ok h_221 ((fun _ h => absurd h List.not_mem_nil))
set_option maxRecDepth 1000000 in
theorem h_222 : t_chk [c_41, c_51] c_222 n_222 104 = true := by decide +kernel
theorem k_222 : t_Con c_222 := t_chk_ok h_222 (List.forall_mem_cons.mpr ⟨k_41, List.forall_mem_cons.mpr ⟨k_51, (fun _ h => absurd h List.not_mem_nil)⟩⟩)
set_option maxRecDepth 1000000 in
theorem h_223 : t_chk [c_35, c_221, c_222] c_223 n_223 318 = true := by decide +kernel
theorem k_223 : t_Con c_223 := t_chk_ok h_223 (List.forall_mem_cons.mpr ⟨k_35, List.forall_mem_cons.mpr ⟨k_221, List.forall_mem_cons.mpr ⟨k_222, (fun _ h => absurd h List.not_mem_nil)⟩⟩⟩)
set_option maxRecDepth 1000000 in
theorem h_224 : t_chk [c_13, c_16, c_219] c_224 n_224 225 = true := by decide +kernel
theorem k_224 : t_Con c_224 := t_chk_ok h_224 (List.forall_mem_cons.mpr ⟨k_13, List.forall_mem_cons.mpr ⟨k_16, List.forall_mem_cons.mpr ⟨k_219, (fun _ h => absurd h List.not_mem_nil)⟩⟩⟩)
set_option maxRecDepth 1000000 in
theorem h_225 : t_chk [c_35, c_222] c_225 n_225 310 = true := by decide +kernel
theorem k_225 : t_Con c_225 := t_chk_ok h_225 (List.forall_mem_cons.mpr ⟨k_35, List.forall_mem_cons.mpr ⟨k_222, (fun _ h => absurd h List.not_mem_nil)⟩⟩)
set_option maxRecDepth 1000000 in
theorem h_226 : t_chk [c_18, c_31] c_226 n_226 108 = true := by decide +kernel
theorem k_226 : t_Con c_226 := t_chk_ok h_226 (List.forall_mem_cons.mpr ⟨k_18, List.forall_mem_cons.mpr ⟨k_31, (fun _ h => absurd h List.not_mem_nil)⟩⟩)
set_option maxRecDepth 1000000 in
theorem h_227 : t_chk [c_13, c_102, c_226] c_227 n_227 412 = true := by decide +kernel
theorem k_227 : t_Con c_227 := t_chk_ok h_227 (List.forall_mem_cons.mpr ⟨k_13, List.forall_mem_cons.mpr ⟨k_102, List.forall_mem_cons.mpr ⟨k_226, (fun _ h => absurd h List.not_mem_nil)⟩⟩⟩)
set_option maxRecDepth 1000000 in
theorem h_228 : t_chk [c_35, c_44, c_48, c_51, c_173] c_228 n_228 636 = true := by decide +kernel
theorem k_228 : t_Con c_228 := t_chk_ok h_228 (List.forall_mem_cons.mpr ⟨k_35, List.forall_mem_cons.mpr ⟨k_44, List.forall_mem_cons.mpr ⟨k_48, List.forall_mem_cons.mpr ⟨k_51, List.forall_mem_cons.mpr ⟨k_173, (fun _ h => absurd h List.not_mem_nil)⟩⟩⟩⟩⟩)
set_option maxRecDepth 1000000 in
theorem h_229 : t_chk [c_101] c_229 n_229 441 = true := by decide +kernel
theorem k_229 : t_Con c_229 := t_chk_ok h_229 (List.forall_mem_cons.mpr ⟨k_101, (fun _ h => absurd h List.not_mem_nil)⟩)
set_option maxRecDepth 1000000 in
theorem h_230 : t_chk [c_0, c_35, c_41, c_51, c_188] c_230 n_230 473 = true := by decide +kernel
theorem k_230 : t_Con c_230 := t_chk_ok h_230 (List.forall_mem_cons.mpr ⟨k_0, List.forall_mem_cons.mpr ⟨k_35, List.forall_mem_cons.mpr ⟨k_41, List.forall_mem_cons.mpr ⟨k_51, List.forall_mem_cons.mpr ⟨k_188, (fun _ h => absurd h List.not_mem_nil)⟩⟩⟩⟩⟩)
set_option maxRecDepth 1000000 in
theorem h_231 : t_chk [c_153] c_231 n_231 69 = true := by decide +kernel
theorem k_231 : t_Con c_231 := t_chk_ok h_231 (List.forall_mem_cons.mpr ⟨k_153, (fun _ h => absurd h List.not_mem_nil)⟩)
set_option maxRecDepth 1000000 in
theorem h_232 : t_chk [c_231] c_232 n_232 151 = true := by decide +kernel
theorem k_232 : t_Con c_232 := t_chk_ok h_232 (List.forall_mem_cons.mpr ⟨k_231, (fun _ h => absurd h List.not_mem_nil)⟩)
set_option maxRecDepth 1000000 in
theorem h_233 : t_chk [c_216] c_233 n_233 208 = true := by decide +kernel
theorem k_233 : t_Con c_233 := t_chk_ok h_233 (List.forall_mem_cons.mpr ⟨k_216, (fun _ h => absurd h List.not_mem_nil)⟩)
set_option maxRecDepth 1000000 in
theorem h_234 : t_chk [c_102] c_234 n_234 74 = true := by decide +kernel
theorem k_234 : t_Con c_234 := t_chk_ok h_234 (List.forall_mem_cons.mpr ⟨k_102, (fun _ h => absurd h List.not_mem_nil)⟩)
set_option maxRecDepth 1000000 in
theorem h_235 : t_chk [] c_235 n_235 110 = true := by decide +kernel
theorem k_235 : t_Con c_235 := t_chk_ok h_235 ((fun _ h => absurd h List.not_mem_nil))
set_option maxRecDepth 1000000 in
theorem h_236 : t_chk [] c_236 n_236 95 = true := by decide +kernel
theorem k_236 : t_Con c_236 := t_chk_ok h_236 ((fun _ h => absurd h List.not_mem_nil))
set_option maxRecDepth 1000000 in
theorem h_237 : t_chk [c_234, c_235, c_236] c_237 n_237 78 = true := by decide +kernel
theorem k_237 : t_Con c_237 := t_chk_ok h_237 (List.forall_mem_cons.mpr ⟨k_234, List.forall_mem_cons.mpr ⟨k_235, List.forall_mem_cons.mpr ⟨k_236, (fun _ h => absurd h List.not_mem_nil)⟩⟩⟩)
set_option maxRecDepth 1000000 in
theorem h_238 : t_chk [c_44] c_238 n_238 78 = true := by decide +kernel
theorem k_238 : t_Con c_238 := t_chk_ok h_238 (List.forall_mem_cons.mpr ⟨k_44, (fun _ h => absurd h List.not_mem_nil)⟩)
set_option maxRecDepth 1000000 in
theorem h_239 : t_chk [] c_239 n_239 69 = true := by decide +kernel
theorem k_239 : t_Con c_239 := t_chk_ok h_239 ((fun _ h => absurd h List.not_mem_nil))
set_option maxRecDepth 1000000 in
theorem h_240 : t_chk [c_239] c_240 n_240 269 = true := by decide +kernel
theorem k_240 : t_Con c_240 := t_chk_ok h_240 (List.forall_mem_cons.mpr ⟨k_239, (fun _ h => absurd h List.not_mem_nil)⟩)
set_option maxRecDepth 1000000 in
theorem h_241 : t_chk [] c_241 n_241 85 = true := by decide +kernel
theorem k_241 : t_Con c_241 := t_chk_ok h_241 ((fun _ h => absurd h List.not_mem_nil))
set_option maxRecDepth 1000000 in
theorem h_242 : t_chk [c_238, c_240, c_241] c_242 n_242 80 = true := by decide +kernel
theorem k_242 : t_Con c_242 := t_chk_ok h_242 (List.forall_mem_cons.mpr ⟨k_238, List.forall_mem_cons.mpr ⟨k_240, List.forall_mem_cons.mpr ⟨k_241, (fun _ h => absurd h List.not_mem_nil)⟩⟩⟩)
set_option maxRecDepth 1000000 in
theorem h_243 : t_chk [] c_243 n_243 128 = true := by decide +kernel
theorem k_243 : t_Con c_243 := t_chk_ok h_243 ((fun _ h => absurd h List.not_mem_nil))
set_option maxRecDepth 1000000 in
theorem h_244 : t_chk [] c_244 n_244 150 = true := by decide +kernel
theorem k_244 : t_Con c_244 := t_chk_ok h_244 ((fun _ h => absurd h List.not_mem_nil))
set_option maxRecDepth 1000000 in
theorem h_245 : t_chk [] c_245 n_245 249 = true := by decide +kernel
theorem k_245 : t_Con c_245 := t_chk_ok h_245 ((fun _ h => absurd h List.not_mem_nil))
