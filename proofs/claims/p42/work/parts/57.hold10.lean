/-! the contracts hold, part 10 -/
set_option maxRecDepth 1000000 in
theorem hg_h_240 : (t_chk [c_0] c_240 n_240 248 && (t_chk [] c_241 n_241 135 && (t_chk [] c_242 n_242 142 && (t_chk [] c_243 n_243 126)))) = true := by decide +kernel
theorem h_240 : t_chk [c_0] c_240 n_240 248 = true := ((Bool.and_eq_true _ _).mp hg_h_240).1
theorem hg_h_240_0 : (t_chk [] c_241 n_241 135 && (t_chk [] c_242 n_242 142 && (t_chk [] c_243 n_243 126))) = true := ((Bool.and_eq_true _ _).mp hg_h_240).2
theorem k_240 : t_Con c_240 := t_chk_ok h_240 (List.forall_mem_cons.mpr ⟨k_0, (fun _ h => absurd h List.not_mem_nil)⟩)
theorem h_241 : t_chk [] c_241 n_241 135 = true := ((Bool.and_eq_true _ _).mp hg_h_240_0).1
theorem hg_h_240_1 : (t_chk [] c_242 n_242 142 && (t_chk [] c_243 n_243 126)) = true := ((Bool.and_eq_true _ _).mp hg_h_240_0).2
theorem k_241 : t_Con c_241 := t_chk_ok h_241 ((fun _ h => absurd h List.not_mem_nil))
theorem h_242 : t_chk [] c_242 n_242 142 = true := ((Bool.and_eq_true _ _).mp hg_h_240_1).1
theorem k_242 : t_Con c_242 := t_chk_ok h_242 ((fun _ h => absurd h List.not_mem_nil))
theorem h_243 : t_chk [] c_243 n_243 126 = true := ((Bool.and_eq_true _ _).mp hg_h_240_1).2
theorem k_243 : t_Con c_243 := t_chk_ok h_243 ((fun _ h => absurd h List.not_mem_nil))
set_option maxRecDepth 1000000 in
theorem hg_h_244 : (t_chk [] c_244 n_244 122 && (t_chk [c_51] c_245 n_245 77 && (t_chk [c_155] c_246 n_246 91 && (t_chk [] c_247 n_247 72)))) = true := by decide +kernel
theorem h_244 : t_chk [] c_244 n_244 122 = true := ((Bool.and_eq_true _ _).mp hg_h_244).1
theorem hg_h_244_0 : (t_chk [c_51] c_245 n_245 77 && (t_chk [c_155] c_246 n_246 91 && (t_chk [] c_247 n_247 72))) = true := ((Bool.and_eq_true _ _).mp hg_h_244).2
theorem k_244 : t_Con c_244 := t_chk_ok h_244 ((fun _ h => absurd h List.not_mem_nil))
theorem h_245 : t_chk [c_51] c_245 n_245 77 = true := ((Bool.and_eq_true _ _).mp hg_h_244_0).1
theorem hg_h_244_1 : (t_chk [c_155] c_246 n_246 91 && (t_chk [] c_247 n_247 72)) = true := ((Bool.and_eq_true _ _).mp hg_h_244_0).2
theorem k_245 : t_Con c_245 := t_chk_ok h_245 (List.forall_mem_cons.mpr ⟨k_51, (fun _ h => absurd h List.not_mem_nil)⟩)
theorem h_246 : t_chk [c_155] c_246 n_246 91 = true := ((Bool.and_eq_true _ _).mp hg_h_244_1).1
theorem k_246 : t_Con c_246 := t_chk_ok h_246 (List.forall_mem_cons.mpr ⟨k_155, (fun _ h => absurd h List.not_mem_nil)⟩)
theorem h_247 : t_chk [] c_247 n_247 72 = true := ((Bool.and_eq_true _ _).mp hg_h_244_1).2
theorem k_247 : t_Con c_247 := t_chk_ok h_247 ((fun _ h => absurd h List.not_mem_nil))
set_option maxRecDepth 1000000 in
theorem hg_h_248 : (t_chk [c_243, c_244, c_245, c_246, c_247] c_248 n_248 83 && (t_chk [c_233] c_249 n_249 475 && (t_chk [c_33] c_250 n_250 79 && (t_chk [c_29, c_35, c_45, c_121] c_251 n_251 113)))) = true := by decide +kernel
theorem h_248 : t_chk [c_243, c_244, c_245, c_246, c_247] c_248 n_248 83 = true := ((Bool.and_eq_true _ _).mp hg_h_248).1
theorem hg_h_248_0 : (t_chk [c_233] c_249 n_249 475 && (t_chk [c_33] c_250 n_250 79 && (t_chk [c_29, c_35, c_45, c_121] c_251 n_251 113))) = true := ((Bool.and_eq_true _ _).mp hg_h_248).2
theorem k_248 : t_Con c_248 := t_chk_ok h_248 (List.forall_mem_cons.mpr ⟨k_243, List.forall_mem_cons.mpr ⟨k_244, List.forall_mem_cons.mpr ⟨k_245, List.forall_mem_cons.mpr ⟨k_246, List.forall_mem_cons.mpr ⟨k_247, (fun _ h => absurd h List.not_mem_nil)⟩⟩⟩⟩⟩)
theorem h_249 : t_chk [c_233] c_249 n_249 475 = true := ((Bool.and_eq_true _ _).mp hg_h_248_0).1
theorem hg_h_248_1 : (t_chk [c_33] c_250 n_250 79 && (t_chk [c_29, c_35, c_45, c_121] c_251 n_251 113)) = true := ((Bool.and_eq_true _ _).mp hg_h_248_0).2
theorem k_249 : t_Con c_249 := t_chk_ok h_249 (List.forall_mem_cons.mpr ⟨k_233, (fun _ h => absurd h List.not_mem_nil)⟩)
theorem h_250 : t_chk [c_33] c_250 n_250 79 = true := ((Bool.and_eq_true _ _).mp hg_h_248_1).1
theorem k_250 : t_Con c_250 := t_chk_ok h_250 (List.forall_mem_cons.mpr ⟨k_33, (fun _ h => absurd h List.not_mem_nil)⟩)
theorem h_251 : t_chk [c_29, c_35, c_45, c_121] c_251 n_251 113 = true := ((Bool.and_eq_true _ _).mp hg_h_248_1).2
theorem k_251 : t_Con c_251 := t_chk_ok h_251 (List.forall_mem_cons.mpr ⟨k_29, List.forall_mem_cons.mpr ⟨k_35, List.forall_mem_cons.mpr ⟨k_45, List.forall_mem_cons.mpr ⟨k_121, (fun _ h => absurd h List.not_mem_nil)⟩⟩⟩⟩)
set_option maxRecDepth 1000000 in
theorem hg_h_252 : (t_chk [] c_252 n_252 78 && (t_chk [c_249, c_250, c_251, c_252] c_253 n_253 87 && (t_chk [c_151] c_254 n_254 256 && (t_chk [c_153] c_255 n_255 279)))) = true := by decide +kernel
theorem h_252 : t_chk [] c_252 n_252 78 = true := ((Bool.and_eq_true _ _).mp hg_h_252).1
theorem hg_h_252_0 : (t_chk [c_249, c_250, c_251, c_252] c_253 n_253 87 && (t_chk [c_151] c_254 n_254 256 && (t_chk [c_153] c_255 n_255 279))) = true := ((Bool.and_eq_true _ _).mp hg_h_252).2
theorem k_252 : t_Con c_252 := t_chk_ok h_252 ((fun _ h => absurd h List.not_mem_nil))
theorem h_253 : t_chk [c_249, c_250, c_251, c_252] c_253 n_253 87 = true := ((Bool.and_eq_true _ _).mp hg_h_252_0).1
theorem hg_h_252_1 : (t_chk [c_151] c_254 n_254 256 && (t_chk [c_153] c_255 n_255 279)) = true := ((Bool.and_eq_true _ _).mp hg_h_252_0).2
theorem k_253 : t_Con c_253 := t_chk_ok h_253 (List.forall_mem_cons.mpr ⟨k_249, List.forall_mem_cons.mpr ⟨k_250, List.forall_mem_cons.mpr ⟨k_251, List.forall_mem_cons.mpr ⟨k_252, (fun _ h => absurd h List.not_mem_nil)⟩⟩⟩⟩)
theorem h_254 : t_chk [c_151] c_254 n_254 256 = true := ((Bool.and_eq_true _ _).mp hg_h_252_1).1
theorem k_254 : t_Con c_254 := t_chk_ok h_254 (List.forall_mem_cons.mpr ⟨k_151, (fun _ h => absurd h List.not_mem_nil)⟩)
theorem h_255 : t_chk [c_153] c_255 n_255 279 = true := ((Bool.and_eq_true _ _).mp hg_h_252_1).2
theorem k_255 : t_Con c_255 := t_chk_ok h_255 (List.forall_mem_cons.mpr ⟨k_153, (fun _ h => absurd h List.not_mem_nil)⟩)
set_option maxRecDepth 1000000 in
theorem hg_h_256 : (t_chk [] c_256 n_256 67 && (t_chk [] c_257 n_257 70 && (t_chk [] c_258 n_258 74 && (t_chk [] c_259 n_259 74)))) = true := by decide +kernel
theorem h_256 : t_chk [] c_256 n_256 67 = true := ((Bool.and_eq_true _ _).mp hg_h_256).1
theorem hg_h_256_0 : (t_chk [] c_257 n_257 70 && (t_chk [] c_258 n_258 74 && (t_chk [] c_259 n_259 74))) = true := ((Bool.and_eq_true _ _).mp hg_h_256).2
theorem k_256 : t_Con c_256 := t_chk_ok h_256 ((fun _ h => absurd h List.not_mem_nil))
theorem h_257 : t_chk [] c_257 n_257 70 = true := ((Bool.and_eq_true _ _).mp hg_h_256_0).1
theorem hg_h_256_1 : (t_chk [] c_258 n_258 74 && (t_chk [] c_259 n_259 74)) = true := ((Bool.and_eq_true _ _).mp hg_h_256_0).2
theorem k_257 : t_Con c_257 := t_chk_ok h_257 ((fun _ h => absurd h List.not_mem_nil))
theorem h_258 : t_chk [] c_258 n_258 74 = true := ((Bool.and_eq_true _ _).mp hg_h_256_1).1
theorem k_258 : t_Con c_258 := t_chk_ok h_258 ((fun _ h => absurd h List.not_mem_nil))
theorem h_259 : t_chk [] c_259 n_259 74 = true := ((Bool.and_eq_true _ _).mp hg_h_256_1).2
theorem k_259 : t_Con c_259 := t_chk_ok h_259 ((fun _ h => absurd h List.not_mem_nil))
set_option maxRecDepth 1000000 in
theorem hg_h_260 : (t_chk [] c_260 n_260 70 && (t_chk [] c_261 n_261 73 && (t_chk [] c_262 n_262 77 && (t_chk [] c_263 n_263 77)))) = true := by decide +kernel
theorem h_260 : t_chk [] c_260 n_260 70 = true := ((Bool.and_eq_true _ _).mp hg_h_260).1
theorem hg_h_260_0 : (t_chk [] c_261 n_261 73 && (t_chk [] c_262 n_262 77 && (t_chk [] c_263 n_263 77))) = true := ((Bool.and_eq_true _ _).mp hg_h_260).2
theorem k_260 : t_Con c_260 := t_chk_ok h_260 ((fun _ h => absurd h List.not_mem_nil))
theorem h_261 : t_chk [] c_261 n_261 73 = true := ((Bool.and_eq_true _ _).mp hg_h_260_0).1
theorem hg_h_260_1 : (t_chk [] c_262 n_262 77 && (t_chk [] c_263 n_263 77)) = true := ((Bool.and_eq_true _ _).mp hg_h_260_0).2
theorem k_261 : t_Con c_261 := t_chk_ok h_261 ((fun _ h => absurd h List.not_mem_nil))
theorem h_262 : t_chk [] c_262 n_262 77 = true := ((Bool.and_eq_true _ _).mp hg_h_260_1).1
theorem k_262 : t_Con c_262 := t_chk_ok h_262 ((fun _ h => absurd h List.not_mem_nil))
theorem h_263 : t_chk [] c_263 n_263 77 = true := ((Bool.and_eq_true _ _).mp hg_h_260_1).2
theorem k_263 : t_Con c_263 := t_chk_ok h_263 ((fun _ h => absurd h List.not_mem_nil))
set_option maxRecDepth 1000000 in
theorem hg_h_264 : (t_chk [] c_264 n_264 110 && (t_chk [] c_265 n_265 87 && (t_chk [] c_266 n_266 58 && (t_chk [] c_267 n_267 61)))) = true := by decide +kernel
theorem h_264 : t_chk [] c_264 n_264 110 = true := ((Bool.and_eq_true _ _).mp hg_h_264).1
theorem hg_h_264_0 : (t_chk [] c_265 n_265 87 && (t_chk [] c_266 n_266 58 && (t_chk [] c_267 n_267 61))) = true := ((Bool.and_eq_true _ _).mp hg_h_264).2
theorem k_264 : t_Con c_264 := t_chk_ok h_264 ((fun _ h => absurd h List.not_mem_nil))
theorem h_265 : t_chk [] c_265 n_265 87 = true := ((Bool.and_eq_true _ _).mp hg_h_264_0).1
theorem hg_h_264_1 : (t_chk [] c_266 n_266 58 && (t_chk [] c_267 n_267 61)) = true := ((Bool.and_eq_true _ _).mp hg_h_264_0).2
theorem k_265 : t_Con c_265 := t_chk_ok h_265 ((fun _ h => absurd h List.not_mem_nil))
theorem h_266 : t_chk [] c_266 n_266 58 = true := ((Bool.and_eq_true _ _).mp hg_h_264_1).1
theorem k_266 : t_Con c_266 := t_chk_ok h_266 ((fun _ h => absurd h List.not_mem_nil))
theorem h_267 : t_chk [] c_267 n_267 61 = true := ((Bool.and_eq_true _ _).mp hg_h_264_1).2
theorem k_267 : t_Con c_267 := t_chk_ok h_267 ((fun _ h => absurd h List.not_mem_nil))
set_option maxRecDepth 1000000 in
theorem hg_h_268 : (t_chk [c_7, c_193, c_207] c_268 n_268 195 && (t_chk [] c_269 n_269 67 && (t_chk [c_29, c_36, c_45, c_121, c_122, c_210, c_269] c_270 n_270 265 && (t_chk [] c_271 n_271 71)))) = true := by decide +kernel
theorem h_268 : t_chk [c_7, c_193, c_207] c_268 n_268 195 = true := ((Bool.and_eq_true _ _).mp hg_h_268).1
theorem hg_h_268_0 : (t_chk [] c_269 n_269 67 && (t_chk [c_29, c_36, c_45, c_121, c_122, c_210, c_269] c_270 n_270 265 && (t_chk [] c_271 n_271 71))) = true := ((Bool.and_eq_true _ _).mp hg_h_268).2
theorem k_268 : t_Con c_268 := t_chk_ok h_268 (List.forall_mem_cons.mpr ⟨k_7, List.forall_mem_cons.mpr ⟨k_193, List.forall_mem_cons.mpr ⟨k_207, (fun _ h => absurd h List.not_mem_nil)⟩⟩⟩)
theorem h_269 : t_chk [] c_269 n_269 67 = true := ((Bool.and_eq_true _ _).mp hg_h_268_0).1
theorem hg_h_268_1 : (t_chk [c_29, c_36, c_45, c_121, c_122, c_210, c_269] c_270 n_270 265 && (t_chk [] c_271 n_271 71)) = true := ((Bool.and_eq_true _ _).mp hg_h_268_0).2
theorem k_269 : t_Con c_269 := t_chk_ok h_269 ((fun _ h => absurd h List.not_mem_nil))
theorem h_270 : t_chk [c_29, c_36, c_45, c_121, c_122, c_210, c_269] c_270 n_270 265 = true := ((Bool.and_eq_true _ _).mp hg_h_268_1).1
theorem k_270 : t_Con c_270 := t_chk_ok h_270 (List.forall_mem_cons.mpr ⟨k_29, List.forall_mem_cons.mpr ⟨k_36, List.forall_mem_cons.mpr ⟨k_45, List.forall_mem_cons.mpr ⟨k_121, List.forall_mem_cons.mpr ⟨k_122, List.forall_mem_cons.mpr ⟨k_210, List.forall_mem_cons.mpr ⟨k_269, (fun _ h => absurd h List.not_mem_nil)⟩⟩⟩⟩⟩⟩⟩)
theorem h_271 : t_chk [] c_271 n_271 71 = true := ((Bool.and_eq_true _ _).mp hg_h_268_1).2
theorem k_271 : t_Con c_271 := t_chk_ok h_271 ((fun _ h => absurd h List.not_mem_nil))
set_option maxRecDepth 1000000 in
theorem hg_h_272 : (t_chk [c_271] c_272 n_272 235 && (t_chk [c_272] c_273 n_273 62 && (t_chk [] c_274 n_274 4062 && (t_chk [c_274] c_275 n_275 64)))) = true := by decide +kernel
theorem h_272 : t_chk [c_271] c_272 n_272 235 = true := ((Bool.and_eq_true _ _).mp hg_h_272).1
theorem hg_h_272_0 : (t_chk [c_272] c_273 n_273 62 && (t_chk [] c_274 n_274 4062 && (t_chk [c_274] c_275 n_275 64))) = true := ((Bool.and_eq_true _ _).mp hg_h_272).2
theorem k_272 : t_Con c_272 := t_chk_ok h_272 (List.forall_mem_cons.mpr ⟨k_271, (fun _ h => absurd h List.not_mem_nil)⟩)
theorem h_273 : t_chk [c_272] c_273 n_273 62 = true := ((Bool.and_eq_true _ _).mp hg_h_272_0).1
theorem hg_h_272_1 : (t_chk [] c_274 n_274 4062 && (t_chk [c_274] c_275 n_275 64)) = true := ((Bool.and_eq_true _ _).mp hg_h_272_0).2
theorem k_273 : t_Con c_273 := t_chk_ok h_273 (List.forall_mem_cons.mpr ⟨k_272, (fun _ h => absurd h List.not_mem_nil)⟩)
theorem h_274 : t_chk [] c_274 n_274 4062 = true := ((Bool.and_eq_true _ _).mp hg_h_272_1).1
theorem k_274 : t_Con c_274 := t_chk_ok h_274 ((fun _ h => absurd h List.not_mem_nil))
theorem h_275 : t_chk [c_274] c_275 n_275 64 = true := ((Bool.and_eq_true _ _).mp hg_h_272_1).2
theorem k_275 : t_Con c_275 := t_chk_ok h_275 (List.forall_mem_cons.mpr ⟨k_274, (fun _ h => absurd h List.not_mem_nil)⟩)
set_option maxRecDepth 1000000 in
theorem hg_h_276 : (t_chk [] c_276 n_276 71 && (t_chk [c_276] c_277 n_277 235)) = true := by decide +kernel
theorem h_276 : t_chk [] c_276 n_276 71 = true := ((Bool.and_eq_true _ _).mp hg_h_276).1
theorem k_276 : t_Con c_276 := t_chk_ok h_276 ((fun _ h => absurd h List.not_mem_nil))
theorem h_277 : t_chk [c_276] c_277 n_277 235 = true := ((Bool.and_eq_true _ _).mp hg_h_276).2
theorem k_277 : t_Con c_277 := t_chk_ok h_277 (List.forall_mem_cons.mpr ⟨k_276, (fun _ h => absurd h List.not_mem_nil)⟩)
