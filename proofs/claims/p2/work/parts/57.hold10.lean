/-! the contracts hold, part 10 -/
set_option maxRecDepth 1000000 in
theorem h_246 : t_chk [c_0] c_246 n_246 248 = true := by decide +kernel
theorem k_246 : t_Con c_246 := t_chk_ok h_246 (List.forall_mem_cons.mpr ⟨k_0, (fun _ h => absurd h List.not_mem_nil)⟩)
set_option maxRecDepth 1000000 in
theorem h_247 : t_chk [] c_247 n_247 135 = true := by decide +kernel
theorem k_247 : t_Con c_247 := t_chk_ok h_247 ((fun _ h => absurd h List.not_mem_nil))
set_option maxRecDepth 1000000 in
theorem h_248 : t_chk [] c_248 n_248 142 = true := by decide +kernel
theorem k_248 : t_Con c_248 := t_chk_ok h_248 ((fun _ h => absurd h List.not_mem_nil))
set_option maxRecDepth 1000000 in
theorem h_249 : t_chk [] c_249 n_249 126 = true := by decide +kernel
theorem k_249 : t_Con c_249 := t_chk_ok h_249 ((fun _ h => absurd h List.not_mem_nil))
set_option maxRecDepth 1000000 in
theorem h_250 : t_chk [] c_250 n_250 122 = true := by decide +kernel
theorem k_250 : t_Con c_250 := t_chk_ok h_250 ((fun _ h => absurd h List.not_mem_nil))
set_option maxRecDepth 1000000 in
theorem h_251 : t_chk [c_57] c_251 n_251 77 = true := by decide +kernel
theorem k_251 : t_Con c_251 := t_chk_ok h_251 (List.forall_mem_cons.mpr ⟨k_57, (fun _ h => absurd h List.not_mem_nil)⟩)
set_option maxRecDepth 1000000 in
theorem h_252 : t_chk [c_161] c_252 n_252 91 = true := by decide +kernel
theorem k_252 : t_Con c_252 := t_chk_ok h_252 (List.forall_mem_cons.mpr ⟨k_161, (fun _ h => absurd h List.not_mem_nil)⟩)
set_option maxRecDepth 1000000 in
theorem h_253 : t_chk [] c_253 n_253 72 = true := by decide +kernel
theorem k_253 : t_Con c_253 := t_chk_ok h_253 ((fun _ h => absurd h List.not_mem_nil))
set_option maxRecDepth 1000000 in
theorem h_254 : t_chk [c_249, c_250, c_251, c_252, c_253] c_254 n_254 83 = true := by decide +kernel
theorem k_254 : t_Con c_254 := t_chk_ok h_254 (List.forall_mem_cons.mpr ⟨k_249, List.forall_mem_cons.mpr ⟨k_250, List.forall_mem_cons.mpr ⟨k_251, List.forall_mem_cons.mpr ⟨k_252, List.forall_mem_cons.mpr ⟨k_253, (fun _ h => absurd h List.not_mem_nil)⟩⟩⟩⟩⟩)
set_option maxRecDepth 1000000 in
theorem h_255 : t_chk [c_239] c_255 n_255 475 = true := by decide +kernel
theorem k_255 : t_Con c_255 := t_chk_ok h_255 (List.forall_mem_cons.mpr ⟨k_239, (fun _ h => absurd h List.not_mem_nil)⟩)
set_option maxRecDepth 1000000 in
theorem h_256 : t_chk [c_39] c_256 n_256 79 = true := by decide +kernel
theorem k_256 : t_Con c_256 := t_chk_ok h_256 (List.forall_mem_cons.mpr ⟨k_39, (fun _ h => absurd h List.not_mem_nil)⟩)
set_option maxRecDepth 1000000 in
theorem h_257 : t_chk [c_35, c_41, c_51, c_127] c_257 n_257 113 = true := by decide +kernel
theorem k_257 : t_Con c_257 := t_chk_ok h_257 (List.forall_mem_cons.mpr ⟨k_35, List.forall_mem_cons.mpr ⟨k_41, List.forall_mem_cons.mpr ⟨k_51, List.forall_mem_cons.mpr ⟨k_127, (fun _ h => absurd h List.not_mem_nil)⟩⟩⟩⟩)
set_option maxRecDepth 1000000 in
theorem h_258 : t_chk [] c_258 n_258 78 = true := by decide +kernel
theorem k_258 : t_Con c_258 := t_chk_ok h_258 ((fun _ h => absurd h List.not_mem_nil))
set_option maxRecDepth 1000000 in
theorem h_259 : t_chk [c_255, c_256, c_257, c_258] c_259 n_259 87 = true := by decide +kernel
theorem k_259 : t_Con c_259 := t_chk_ok h_259 (List.forall_mem_cons.mpr ⟨k_255, List.forall_mem_cons.mpr ⟨k_256, List.forall_mem_cons.mpr ⟨k_257, List.forall_mem_cons.mpr ⟨k_258, (fun _ h => absurd h List.not_mem_nil)⟩⟩⟩⟩)
set_option maxRecDepth 1000000 in
theorem h_260 : t_chk [c_157] c_260 n_260 256 = true := by decide +kernel
theorem k_260 : t_Con c_260 := t_chk_ok h_260 (List.forall_mem_cons.mpr ⟨k_157, (fun _ h => absurd h List.not_mem_nil)⟩)
set_option maxRecDepth 1000000 in
theorem h_261 : t_chk [c_159] c_261 n_261 279 = true := by decide +kernel
theorem k_261 : t_Con c_261 := t_chk_ok h_261 (List.forall_mem_cons.mpr ⟨k_159, (fun _ h => absurd h List.not_mem_nil)⟩)
set_option maxRecDepth 1000000 in
theorem h_262 : t_chk [] c_262 n_262 119 = true := by decide +kernel
theorem k_262 : t_Con c_262 := t_chk_ok h_262 ((fun _ h => absurd h List.not_mem_nil))
set_option maxRecDepth 1000000 in
theorem h_263 : t_chk [] c_263 n_263 122 = true := by decide +kernel
theorem k_263 : t_Con c_263 := t_chk_ok h_263 ((fun _ h => absurd h List.not_mem_nil))
set_option maxRecDepth 1000000 in
theorem h_264 : t_chk [] c_264 n_264 110 = true := by decide +kernel
theorem k_264 : t_Con c_264 := t_chk_ok h_264 ((fun _ h => absurd h List.not_mem_nil))
set_option maxRecDepth 1000000 in
theorem h_265 : t_chk [] c_265 n_265 87 = true := by decide +kernel
theorem k_265 : t_Con c_265 := t_chk_ok h_265 ((fun _ h => absurd h List.not_mem_nil))
set_option maxRecDepth 1000000 in
theorem h_266 : t_chk [] c_266 n_266 58 = true := by decide +kernel
theorem k_266 : t_Con c_266 := t_chk_ok h_266 ((fun _ h => absurd h List.not_mem_nil))
set_option maxRecDepth 1000000 in
theorem h_267 : t_chk [] c_267 n_267 61 = true := by decide +kernel
theorem k_267 : t_Con c_267 := t_chk_ok h_267 ((fun _ h => absurd h List.not_mem_nil))
set_option maxRecDepth 1000000 in
theorem h_268 : t_chk [c_13, c_199, c_213] c_268 n_268 195 = true := by decide +kernel
theorem k_268 : t_Con c_268 := t_chk_ok h_268 (List.forall_mem_cons.mpr ⟨k_13, List.forall_mem_cons.mpr ⟨k_199, List.forall_mem_cons.mpr ⟨k_213, (fun _ h => absurd h List.not_mem_nil)⟩⟩⟩)
set_option maxRecDepth 1000000 in
theorem h_269 : t_chk [] c_269 n_269 67 = true := by decide +kernel
theorem k_269 : t_Con c_269 := t_chk_ok h_269 ((fun _ h => absurd h List.not_mem_nil))
set_option maxRecDepth 1000000 in
theorem h_270 : t_chk [c_35, c_42, c_51, c_127, c_128, c_216, c_269] c_270 n_270 265 = true := by decide +kernel
theorem k_270 : t_Con c_270 := t_chk_ok h_270 (List.forall_mem_cons.mpr ⟨k_35, List.forall_mem_cons.mpr ⟨k_42, List.forall_mem_cons.mpr ⟨k_51, List.forall_mem_cons.mpr ⟨k_127, List.forall_mem_cons.mpr ⟨k_128, List.forall_mem_cons.mpr ⟨k_216, List.forall_mem_cons.mpr ⟨k_269, (fun _ h => absurd h List.not_mem_nil)⟩⟩⟩⟩⟩⟩⟩)
set_option maxRecDepth 1000000 in
theorem h_271 : t_chk [] c_271 n_271 71 = true := by decide +kernel
theorem k_271 : t_Con c_271 := t_chk_ok h_271 ((fun _ h => absurd h List.not_mem_nil))
set_option maxRecDepth 1000000 in
theorem h_272 : t_chk [c_271] c_272 n_272 235 = true := by decide +kernel
theorem k_272 : t_Con c_272 := t_chk_ok h_272 (List.forall_mem_cons.mpr ⟨k_271, (fun _ h => absurd h List.not_mem_nil)⟩)
set_option maxRecDepth 1000000 in
theorem h_273 : t_chk [c_272] c_273 n_273 62 = true := by decide +kernel
theorem k_273 : t_Con c_273 := t_chk_ok h_273 (List.forall_mem_cons.mpr ⟨k_272, (fun _ h => absurd h List.not_mem_nil)⟩)
set_option maxRecDepth 1000000 in
theorem h_274 : t_chk [] c_274 n_274 4062 = true := by decide +kernel
theorem k_274 : t_Con c_274 := t_chk_ok h_274 ((fun _ h => absurd h List.not_mem_nil))
set_option maxRecDepth 1000000 in
theorem h_275 : t_chk [c_274] c_275 n_275 64 = true := by decide +kernel
theorem k_275 : t_Con c_275 := t_chk_ok h_275 (List.forall_mem_cons.mpr ⟨k_274, (fun _ h => absurd h List.not_mem_nil)⟩)
set_option maxRecDepth 1000000 in
theorem h_276 : t_chk [] c_276 n_276 71 = true := by decide +kernel
theorem k_276 : t_Con c_276 := t_chk_ok h_276 ((fun _ h => absurd h List.not_mem_nil))
set_option maxRecDepth 1000000 in
theorem h_277 : t_chk [c_276] c_277 n_277 235 = true := by decide +kernel
theorem k_277 : t_Con c_277 := t_chk_ok h_277 (List.forall_mem_cons.mpr ⟨k_276, (fun _ h => absurd h List.not_mem_nil)⟩)
set_option maxRecDepth 1000000 in
theorem h_278 : t_chk [c_277] c_278 n_278 84 = true := by decide +kernel
theorem k_278 : t_Con c_278 := t_chk_ok h_278 (List.forall_mem_cons.mpr ⟨k_277, (fun _ h => absurd h List.not_mem_nil)⟩)
set_option maxRecDepth 1000000 in
theorem h_279 : t_chk [] c_279 n_279 71 = true := by decide +kernel
theorem k_279 : t_Con c_279 := t_chk_ok h_279 ((fun _ h => absurd h List.not_mem_nil))
set_option maxRecDepth 1000000 in
theorem h_280 : t_chk [] c_280 n_280 3384 = true := by decide +kernel
theorem k_280 : t_Con c_280 := t_chk_ok h_280 ((fun _ h => absurd h List.not_mem_nil))
