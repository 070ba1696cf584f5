/-! the contracts hold, part 8 -/
set_option maxRecDepth 1000000 in
theorem h_162 : t_chk [c_161] c_162 n_162 90 = true := by decide +kernel
theorem k_162 : t_Con c_162 := t_chk_ok h_162 (List.forall_mem_cons.mpr ⟨k_161, (fun _ h => absurd h List.not_mem_nil)⟩)
set_option maxRecDepth 1000000 in
theorem h_163 : t_chk [c_42, c_51, c_127, c_128] c_163 n_163 67 = true := by decide +kernel
theorem k_163 : t_Con c_163 := t_chk_ok h_163 (List.forall_mem_cons.mpr ⟨k_42, List.forall_mem_cons.mpr ⟨k_51, List.forall_mem_cons.mpr ⟨k_127, List.forall_mem_cons.mpr ⟨k_128, (fun _ h => absurd h List.not_mem_nil)⟩⟩⟩⟩)
set_option maxRecDepth 1000000 in
theorem h_164 : t_chk [c_35, c_163] c_164 n_164 122 = true := by decide +kernel
theorem k_164 : t_Con c_164 := t_chk_ok h_164 (List.forall_mem_cons.mpr ⟨k_35, List.forall_mem_cons.mpr ⟨k_163, (fun _ h => absurd h List.not_mem_nil)⟩⟩)
set_option maxRecDepth 1000000 in
theorem h_165 : t_chk [c_123] c_165 n_165 83 = true := by decide +kernel
theorem k_165 : t_Con c_165 := t_chk_ok h_165 (List.forall_mem_cons.mpr ⟨k_123, (fun _ h => absurd h List.not_mem_nil)⟩)
set_option maxRecDepth 1000000 in
theorem h_166 : t_chk [c_123, c_165] c_166 n_166 111 = true := by decide +kernel
theorem k_166 : t_Con c_166 := t_chk_ok h_166 (List.forall_mem_cons.mpr ⟨k_123, List.forall_mem_cons.mpr ⟨k_165, (fun _ h => absurd h List.not_mem_nil)⟩⟩)
set_option maxRecDepth 1000000 in
theorem h_167 : t_chk [c_35, c_41, c_51] c_167 n_167 108 = true := by decide +kernel
theorem k_167 : t_Con c_167 := t_chk_ok h_167 (List.forall_mem_cons.mpr ⟨k_35, List.forall_mem_cons.mpr ⟨k_41, List.forall_mem_cons.mpr ⟨k_51, (fun _ h => absurd h List.not_mem_nil)⟩⟩⟩)
set_option maxRecDepth 1000000 in
theorem h_168 : t_chk [c_167] c_168 n_168 190 = true := by decide +kernel
theorem k_168 : t_Con c_168 := t_chk_ok h_168 (List.forall_mem_cons.mpr ⟨k_167, (fun _ h => absurd h List.not_mem_nil)⟩)
set_option maxRecDepth 1000000 in
theorem h_169 : t_chk [c_57] c_169 n_169 162 = true := by decide +kernel
theorem k_169 : t_Con c_169 := t_chk_ok h_169 (List.forall_mem_cons.mpr ⟨k_57, (fun _ h => absurd h List.not_mem_nil)⟩)
set_option maxRecDepth 1000000 in
theorem h_170 : t_chk [c_39] c_170 n_170 206 = true := by decide +kernel
theorem k_170 : t_Con c_170 := t_chk_ok h_170 (List.forall_mem_cons.mpr ⟨k_39, (fun _ h => absurd h List.not_mem_nil)⟩)
set_option maxRecDepth 1000000 in
theorem h_171 : t_chk [c_57, c_105] c_171 n_171 115 = true := by decide +kernel
theorem k_171 : t_Con c_171 := t_chk_ok h_171 (List.forall_mem_cons.mpr ⟨k_57, List.forall_mem_cons.mpr ⟨k_105, (fun _ h => absurd h List.not_mem_nil)⟩⟩)
set_option maxRecDepth 1000000 in
theorem h_172 : t_chk [c_171] c_172 n_172 196 = true := by decide +kernel
theorem k_172 : t_Con c_172 := t_chk_ok h_172 (List.forall_mem_cons.mpr ⟨k_171, (fun _ h => absurd h List.not_mem_nil)⟩)
set_option maxRecDepth 1000000 in
theorem h_173 : t_chk [c_39] c_173 n_173 72 = true := by decide +kernel
theorem k_173 : t_Con c_173 := t_chk_ok h_173 (List.forall_mem_cons.mpr ⟨k_39, (fun _ h => absurd h List.not_mem_nil)⟩)
set_option maxRecDepth 1000000 in
theorem h_174 : t_chk [c_48, c_173] c_174 n_174 106 = true := by decide +kernel
theorem k_174 : t_Con c_174 := t_chk_ok h_174 (List.forall_mem_cons.mpr ⟨k_48, List.forall_mem_cons.mpr ⟨k_173, (fun _ h => absurd h List.not_mem_nil)⟩⟩)
set_option maxRecDepth 1000000 in
theorem h_175 : t_chk [c_174] c_175 n_175 222 = true := by decide +kernel
theorem k_175 : t_Con c_175 := t_chk_ok h_175 (List.forall_mem_cons.mpr ⟨k_174, (fun _ h => absurd h List.not_mem_nil)⟩)
set_option maxRecDepth 1000000 in
theorem h_176 : t_chk [c_104] c_176 n_176 235 = true := by decide +kernel
theorem k_176 : t_Con c_176 := t_chk_ok h_176 (List.forall_mem_cons.mpr ⟨k_104, (fun _ h => absurd h List.not_mem_nil)⟩)
set_option maxRecDepth 1000000 in
theorem h_177 : t_chk [c_47] c_177 n_177 329 = true := by decide +kernel
theorem k_177 : t_Con c_177 := t_chk_ok h_177 (List.forall_mem_cons.mpr ⟨k_47, (fun _ h => absurd h List.not_mem_nil)⟩)
set_option maxRecDepth 1000000 in
theorem h_178 : t_chk [c_171] c_178 n_178 81 = true := by decide +kernel
theorem k_178 : t_Con c_178 := t_chk_ok h_178 (List.forall_mem_cons.mpr ⟨k_171, (fun _ h => absurd h List.not_mem_nil)⟩)
set_option maxRecDepth 1000000 in
theorem h_179 : t_chk [c_178] c_179 n_179 106 = true := by decide +kernel
theorem k_179 : t_Con c_179 := t_chk_ok h_179 (List.forall_mem_cons.mpr ⟨k_178, (fun _ h => absurd h List.not_mem_nil)⟩)
set_option maxRecDepth 1000000 in
theorem h_180 : t_chk [c_174] c_180 n_180 87 = true := by decide +kernel
theorem k_180 : t_Con c_180 := t_chk_ok h_180 (List.forall_mem_cons.mpr ⟨k_174, (fun _ h => absurd h List.not_mem_nil)⟩)
set_option maxRecDepth 1000000 in
theorem h_181 : t_chk [c_180] c_181 n_181 119 = true := by decide +kernel
theorem k_181 : t_Con c_181 := t_chk_ok h_181 (List.forall_mem_cons.mpr ⟨k_180, (fun _ h => absurd h List.not_mem_nil)⟩)
set_option maxRecDepth 1000000 in
theorem h_182 : t_chk [] c_182 n_182 65 = true := by decide +kernel
theorem k_182 : t_Con c_182 := t_chk_ok h_182 ((fun _ h => absurd h List.not_mem_nil))
set_option maxRecDepth 1000000 in
theorem h_183 : t_chk [] c_183 n_183 150 = true := by decide +kernel
theorem k_183 : t_Con c_183 := t_chk_ok h_183 ((fun _ h => absurd h List.not_mem_nil))
set_option maxRecDepth 1000000 in
theorem h_184 : t_chk [c_178, c_182, c_183] c_184 n_184 135 = true := by decide +kernel
theorem k_184 : t_Con c_184 := t_chk_ok h_184 (List.forall_mem_cons.mpr ⟨k_178, List.forall_mem_cons.mpr ⟨k_182, List.forall_mem_cons.mpr ⟨k_183, (fun _ h => absurd h List.not_mem_nil)⟩⟩⟩)
set_option maxRecDepth 1000000 in
theorem h_185 : t_chk [] c_185 n_185 110 = true := by decide +kernel
theorem k_185 : t_Con c_185 := t_chk_ok h_185 ((fun _ h => absurd h List.not_mem_nil))
set_option maxRecDepth 1000000 in
theorem h_186 : t_chk [c_185] c_186 n_186 118 = true := by decide +kernel
theorem k_186 : t_Con c_186 := t_chk_ok h_186 (List.forall_mem_cons.mpr ⟨k_185, (fun _ h => absurd h List.not_mem_nil)⟩)
set_option maxRecDepth 1000000 in
theorem h_187 : t_chk [c_184, c_186] c_187 n_187 135 = true := by decide +kernel
theorem k_187 : t_Con c_187 := t_chk_ok h_187 (List.forall_mem_cons.mpr ⟨k_184, List.forall_mem_cons.mpr ⟨k_186, (fun _ h => absurd h List.not_mem_nil)⟩⟩)
set_option maxRecDepth 1000000 in
theorem h_188 : t_chk [] c_188 n_188 62 = true := by decide +kernel
theorem k_188 : t_Con c_188 := t_chk_ok h_188 ((fun _ h => absurd h List.not_mem_nil))
set_option maxRecDepth 1000000 in
theorem h_189 : t_chk [] c_189 n_189 62 = true := by decide +kernel
theorem k_189 : t_Con c_189 := t_chk_ok h_189 ((fun _ h => absurd h List.not_mem_nil))
set_option maxRecDepth 1000000 in
theorem h_190 : t_chk [c_189] c_190 n_190 72 = true := by decide +kernel
theorem k_190 : t_Con c_190 := t_chk_ok h_190 (List.forall_mem_cons.mpr ⟨k_189, (fun _ h => absurd h List.not_mem_nil)⟩)
set_option maxRecDepth 1000000 in
theorem h_191 : t_chk [c_180, c_188, c_190] c_191 n_191 225 = true := by decide +kernel
theorem k_191 : t_Con c_191 := t_chk_ok h_191 (List.forall_mem_cons.mpr ⟨k_180, List.forall_mem_cons.mpr ⟨k_188, List.forall_mem_cons.mpr ⟨k_190, (fun _ h => absurd h List.not_mem_nil)⟩⟩⟩)
set_option maxRecDepth 1000000 in
theorem h_192 : t_chk [c_188, c_190] c_192 n_192 112 = true := by decide +kernel
theorem k_192 : t_Con c_192 := t_chk_ok h_192 (List.forall_mem_cons.mpr ⟨k_188, List.forall_mem_cons.mpr ⟨k_190, (fun _ h => absurd h List.not_mem_nil)⟩⟩)
set_option maxRecDepth 1000000 in
theorem h_193 : t_chk [c_188, c_190] c_193 n_193 112 = true := by decide +kernel
theorem k_193 : t_Con c_193 := t_chk_ok h_193 (List.forall_mem_cons.mpr ⟨k_188, List.forall_mem_cons.mpr ⟨k_190, (fun _ h => absurd h List.not_mem_nil)⟩⟩)
set_option maxRecDepth 1000000 in
theorem h_194 : t_chk [c_191, c_193] c_194 n_194 226 = true := by decide +kernel
theorem k_194 : t_Con c_194 := t_chk_ok h_194 (List.forall_mem_cons.mpr ⟨k_191, List.forall_mem_cons.mpr ⟨k_193, (fun _ h => absurd h List.not_mem_nil)⟩⟩)
set_option maxRecDepth 1000000 in
theorem h_195 : t_chk [c_180, c_188, c_190] c_195 n_195 179 = true := by decide +kernel
theorem k_195 : t_Con c_195 := t_chk_ok h_195 (List.forall_mem_cons.mpr ⟨k_180, List.forall_mem_cons.mpr ⟨k_188, List.forall_mem_cons.mpr ⟨k_190, (fun _ h => absurd h List.not_mem_nil)⟩⟩⟩)
set_option maxRecDepth 1000000 in
theorem h_196 : t_chk [c_192, c_195] c_196 n_196 226 = true := by decide +kernel
theorem k_196 : t_Con c_196 := t_chk_ok h_196 (List.forall_mem_cons.mpr ⟨k_192, List.forall_mem_cons.mpr ⟨k_195, (fun _ h => absurd h List.not_mem_nil)⟩⟩)
set_option maxRecDepth 1000000 in
theorem h_197 : t_chk [c_22, c_27] c_197 n_197 89 = true := by decide +kernel
theorem k_197 : t_Con c_197 := t_chk_ok h_197 (List.forall_mem_cons.mpr ⟨k_22, List.forall_mem_cons.mpr ⟨k_27, (fun _ h => absurd h List.not_mem_nil)⟩⟩)
set_option maxRecDepth 1000000 in
theorem h_198 : t_chk [c_197] c_198 n_198 66 = true := by decide +kernel
theorem k_198 : t_Con c_198 := t_chk_ok h_198 (List.forall_mem_cons.mpr ⟨k_197, (fun _ h => absurd h List.not_mem_nil)⟩)
set_option maxRecDepth 1000000 in
theorem h_199 : t_chk [c_198] c_199 n_199 70 = true := by decide +kernel
theorem k_199 : t_Con c_199 := t_chk_ok h_199 (List.forall_mem_cons.mpr ⟨k_198, (fun _ h => absurd h List.not_mem_nil)⟩)
set_option maxRecDepth 1000000 in
theorem h_200 : t_chk [c_13, c_161, c_199] c_200 n_200 147 = true := by decide +kernel
theorem k_200 : t_Con c_200 := t_chk_ok h_200 (List.forall_mem_cons.mpr ⟨k_13, List.forall_mem_cons.mpr ⟨k_161, List.forall_mem_cons.mpr ⟨k_199, (fun _ h => absurd h List.not_mem_nil)⟩⟩⟩)
set_option maxRecDepth 1000000 in
theorem h_201 : t_chk [c_35, c_163] c_201 n_201 184 = true := by decide +kernel
theorem k_201 : t_Con c_201 := t_chk_ok h_201 (List.forall_mem_cons.mpr ⟨k_35, List.forall_mem_cons.mpr ⟨k_163, (fun _ h => absurd h List.not_mem_nil)⟩⟩)
set_option maxRecDepth 1000000 in
theorem h_202 : t_chk [] c_202 n_202 92 = true := by decide +kernel
theorem k_202 : t_Con c_202 := t_chk_ok h_202 ((fun _ h => absurd h List.not_mem_nil))
set_option maxRecDepth 1000000 in
theorem h_203 : t_chk [c_18, c_31] c_203 n_203 115 = true := by decide +kernel
theorem k_203 : t_Con c_203 := t_chk_ok h_203 (List.forall_mem_cons.mpr ⟨k_18, List.forall_mem_cons.mpr ⟨k_31, (fun _ h => absurd h List.not_mem_nil)⟩⟩)
set_option maxRecDepth 1000000 in
theorem h_204 : t_chk [c_203] c_204 n_204 81 = true := by decide +kernel
theorem k_204 : t_Con c_204 := t_chk_ok h_204 (List.forall_mem_cons.mpr ⟨k_203, (fun _ h => absurd h List.not_mem_nil)⟩)
set_option maxRecDepth 1000000 in
theorem h_205 : t_chk [c_13, c_178, c_202, c_204] c_205 n_205 205 = true := by decide +kernel
theorem k_205 : t_Con c_205 := t_chk_ok h_205 (List.forall_mem_cons.mpr ⟨k_13, List.forall_mem_cons.mpr ⟨k_178, List.forall_mem_cons.mpr ⟨k_202, List.forall_mem_cons.mpr ⟨k_204, (fun _ h => absurd h List.not_mem_nil)⟩⟩⟩⟩)
set_option maxRecDepth 1000000 in
theorem h_206 : t_chk [c_128, c_180] c_206 n_206 237 = true := by decide +kernel
theorem k_206 : t_Con c_206 := t_chk_ok h_206 (List.forall_mem_cons.mpr ⟨k_128, List.forall_mem_cons.mpr ⟨k_180, (fun _ h => absurd h List.not_mem_nil)⟩⟩)
set_option maxRecDepth 1000000 in
theorem h_207 : t_chk [] c_207 n_207 70 = true := by decide +kernel
theorem k_207 : t_Con c_207 := t_chk_ok h_207 ((fun _ h => absurd h List.not_mem_nil))
set_option maxRecDepth 1000000 in
theorem h_208 : t_chk [c_207] c_208 n_208 77 = true := by decide +kernel
theorem k_208 : t_Con c_208 := t_chk_ok h_208 (List.forall_mem_cons.mpr ⟨k_207, (fun _ h => absurd h List.not_mem_nil)⟩)
set_option maxRecDepth 1000000 in
theorem h_209 : t_chk [c_119, c_208] c_209 n_209 142 = true := by decide +kernel
theorem k_209 : t_Con c_209 := t_chk_ok h_209 (List.forall_mem_cons.mpr ⟨k_119, List.forall_mem_cons.mpr ⟨k_208, (fun _ h => absurd h List.not_mem_nil)⟩⟩)
