/-! the contracts hold, part 8 -/
set_option maxRecDepth 1000000 in
theorem hg_h_156 : (t_chk [c_155] c_156 n_156 90 && (t_chk [c_36, c_45, c_121, c_122] c_157 n_157 67 && (t_chk [c_29, c_157] c_158 n_158 122 && (t_chk [c_117] c_159 n_159 83)))) = true := by decide +kernel
theorem h_156 : t_chk [c_155] c_156 n_156 90 = true := ((Bool.and_eq_true _ _).mp hg_h_156).1
theorem hg_h_156_0 : (t_chk [c_36, c_45, c_121, c_122] c_157 n_157 67 && (t_chk [c_29, c_157] c_158 n_158 122 && (t_chk [c_117] c_159 n_159 83))) = true := ((Bool.and_eq_true _ _).mp hg_h_156).2
theorem k_156 : t_Con c_156 := t_chk_ok h_156 (List.forall_mem_cons.mpr ⟨k_155, (fun _ h => absurd h List.not_mem_nil)⟩)
theorem h_157 : t_chk [c_36, c_45, c_121, c_122] c_157 n_157 67 = true := ((Bool.and_eq_true _ _).mp hg_h_156_0).1
theorem hg_h_156_1 : (t_chk [c_29, c_157] c_158 n_158 122 && (t_chk [c_117] c_159 n_159 83)) = true := ((Bool.and_eq_true _ _).mp hg_h_156_0).2
theorem k_157 : t_Con c_157 := t_chk_ok h_157 (List.forall_mem_cons.mpr ⟨k_36, List.forall_mem_cons.mpr ⟨k_45, List.forall_mem_cons.mpr ⟨k_121, List.forall_mem_cons.mpr ⟨k_122, (fun _ h => absurd h List.not_mem_nil)⟩⟩⟩⟩)
theorem h_158 : t_chk [c_29, c_157] c_158 n_158 122 = true := ((Bool.and_eq_true _ _).mp hg_h_156_1).1
theorem k_158 : t_Con c_158 := t_chk_ok h_158 (List.forall_mem_cons.mpr ⟨k_29, List.forall_mem_cons.mpr ⟨k_157, (fun _ h => absurd h List.not_mem_nil)⟩⟩)
theorem h_159 : t_chk [c_117] c_159 n_159 83 = true := ((Bool.and_eq_true _ _).mp hg_h_156_1).2
theorem k_159 : t_Con c_159 := t_chk_ok h_159 (List.forall_mem_cons.mpr ⟨k_117, (fun _ h => absurd h List.not_mem_nil)⟩)
set_option maxRecDepth 1000000 in
theorem hg_h_160 : (t_chk [c_117, c_159] c_160 n_160 111 && (t_chk [c_29, c_35, c_45] c_161 n_161 108 && (t_chk [c_161] c_162 n_162 190 && (t_chk [c_51] c_163 n_163 162)))) = true := by decide +kernel
theorem h_160 : t_chk [c_117, c_159] c_160 n_160 111 = true := ((Bool.and_eq_true _ _).mp hg_h_160).1
theorem hg_h_160_0 : (t_chk [c_29, c_35, c_45] c_161 n_161 108 && (t_chk [c_161] c_162 n_162 190 && (t_chk [c_51] c_163 n_163 162))) = true := ((Bool.and_eq_true _ _).mp hg_h_160).2
theorem k_160 : t_Con c_160 := t_chk_ok h_160 (List.forall_mem_cons.mpr ⟨k_117, List.forall_mem_cons.mpr ⟨k_159, (fun _ h => absurd h List.not_mem_nil)⟩⟩)
theorem h_161 : t_chk [c_29, c_35, c_45] c_161 n_161 108 = true := ((Bool.and_eq_true _ _).mp hg_h_160_0).1
theorem hg_h_160_1 : (t_chk [c_161] c_162 n_162 190 && (t_chk [c_51] c_163 n_163 162)) = true := ((Bool.and_eq_true _ _).mp hg_h_160_0).2
theorem k_161 : t_Con c_161 := t_chk_ok h_161 (List.forall_mem_cons.mpr ⟨k_29, List.forall_mem_cons.mpr ⟨k_35, List.forall_mem_cons.mpr ⟨k_45, (fun _ h => absurd h List.not_mem_nil)⟩⟩⟩)
theorem h_162 : t_chk [c_161] c_162 n_162 190 = true := ((Bool.and_eq_true _ _).mp hg_h_160_1).1
theorem k_162 : t_Con c_162 := t_chk_ok h_162 (List.forall_mem_cons.mpr ⟨k_161, (fun _ h => absurd h List.not_mem_nil)⟩)
theorem h_163 : t_chk [c_51] c_163 n_163 162 = true := ((Bool.and_eq_true _ _).mp hg_h_160_1).2
theorem k_163 : t_Con c_163 := t_chk_ok h_163 (List.forall_mem_cons.mpr ⟨k_51, (fun _ h => absurd h List.not_mem_nil)⟩)
set_option maxRecDepth 1000000 in
theorem hg_h_164 : (t_chk [c_33] c_164 n_164 206 && (t_chk [c_51, c_99] c_165 n_165 115 && (t_chk [c_165] c_166 n_166 196 && (t_chk [c_33] c_167 n_167 72)))) = true := by decide +kernel
theorem h_164 : t_chk [c_33] c_164 n_164 206 = true := ((Bool.and_eq_true _ _).mp hg_h_164).1
theorem hg_h_164_0 : (t_chk [c_51, c_99] c_165 n_165 115 && (t_chk [c_165] c_166 n_166 196 && (t_chk [c_33] c_167 n_167 72))) = true := ((Bool.and_eq_true _ _).mp hg_h_164).2
theorem k_164 : t_Con c_164 := t_chk_ok h_164 (List.forall_mem_cons.mpr ⟨k_33, (fun _ h => absurd h List.not_mem_nil)⟩)
theorem h_165 : t_chk [c_51, c_99] c_165 n_165 115 = true := ((Bool.and_eq_true _ _).mp hg_h_164_0).1
theorem hg_h_164_1 : (t_chk [c_165] c_166 n_166 196 && (t_chk [c_33] c_167 n_167 72)) = true := ((Bool.and_eq_true _ _).mp hg_h_164_0).2
theorem k_165 : t_Con c_165 := t_chk_ok h_165 (List.forall_mem_cons.mpr ⟨k_51, List.forall_mem_cons.mpr ⟨k_99, (fun _ h => absurd h List.not_mem_nil)⟩⟩)
theorem h_166 : t_chk [c_165] c_166 n_166 196 = true := ((Bool.and_eq_true _ _).mp hg_h_164_1).1
theorem k_166 : t_Con c_166 := t_chk_ok h_166 (List.forall_mem_cons.mpr ⟨k_165, (fun _ h => absurd h List.not_mem_nil)⟩)
theorem h_167 : t_chk [c_33] c_167 n_167 72 = true := ((Bool.and_eq_true _ _).mp hg_h_164_1).2
theorem k_167 : t_Con c_167 := t_chk_ok h_167 (List.forall_mem_cons.mpr ⟨k_33, (fun _ h => absurd h List.not_mem_nil)⟩)
set_option maxRecDepth 1000000 in
theorem hg_h_168 : (t_chk [c_42, c_167] c_168 n_168 106 && (t_chk [c_168] c_169 n_169 222 && (t_chk [c_98] c_170 n_170 235 && (t_chk [c_41] c_171 n_171 329)))) = true := by decide +kernel
theorem h_168 : t_chk [c_42, c_167] c_168 n_168 106 = true := ((Bool.and_eq_true _ _).mp hg_h_168).1
theorem hg_h_168_0 : (t_chk [c_168] c_169 n_169 222 && (t_chk [c_98] c_170 n_170 235 && (t_chk [c_41] c_171 n_171 329))) = true := ((Bool.and_eq_true _ _).mp hg_h_168).2
theorem k_168 : t_Con c_168 := t_chk_ok h_168 (List.forall_mem_cons.mpr ⟨k_42, List.forall_mem_cons.mpr ⟨k_167, (fun _ h => absurd h List.not_mem_nil)⟩⟩)
theorem h_169 : t_chk [c_168] c_169 n_169 222 = true := ((Bool.and_eq_true _ _).mp hg_h_168_0).1
theorem hg_h_168_1 : (t_chk [c_98] c_170 n_170 235 && (t_chk [c_41] c_171 n_171 329)) = true := ((Bool.and_eq_true _ _).mp hg_h_168_0).2
theorem k_169 : t_Con c_169 := t_chk_ok h_169 (List.forall_mem_cons.mpr ⟨k_168, (fun _ h => absurd h List.not_mem_nil)⟩)
theorem h_170 : t_chk [c_98] c_170 n_170 235 = true := ((Bool.and_eq_true _ _).mp hg_h_168_1).1
theorem k_170 : t_Con c_170 := t_chk_ok h_170 (List.forall_mem_cons.mpr ⟨k_98, (fun _ h => absurd h List.not_mem_nil)⟩)
theorem h_171 : t_chk [c_41] c_171 n_171 329 = true := ((Bool.and_eq_true _ _).mp hg_h_168_1).2
theorem k_171 : t_Con c_171 := t_chk_ok h_171 (List.forall_mem_cons.mpr ⟨k_41, (fun _ h => absurd h List.not_mem_nil)⟩)
set_option maxRecDepth 1000000 in
theorem hg_h_172 : (t_chk [c_165] c_172 n_172 81 && (t_chk [c_172] c_173 n_173 106 && (t_chk [c_168] c_174 n_174 87 && (t_chk [c_174] c_175 n_175 119)))) = true := by decide +kernel
theorem h_172 : t_chk [c_165] c_172 n_172 81 = true := ((Bool.and_eq_true _ _).mp hg_h_172).1
theorem hg_h_172_0 : (t_chk [c_172] c_173 n_173 106 && (t_chk [c_168] c_174 n_174 87 && (t_chk [c_174] c_175 n_175 119))) = true := ((Bool.and_eq_true _ _).mp hg_h_172).2
theorem k_172 : t_Con c_172 := t_chk_ok h_172 (List.forall_mem_cons.mpr ⟨k_165, (fun _ h => absurd h List.not_mem_nil)⟩)
theorem h_173 : t_chk [c_172] c_173 n_173 106 = true := ((Bool.and_eq_true _ _).mp hg_h_172_0).1
theorem hg_h_172_1 : (t_chk [c_168] c_174 n_174 87 && (t_chk [c_174] c_175 n_175 119)) = true := ((Bool.and_eq_true _ _).mp hg_h_172_0).2
theorem k_173 : t_Con c_173 := t_chk_ok h_173 (List.forall_mem_cons.mpr ⟨k_172, (fun _ h => absurd h List.not_mem_nil)⟩)
theorem h_174 : t_chk [c_168] c_174 n_174 87 = true := ((Bool.and_eq_true _ _).mp hg_h_172_1).1
theorem k_174 : t_Con c_174 := t_chk_ok h_174 (List.forall_mem_cons.mpr ⟨k_168, (fun _ h => absurd h List.not_mem_nil)⟩)
theorem h_175 : t_chk [c_174] c_175 n_175 119 = true := ((Bool.and_eq_true _ _).mp hg_h_172_1).2
theorem k_175 : t_Con c_175 := t_chk_ok h_175 (List.forall_mem_cons.mpr ⟨k_174, (fun _ h => absurd h List.not_mem_nil)⟩)
set_option maxRecDepth 1000000 in
theorem hg_h_176 : (t_chk [] c_176 n_176 65 && (t_chk [] c_177 n_177 150 && (t_chk [c_172, c_176, c_177] c_178 n_178 135 && (t_chk [] c_179 n_179 110)))) = true := by decide +kernel
theorem h_176 : t_chk [] c_176 n_176 65 = true := ((Bool.and_eq_true _ _).mp hg_h_176).1
theorem hg_h_176_0 : (t_chk [] c_177 n_177 150 && (t_chk [c_172, c_176, c_177] c_178 n_178 135 && (t_chk [] c_179 n_179 110))) = true := ((Bool.and_eq_true _ _).mp hg_h_176).2
theorem k_176 : t_Con c_176 := t_chk_ok h_176 ((fun _ h => absurd h List.not_mem_nil))
theorem h_177 : t_chk [] c_177 n_177 150 = true := ((Bool.and_eq_true _ _).mp hg_h_176_0).1
theorem hg_h_176_1 : (t_chk [c_172, c_176, c_177] c_178 n_178 135 && (t_chk [] c_179 n_179 110)) = true := ((Bool.and_eq_true _ _).mp hg_h_176_0).2
theorem k_177 : t_Con c_177 := t_chk_ok h_177 ((fun _ h => absurd h List.not_mem_nil))
theorem h_178 : t_chk [c_172, c_176, c_177] c_178 n_178 135 = true := ((Bool.and_eq_true _ _).mp hg_h_176_1).1
theorem k_178 : t_Con c_178 := t_chk_ok h_178 (List.forall_mem_cons.mpr ⟨k_172, List.forall_mem_cons.mpr ⟨k_176, List.forall_mem_cons.mpr ⟨k_177, (fun _ h => absurd h List.not_mem_nil)⟩⟩⟩)
theorem h_179 : t_chk [] c_179 n_179 110 = true := ((Bool.and_eq_true _ _).mp hg_h_176_1).2
theorem k_179 : t_Con c_179 := t_chk_ok h_179 ((fun _ h => absurd h List.not_mem_nil))
set_option maxRecDepth 1000000 in
theorem hg_h_180 : (t_chk [c_179] c_180 n_180 118 && (t_chk [c_178, c_180] c_181 n_181 135 && (t_chk [] c_182 n_182 62 && (t_chk [] c_183 n_183 62)))) = true := by decide +kernel
theorem h_180 : t_chk [c_179] c_180 n_180 118 = true := ((Bool.and_eq_true _ _).mp hg_h_180).1
theorem hg_h_180_0 : (t_chk [c_178, c_180] c_181 n_181 135 && (t_chk [] c_182 n_182 62 && (t_chk [] c_183 n_183 62))) = true := ((Bool.and_eq_true _ _).mp hg_h_180).2
theorem k_180 : t_Con c_180 := t_chk_ok h_180 (List.forall_mem_cons.mpr ⟨k_179, (fun _ h => absurd h List.not_mem_nil)⟩)
theorem h_181 : t_chk [c_178, c_180] c_181 n_181 135 = true := ((Bool.and_eq_true _ _).mp hg_h_180_0).1
theorem hg_h_180_1 : (t_chk [] c_182 n_182 62 && (t_chk [] c_183 n_183 62)) = true := ((Bool.and_eq_true _ _).mp hg_h_180_0).2
theorem k_181 : t_Con c_181 := t_chk_ok h_181 (List.forall_mem_cons.mpr ⟨k_178, List.forall_mem_cons.mpr ⟨k_180, (fun _ h => absurd h List.not_mem_nil)⟩⟩)
theorem h_182 : t_chk [] c_182 n_182 62 = true := ((Bool.and_eq_true _ _).mp hg_h_180_1).1
theorem k_182 : t_Con c_182 := t_chk_ok h_182 ((fun _ h => absurd h List.not_mem_nil))
theorem h_183 : t_chk [] c_183 n_183 62 = true := ((Bool.and_eq_true _ _).mp hg_h_180_1).2
theorem k_183 : t_Con c_183 := t_chk_ok h_183 ((fun _ h => absurd h List.not_mem_nil))
set_option maxRecDepth 1000000 in
theorem hg_h_184 : (t_chk [c_183] c_184 n_184 72 && (t_chk [c_174, c_182, c_184] c_185 n_185 225 && (t_chk [c_182, c_184] c_186 n_186 112 && (t_chk [c_182, c_184] c_187 n_187 112)))) = true := by decide +kernel
theorem h_184 : t_chk [c_183] c_184 n_184 72 = true := ((Bool.and_eq_true _ _).mp hg_h_184).1
theorem hg_h_184_0 : (t_chk [c_174, c_182, c_184] c_185 n_185 225 && (t_chk [c_182, c_184] c_186 n_186 112 && (t_chk [c_182, c_184] c_187 n_187 112))) = true := ((Bool.and_eq_true _ _).mp hg_h_184).2
theorem k_184 : t_Con c_184 := t_chk_ok h_184 (List.forall_mem_cons.mpr ⟨k_183, (fun _ h => absurd h List.not_mem_nil)⟩)
theorem h_185 : t_chk [c_174, c_182, c_184] c_185 n_185 225 = true := ((Bool.and_eq_true _ _).mp hg_h_184_0).1
theorem hg_h_184_1 : (t_chk [c_182, c_184] c_186 n_186 112 && (t_chk [c_182, c_184] c_187 n_187 112)) = true := ((Bool.and_eq_true _ _).mp hg_h_184_0).2
theorem k_185 : t_Con c_185 := t_chk_ok h_185 (List.forall_mem_cons.mpr ⟨k_174, List.forall_mem_cons.mpr ⟨k_182, List.forall_mem_cons.mpr ⟨k_184, (fun _ h => absurd h List.not_mem_nil)⟩⟩⟩)
theorem h_186 : t_chk [c_182, c_184] c_186 n_186 112 = true := ((Bool.and_eq_true _ _).mp hg_h_184_1).1
theorem k_186 : t_Con c_186 := t_chk_ok h_186 (List.forall_mem_cons.mpr ⟨k_182, List.forall_mem_cons.mpr ⟨k_184, (fun _ h => absurd h List.not_mem_nil)⟩⟩)
theorem h_187 : t_chk [c_182, c_184] c_187 n_187 112 = true := ((Bool.and_eq_true _ _).mp hg_h_184_1).2
theorem k_187 : t_Con c_187 := t_chk_ok h_187 (List.forall_mem_cons.mpr ⟨k_182, List.forall_mem_cons.mpr ⟨k_184, (fun _ h => absurd h List.not_mem_nil)⟩⟩)
set_option maxRecDepth 1000000 in
theorem hg_h_188 : (t_chk [c_185, c_187] c_188 n_188 226 && (t_chk [c_174, c_182, c_184] c_189 n_189 179 && (t_chk [c_186, c_189] c_190 n_190 226 && (t_chk [c_16, c_21] c_191 n_191 89)))) = true := by decide +kernel
theorem h_188 : t_chk [c_185, c_187] c_188 n_188 226 = true := ((Bool.and_eq_true _ _).mp hg_h_188).1
theorem hg_h_188_0 : (t_chk [c_174, c_182, c_184] c_189 n_189 179 && (t_chk [c_186, c_189] c_190 n_190 226 && (t_chk [c_16, c_21] c_191 n_191 89))) = true := ((Bool.and_eq_true _ _).mp hg_h_188).2
theorem k_188 : t_Con c_188 := t_chk_ok h_188 (List.forall_mem_cons.mpr ⟨k_185, List.forall_mem_cons.mpr ⟨k_187, (fun _ h => absurd h List.not_mem_nil)⟩⟩)
theorem h_189 : t_chk [c_174, c_182, c_184] c_189 n_189 179 = true := ((Bool.and_eq_true _ _).mp hg_h_188_0).1
theorem hg_h_188_1 : (t_chk [c_186, c_189] c_190 n_190 226 && (t_chk [c_16, c_21] c_191 n_191 89)) = true := ((Bool.and_eq_true _ _).mp hg_h_188_0).2
theorem k_189 : t_Con c_189 := t_chk_ok h_189 (List.forall_mem_cons.mpr ⟨k_174, List.forall_mem_cons.mpr ⟨k_182, List.forall_mem_cons.mpr ⟨k_184, (fun _ h => absurd h List.not_mem_nil)⟩⟩⟩)
theorem h_190 : t_chk [c_186, c_189] c_190 n_190 226 = true := ((Bool.and_eq_true _ _).mp hg_h_188_1).1
theorem k_190 : t_Con c_190 := t_chk_ok h_190 (List.forall_mem_cons.mpr ⟨k_186, List.forall_mem_cons.mpr ⟨k_189, (fun _ h => absurd h List.not_mem_nil)⟩⟩)
theorem h_191 : t_chk [c_16, c_21] c_191 n_191 89 = true := ((Bool.and_eq_true _ _).mp hg_h_188_1).2
theorem k_191 : t_Con c_191 := t_chk_ok h_191 (List.forall_mem_cons.mpr ⟨k_16, List.forall_mem_cons.mpr ⟨k_21, (fun _ h => absurd h List.not_mem_nil)⟩⟩)
set_option maxRecDepth 1000000 in
theorem hg_h_192 : (t_chk [c_191] c_192 n_192 66 && (t_chk [c_192] c_193 n_193 70 && (t_chk [c_7, c_155, c_193] c_194 n_194 147 && (t_chk [c_29, c_157] c_195 n_195 184)))) = true := by decide +kernel
theorem h_192 : t_chk [c_191] c_192 n_192 66 = true := ((Bool.and_eq_true _ _).mp hg_h_192).1
theorem hg_h_192_0 : (t_chk [c_192] c_193 n_193 70 && (t_chk [c_7, c_155, c_193] c_194 n_194 147 && (t_chk [c_29, c_157] c_195 n_195 184))) = true := ((Bool.and_eq_true _ _).mp hg_h_192).2
theorem k_192 : t_Con c_192 := t_chk_ok h_192 (List.forall_mem_cons.mpr ⟨k_191, (fun _ h => absurd h List.not_mem_nil)⟩)
theorem h_193 : t_chk [c_192] c_193 n_193 70 = true := ((Bool.and_eq_true _ _).mp hg_h_192_0).1
theorem hg_h_192_1 : (t_chk [c_7, c_155, c_193] c_194 n_194 147 && (t_chk [c_29, c_157] c_195 n_195 184)) = true := ((Bool.and_eq_true _ _).mp hg_h_192_0).2
theorem k_193 : t_Con c_193 := t_chk_ok h_193 (List.forall_mem_cons.mpr ⟨k_192, (fun _ h => absurd h List.not_mem_nil)⟩)
theorem h_194 : t_chk [c_7, c_155, c_193] c_194 n_194 147 = true := ((Bool.and_eq_true _ _).mp hg_h_192_1).1
theorem k_194 : t_Con c_194 := t_chk_ok h_194 (List.forall_mem_cons.mpr ⟨k_7, List.forall_mem_cons.mpr ⟨k_155, List.forall_mem_cons.mpr ⟨k_193, (fun _ h => absurd h List.not_mem_nil)⟩⟩⟩)
theorem h_195 : t_chk [c_29, c_157] c_195 n_195 184 = true := ((Bool.and_eq_true _ _).mp hg_h_192_1).2
theorem k_195 : t_Con c_195 := t_chk_ok h_195 (List.forall_mem_cons.mpr ⟨k_29, List.forall_mem_cons.mpr ⟨k_157, (fun _ h => absurd h List.not_mem_nil)⟩⟩)
set_option maxRecDepth 1000000 in
theorem hg_h_196 : (t_chk [] c_196 n_196 92 && (t_chk [c_12, c_25] c_197 n_197 115 && (t_chk [c_197] c_198 n_198 81 && (t_chk [c_7, c_172, c_196, c_198] c_199 n_199 205)))) = true := by decide +kernel
theorem h_196 : t_chk [] c_196 n_196 92 = true := ((Bool.and_eq_true _ _).mp hg_h_196).1
theorem hg_h_196_0 : (t_chk [c_12, c_25] c_197 n_197 115 && (t_chk [c_197] c_198 n_198 81 && (t_chk [c_7, c_172, c_196, c_198] c_199 n_199 205))) = true := ((Bool.and_eq_true _ _).mp hg_h_196).2
theorem k_196 : t_Con c_196 := t_chk_ok h_196 ((fun _ h => absurd h List.not_mem_nil))
theorem h_197 : t_chk [c_12, c_25] c_197 n_197 115 = true := ((Bool.and_eq_true _ _).mp hg_h_196_0).1
theorem hg_h_196_1 : (t_chk [c_197] c_198 n_198 81 && (t_chk [c_7, c_172, c_196, c_198] c_199 n_199 205)) = true := ((Bool.and_eq_true _ _).mp hg_h_196_0).2
theorem k_197 : t_Con c_197 := t_chk_ok h_197 (List.forall_mem_cons.mpr ⟨k_12, List.forall_mem_cons.mpr ⟨k_25, (fun _ h => absurd h List.not_mem_nil)⟩⟩)
theorem h_198 : t_chk [c_197] c_198 n_198 81 = true := ((Bool.and_eq_true _ _).mp hg_h_196_1).1
theorem k_198 : t_Con c_198 := t_chk_ok h_198 (List.forall_mem_cons.mpr ⟨k_197, (fun _ h => absurd h List.not_mem_nil)⟩)
theorem h_199 : t_chk [c_7, c_172, c_196, c_198] c_199 n_199 205 = true := ((Bool.and_eq_true _ _).mp hg_h_196_1).2
theorem k_199 : t_Con c_199 := t_chk_ok h_199 (List.forall_mem_cons.mpr ⟨k_7, List.forall_mem_cons.mpr ⟨k_172, List.forall_mem_cons.mpr ⟨k_196, List.forall_mem_cons.mpr ⟨k_198, (fun _ h => absurd h List.not_mem_nil)⟩⟩⟩⟩)
set_option maxRecDepth 1000000 in
theorem hg_h_200 : (t_chk [c_122, c_174] c_200 n_200 237 && (t_chk [] c_201 n_201 70 && (t_chk [c_201] c_202 n_202 77 && (t_chk [c_113, c_202] c_203 n_203 142)))) = true := by decide +kernel
theorem h_200 : t_chk [c_122, c_174] c_200 n_200 237 = true := ((Bool.and_eq_true _ _).mp hg_h_200).1
theorem hg_h_200_0 : (t_chk [] c_201 n_201 70 && (t_chk [c_201] c_202 n_202 77 && (t_chk [c_113, c_202] c_203 n_203 142))) = true := ((Bool.and_eq_true _ _).mp hg_h_200).2
theorem k_200 : t_Con c_200 := t_chk_ok h_200 (List.forall_mem_cons.mpr ⟨k_122, List.forall_mem_cons.mpr ⟨k_174, (fun _ h => absurd h List.not_mem_nil)⟩⟩)
theorem h_201 : t_chk [] c_201 n_201 70 = true := ((Bool.and_eq_true _ _).mp hg_h_200_0).1
theorem hg_h_200_1 : (t_chk [c_201] c_202 n_202 77 && (t_chk [c_113, c_202] c_203 n_203 142)) = true := ((Bool.and_eq_true _ _).mp hg_h_200_0).2
theorem k_201 : t_Con c_201 := t_chk_ok h_201 ((fun _ h => absurd h List.not_mem_nil))
theorem h_202 : t_chk [c_201] c_202 n_202 77 = true := ((Bool.and_eq_true _ _).mp hg_h_200_1).1
theorem k_202 : t_Con c_202 := t_chk_ok h_202 (List.forall_mem_cons.mpr ⟨k_201, (fun _ h => absurd h List.not_mem_nil)⟩)
theorem h_203 : t_chk [c_113, c_202] c_203 n_203 142 = true := ((Bool.and_eq_true _ _).mp hg_h_200_1).2
theorem k_203 : t_Con c_203 := t_chk_ok h_203 (List.forall_mem_cons.mpr ⟨k_113, List.forall_mem_cons.mpr ⟨k_202, (fun _ h => absurd h List.not_mem_nil)⟩⟩)
