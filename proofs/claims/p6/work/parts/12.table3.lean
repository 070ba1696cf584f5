/-! what the tables say of the methods -/
set_option maxRecDepth 100000 in
theorem zz_mok_l : zz_mts.all zz_mok = true := by decide +kernel
theorem zz_mok_mem (mk : zz_Mi) (h : mk ∈ zz_mts) : zz_mok mk = true := List.all_eq_true.mp zz_mok_l mk h
theorem zz_mok_all (k : Nat) (mk : zz_Mi) (h : zz_mts[k]? = some mk) : zz_mok mk = true := zz_mok_mem mk (List.mem_of_getElem? h)
set_option maxRecDepth 100000 in
theorem zw_0 : zz_mcw zm_0 := rfl
set_option maxRecDepth 100000 in
theorem zw_1 : zz_mcw zm_1 := rfl
set_option maxRecDepth 100000 in
theorem zw_2 : zz_mcw zm_2 := rfl
set_option maxRecDepth 100000 in
theorem zw_3 : zz_mcw zm_3 := rfl
set_option maxRecDepth 100000 in
theorem zw_4 : zz_mcw zm_4 := rfl
set_option maxRecDepth 100000 in
theorem zw_5 : zz_mcw zm_5 := rfl
set_option maxRecDepth 100000 in
theorem zw_6 : zz_mcw zm_6 := rfl
set_option maxRecDepth 100000 in
theorem zw_7 : zz_mcw zm_7 := rfl
set_option maxRecDepth 100000 in
theorem zw_8 : zz_mcw zm_8 := rfl
set_option maxRecDepth 100000 in
theorem zw_9 : zz_mcw zm_9 := rfl
set_option maxRecDepth 100000 in
theorem zw_10 : zz_mcw zm_10 := rfl
set_option maxRecDepth 100000 in
theorem zw_11 : zz_mcw zm_11 := rfl
set_option maxRecDepth 100000 in
theorem zw_12 : zz_mcw zm_12 := rfl
set_option maxRecDepth 100000 in
theorem zw_13 : zz_mcw zm_13 := rfl
set_option maxRecDepth 100000 in
theorem zw_14 : zz_mcw zm_14 := rfl
set_option maxRecDepth 100000 in
theorem zw_15 : zz_mcw zm_15 := rfl
set_option maxRecDepth 100000 in
theorem zw_16 : zz_mcw zm_16 := rfl
set_option maxRecDepth 100000 in
theorem zw_17 : zz_mcw zm_17 := rfl
set_option maxRecDepth 100000 in
theorem zw_18 : zz_mcw zm_18 := rfl
set_option maxRecDepth 100000 in
theorem zw_19 : zz_mcw zm_19 := rfl
set_option maxRecDepth 100000 in
theorem zw_20 : zz_mcw zm_20 := rfl
set_option maxRecDepth 100000 in
theorem zw_21 : zz_mcw zm_21 := rfl
set_option maxRecDepth 100000 in
theorem zw_22 : zz_mcw zm_22 := rfl
set_option maxRecDepth 100000 in
theorem zw_23 : zz_mcw zm_23 := rfl
set_option maxRecDepth 100000 in
theorem zw_24 : zz_mcw zm_24 := rfl
set_option maxRecDepth 100000 in
theorem zw_25 : zz_mcw zm_25 := rfl
set_option maxRecDepth 100000 in
theorem zw_26 : zz_mcw zm_26 := rfl
set_option maxRecDepth 100000 in
theorem zw_27 : zz_mcw zm_27 := rfl
set_option maxRecDepth 100000 in
theorem zw_28 : zz_mcw zm_28 := rfl
set_option maxRecDepth 100000 in
theorem zw_29 : zz_mcw zm_29 := rfl
set_option maxRecDepth 100000 in
theorem zw_30 : zz_mcw zm_30 := rfl
set_option maxRecDepth 100000 in
theorem zw_31 : zz_mcw zm_31 := rfl
set_option maxRecDepth 100000 in
theorem zw_32 : zz_mcw zm_32 := rfl
set_option maxRecDepth 100000 in
theorem zw_33 : zz_mcw zm_33 := rfl
set_option maxRecDepth 100000 in
theorem zw_34 : zz_mcw zm_34 := rfl
set_option maxRecDepth 100000 in
theorem zw_35 : zz_mcw zm_35 := rfl
set_option maxRecDepth 100000 in
theorem zw_36 : zz_mcw zm_36 := rfl
set_option maxRecDepth 100000 in
theorem zw_37 : zz_mcw zm_37 := rfl
set_option maxRecDepth 100000 in
theorem zw_38 : zz_mcw zm_38 := rfl
set_option maxRecDepth 100000 in
theorem zw_39 : zz_mcw zm_39 := rfl
set_option maxRecDepth 100000 in
theorem zw_40 : zz_mcw zm_40 := rfl
set_option maxRecDepth 100000 in
theorem zw_41 : zz_mcw zm_41 := rfl
set_option maxRecDepth 100000 in
theorem zw_42 : zz_mcw zm_42 := rfl
set_option maxRecDepth 100000 in
theorem zw_43 : zz_mcw zm_43 := rfl
set_option maxRecDepth 100000 in
theorem zw_44 : zz_mcw zm_44 := rfl
set_option maxRecDepth 100000 in
theorem zw_45 : zz_mcw zm_45 := rfl
set_option maxRecDepth 100000 in
theorem zw_46 : zz_mcw zm_46 := rfl
set_option maxRecDepth 100000 in
theorem zw_47 : zz_mcw zm_47 := rfl
set_option maxRecDepth 100000 in
theorem zw_48 : zz_mcw zm_48 := rfl
set_option maxRecDepth 100000 in
theorem zw_49 : zz_mcw zm_49 := rfl
set_option maxRecDepth 100000 in
theorem zw_50 : zz_mcw zm_50 := rfl
set_option maxRecDepth 100000 in
theorem zw_51 : zz_mcw zm_51 := rfl
set_option maxRecDepth 100000 in
theorem zw_52 : zz_mcw zm_52 := rfl
set_option maxRecDepth 100000 in
theorem zw_53 : zz_mcw zm_53 := rfl
set_option maxRecDepth 100000 in
theorem zw_54 : zz_mcw zm_54 := rfl
set_option maxRecDepth 100000 in
theorem zw_55 : zz_mcw zm_55 := rfl
set_option maxRecDepth 100000 in
theorem zw_56 : zz_mcw zm_56 := rfl
set_option maxRecDepth 100000 in
theorem zw_57 : zz_mcw zm_57 := rfl
set_option maxRecDepth 100000 in
theorem zw_58 : zz_mcw zm_58 := rfl
set_option maxRecDepth 100000 in
theorem zw_59 : zz_mcw zm_59 := rfl
set_option maxRecDepth 100000 in
theorem zw_60 : zz_mcw zm_60 := rfl
set_option maxRecDepth 100000 in
theorem zw_61 : zz_mcw zm_61 := rfl
set_option maxRecDepth 100000 in
theorem zw_62 : zz_mcw zm_62 := rfl
set_option maxRecDepth 100000 in
theorem zw_63 : zz_mcw zm_63 := rfl
set_option maxRecDepth 100000 in
theorem zw_64 : zz_mcw zm_64 := rfl
set_option maxRecDepth 100000 in
theorem zw_65 : zz_mcw zm_65 := rfl
set_option maxRecDepth 100000 in
theorem zw_66 : zz_mcw zm_66 := rfl
set_option maxRecDepth 100000 in
theorem zw_67 : zz_mcw zm_67 := rfl
set_option maxRecDepth 100000 in
theorem zw_68 : zz_mcw zm_68 := rfl
set_option maxRecDepth 100000 in
theorem zw_69 : zz_mcw zm_69 := rfl
set_option maxRecDepth 100000 in
theorem zw_70 : zz_mcw zm_70 := rfl
set_option maxRecDepth 100000 in
theorem zw_71 : zz_mcw zm_71 := rfl
set_option maxRecDepth 100000 in
theorem zw_72 : zz_mcw zm_72 := rfl
set_option maxRecDepth 100000 in
theorem zw_73 : zz_mcw zm_73 := rfl
set_option maxRecDepth 100000 in
theorem zw_74 : zz_mcw zm_74 := rfl
set_option maxRecDepth 100000 in
theorem zw_75 : zz_mcw zm_75 := rfl
set_option maxRecDepth 100000 in
theorem zw_76 : zz_mcw zm_76 := rfl
set_option maxRecDepth 100000 in
theorem zw_77 : zz_mcw zm_77 := rfl
set_option maxRecDepth 100000 in
theorem zw_78 : zz_mcw zm_78 := rfl
set_option maxRecDepth 100000 in
theorem zw_79 : zz_mcw zm_79 := rfl
set_option maxRecDepth 100000 in
theorem zw_80 : zz_mcw zm_80 := rfl
set_option maxRecDepth 100000 in
theorem zw_81 : zz_mcw zm_81 := rfl
set_option maxRecDepth 100000 in
theorem zw_82 : zz_mcw zm_82 := rfl
set_option maxRecDepth 100000 in
theorem zw_83 : zz_mcw zm_83 := rfl
set_option maxRecDepth 100000 in
theorem zw_84 : zz_mcw zm_84 := rfl
set_option maxRecDepth 100000 in
theorem zw_85 : zz_mcw zm_85 := rfl
set_option maxRecDepth 100000 in
theorem zw_86 : zz_mcw zm_86 := rfl
set_option maxRecDepth 100000 in
theorem zw_87 : zz_mcw zm_87 := rfl
set_option maxRecDepth 100000 in
theorem zw_88 : zz_mcw zm_88 := rfl
set_option maxRecDepth 100000 in
theorem zw_89 : zz_mcw zm_89 := rfl
set_option maxRecDepth 100000 in
theorem zw_90 : zz_mcw zm_90 := rfl
set_option maxRecDepth 100000 in
theorem zw_91 : zz_mcw zm_91 := rfl
set_option maxRecDepth 100000 in
theorem zw_92 : zz_mcw zm_92 := rfl
set_option maxRecDepth 100000 in
theorem zw_93 : zz_mcw zm_93 := rfl
set_option maxRecDepth 100000 in
theorem zw_94 : zz_mcw zm_94 := rfl
set_option maxRecDepth 100000 in
theorem zw_95 : zz_mcw zm_95 := rfl
set_option maxRecDepth 100000 in
theorem zw_96 : zz_mcw zm_96 := rfl
set_option maxRecDepth 100000 in
theorem zw_97 : zz_mcw zm_97 := rfl
set_option maxRecDepth 100000 in
theorem zw_98 : zz_mcw zm_98 := rfl
set_option maxRecDepth 100000 in
theorem zw_99 : zz_mcw zm_99 := rfl
set_option maxRecDepth 100000 in
theorem zw_100 : zz_mcw zm_100 := rfl
set_option maxRecDepth 100000 in
theorem zw_101 : zz_mcw zm_101 := rfl
set_option maxRecDepth 100000 in
theorem zw_102 : zz_mcw zm_102 := rfl
set_option maxRecDepth 100000 in
theorem zw_103 : zz_mcw zm_103 := rfl
set_option maxRecDepth 100000 in
theorem zw_104 : zz_mcw zm_104 := rfl
set_option maxRecDepth 100000 in
theorem zw_105 : zz_mcw zm_105 := rfl
set_option maxRecDepth 100000 in
theorem zw_106 : zz_mcw zm_106 := rfl
set_option maxRecDepth 100000 in
theorem zw_107 : zz_mcw zm_107 := rfl
set_option maxRecDepth 100000 in
theorem zw_108 : zz_mcw zm_108 := rfl
set_option maxRecDepth 100000 in
theorem zw_109 : zz_mcw zm_109 := rfl
set_option maxRecDepth 100000 in
theorem zw_110 : zz_mcw zm_110 := rfl
set_option maxRecDepth 100000 in
theorem zw_111 : zz_mcw zm_111 := rfl
set_option maxRecDepth 100000 in
theorem zw_112 : zz_mcw zm_112 := rfl
set_option maxRecDepth 100000 in
theorem zw_113 : zz_mcw zm_113 := rfl
set_option maxRecDepth 100000 in
theorem zw_114 : zz_mcw zm_114 := rfl
set_option maxRecDepth 100000 in
theorem zw_115 : zz_mcw zm_115 := rfl
set_option maxRecDepth 100000 in
theorem zw_116 : zz_mcw zm_116 := rfl
set_option maxRecDepth 100000 in
theorem zw_117 : zz_mcw zm_117 := rfl
set_option maxRecDepth 100000 in
theorem zw_118 : zz_mcw zm_118 := rfl
set_option maxRecDepth 100000 in
theorem zw_119 : zz_mcw zm_119 := rfl
set_option maxRecDepth 100000 in
theorem zw_120 : zz_mcw zm_120 := rfl
set_option maxRecDepth 100000 in
theorem zw_121 : zz_mcw zm_121 := rfl
set_option maxRecDepth 100000 in
theorem zw_122 : zz_mcw zm_122 := rfl
set_option maxRecDepth 100000 in
theorem zw_123 : zz_mcw zm_123 := rfl
set_option maxRecDepth 100000 in
theorem zw_124 : zz_mcw zm_124 := rfl
set_option maxRecDepth 100000 in
theorem zw_125 : zz_mcw zm_125 := rfl
set_option maxRecDepth 100000 in
theorem zw_126 : zz_mcw zm_126 := rfl
set_option maxRecDepth 100000 in
theorem zw_127 : zz_mcw zm_127 := rfl
set_option maxRecDepth 100000 in
theorem zw_128 : zz_mcw zm_128 := rfl
set_option maxRecDepth 100000 in
theorem zw_129 : zz_mcw zm_129 := rfl
set_option maxRecDepth 100000 in
theorem zw_130 : zz_mcw zm_130 := rfl
set_option maxRecDepth 100000 in
theorem zw_131 : zz_mcw zm_131 := rfl
set_option maxRecDepth 100000 in
theorem zw_132 : zz_mcw zm_132 := rfl
set_option maxRecDepth 100000 in
theorem zw_133 : zz_mcw zm_133 := rfl
set_option maxRecDepth 100000 in
theorem zw_134 : zz_mcw zm_134 := rfl
set_option maxRecDepth 100000 in
theorem zw_135 : zz_mcw zm_135 := rfl
set_option maxRecDepth 100000 in
theorem zw_136 : zz_mcw zm_136 := rfl
set_option maxRecDepth 100000 in
theorem zw_137 : zz_mcw zm_137 := rfl
set_option maxRecDepth 100000 in
theorem zw_138 : zz_mcw zm_138 := rfl
set_option maxRecDepth 100000 in
theorem zw_139 : zz_mcw zm_139 := rfl
set_option maxRecDepth 100000 in
theorem zw_140 : zz_mcw zm_140 := rfl
set_option maxRecDepth 100000 in
theorem zw_141 : zz_mcw zm_141 := rfl
set_option maxRecDepth 100000 in
theorem zw_142 : zz_mcw zm_142 := rfl
set_option maxRecDepth 100000 in
theorem zw_143 : zz_mcw zm_143 := rfl
set_option maxRecDepth 100000 in
theorem zw_144 : zz_mcw zm_144 := rfl
set_option maxRecDepth 100000 in
theorem zw_145 : zz_mcw zm_145 := rfl
set_option maxRecDepth 100000 in
theorem zw_146 : zz_mcw zm_146 := rfl
set_option maxRecDepth 100000 in
theorem zw_147 : zz_mcw zm_147 := rfl
set_option maxRecDepth 100000 in
theorem zw_148 : zz_mcw zm_148 := rfl
set_option maxRecDepth 100000 in
theorem zw_149 : zz_mcw zm_149 := rfl
set_option maxRecDepth 100000 in
theorem zw_150 : zz_mcw zm_150 := rfl
set_option maxRecDepth 100000 in
theorem zw_151 : zz_mcw zm_151 := rfl
set_option maxRecDepth 100000 in
theorem zw_152 : zz_mcw zm_152 := rfl
set_option maxRecDepth 100000 in
theorem zw_153 : zz_mcw zm_153 := rfl
set_option maxRecDepth 100000 in
theorem zw_154 : zz_mcw zm_154 := rfl
set_option maxRecDepth 100000 in
theorem zw_155 : zz_mcw zm_155 := rfl
set_option maxRecDepth 100000 in
theorem zw_156 : zz_mcw zm_156 := rfl
set_option maxRecDepth 100000 in
theorem zw_157 : zz_mcw zm_157 := rfl
set_option maxRecDepth 100000 in
theorem zw_158 : zz_mcw zm_158 := rfl
set_option maxRecDepth 100000 in
theorem zw_159 : zz_mcw zm_159 := rfl
set_option maxRecDepth 100000 in
theorem zw_160 : zz_mcw zm_160 := rfl
set_option maxRecDepth 100000 in
theorem zw_161 : zz_mcw zm_161 := rfl
set_option maxRecDepth 100000 in
theorem zw_162 : zz_mcw zm_162 := rfl
set_option maxRecDepth 100000 in
theorem zw_163 : zz_mcw zm_163 := rfl
set_option maxRecDepth 100000 in
theorem zw_164 : zz_mcw zm_164 := rfl
set_option maxRecDepth 100000 in
theorem zw_165 : zz_mcw zm_165 := rfl
set_option maxRecDepth 100000 in
theorem zw_166 : zz_mcw zm_166 := rfl
set_option maxRecDepth 100000 in
theorem zw_167 : zz_mcw zm_167 := rfl
set_option maxRecDepth 100000 in
theorem zw_168 : zz_mcw zm_168 := rfl
set_option maxRecDepth 100000 in
theorem zw_169 : zz_mcw zm_169 := rfl
set_option maxRecDepth 100000 in
theorem zw_170 : zz_mcw zm_170 := rfl
set_option maxRecDepth 100000 in
theorem zw_171 : zz_mcw zm_171 := rfl
set_option maxRecDepth 100000 in
theorem zw_172 : zz_mcw zm_172 := rfl
set_option maxRecDepth 100000 in
theorem zw_173 : zz_mcw zm_173 := rfl
set_option maxRecDepth 100000 in
theorem zw_174 : zz_mcw zm_174 := rfl
set_option maxRecDepth 100000 in
theorem zw_175 : zz_mcw zm_175 := rfl
set_option maxRecDepth 100000 in
theorem zw_176 : zz_mcw zm_176 := rfl
set_option maxRecDepth 100000 in
theorem zw_177 : zz_mcw zm_177 := rfl
set_option maxRecDepth 100000 in
theorem zw_178 : zz_mcw zm_178 := rfl
set_option maxRecDepth 100000 in
theorem zw_179 : zz_mcw zm_179 := rfl
set_option maxRecDepth 100000 in
theorem zw_180 : zz_mcw zm_180 := rfl
set_option maxRecDepth 100000 in
theorem zw_181 : zz_mcw zm_181 := rfl
set_option maxRecDepth 100000 in
theorem zw_182 : zz_mcw zm_182 := rfl
set_option maxRecDepth 100000 in
theorem zw_183 : zz_mcw zm_183 := rfl
set_option maxRecDepth 100000 in
theorem zw_184 : zz_mcw zm_184 := rfl
set_option maxRecDepth 100000 in
theorem zw_185 : zz_mcw zm_185 := rfl
set_option maxRecDepth 100000 in
theorem zw_186 : zz_mcw zm_186 := rfl
set_option maxRecDepth 100000 in
theorem zw_187 : zz_mcw zm_187 := rfl
set_option maxRecDepth 100000 in
theorem zw_188 : zz_mcw zm_188 := rfl
set_option maxRecDepth 100000 in
theorem zw_189 : zz_mcw zm_189 := rfl
set_option maxRecDepth 100000 in
theorem zw_190 : zz_mcw zm_190 := rfl
set_option maxRecDepth 100000 in
theorem zw_191 : zz_mcw zm_191 := rfl
set_option maxRecDepth 100000 in
theorem zw_192 : zz_mcw zm_192 := rfl
set_option maxRecDepth 100000 in
theorem zw_193 : zz_mcw zm_193 := rfl
set_option maxRecDepth 100000 in
theorem zw_194 : zz_mcw zm_194 := rfl
set_option maxRecDepth 100000 in
theorem zw_195 : zz_mcw zm_195 := rfl
set_option maxRecDepth 100000 in
theorem zw_196 : zz_mcw zm_196 := rfl
set_option maxRecDepth 100000 in
theorem zw_197 : zz_mcw zm_197 := rfl
set_option maxRecDepth 100000 in
theorem zw_198 : zz_mcw zm_198 := rfl
set_option maxRecDepth 100000 in
theorem zw_199 : zz_mcw zm_199 := rfl
set_option maxRecDepth 100000 in
theorem zw_200 : zz_mcw zm_200 := rfl
set_option maxRecDepth 100000 in
theorem zw_201 : zz_mcw zm_201 := rfl
set_option maxRecDepth 100000 in
theorem zw_202 : zz_mcw zm_202 := rfl
set_option maxRecDepth 100000 in
theorem zw_203 : zz_mcw zm_203 := rfl
set_option maxRecDepth 100000 in
theorem zw_204 : zz_mcw zm_204 := rfl
set_option maxRecDepth 100000 in
theorem zw_205 : zz_mcw zm_205 := rfl
set_option maxRecDepth 100000 in
theorem zw_206 : zz_mcw zm_206 := rfl
set_option maxRecDepth 100000 in
theorem zw_207 : zz_mcw zm_207 := rfl
set_option maxRecDepth 100000 in
theorem zw_208 : zz_mcw zm_208 := rfl
set_option maxRecDepth 100000 in
theorem zw_209 : zz_mcw zm_209 := rfl
set_option maxRecDepth 100000 in
theorem zw_210 : zz_mcw zm_210 := rfl
set_option maxRecDepth 100000 in
theorem zw_211 : zz_mcw zm_211 := rfl
set_option maxRecDepth 100000 in
theorem zw_212 : zz_mcw zm_212 := rfl
set_option maxRecDepth 100000 in
theorem zw_213 : zz_mcw zm_213 := rfl
set_option maxRecDepth 100000 in
theorem zw_214 : zz_mcw zm_214 := rfl
set_option maxRecDepth 100000 in
theorem zw_215 : zz_mcw zm_215 := rfl
set_option maxRecDepth 100000 in
theorem zw_216 : zz_mcw zm_216 := rfl
set_option maxRecDepth 100000 in
theorem zw_217 : zz_mcw zm_217 := rfl
set_option maxRecDepth 100000 in
theorem zw_218 : zz_mcw zm_218 := rfl
set_option maxRecDepth 100000 in
theorem zw_219 : zz_mcw zm_219 := rfl
set_option maxRecDepth 100000 in
theorem zw_220 : zz_mcw zm_220 := rfl
set_option maxRecDepth 100000 in
theorem zw_221 : zz_mcw zm_221 := rfl
set_option maxRecDepth 100000 in
theorem zw_222 : zz_mcw zm_222 := rfl
set_option maxRecDepth 100000 in
theorem zw_223 : zz_mcw zm_223 := rfl
set_option maxRecDepth 100000 in
theorem zw_224 : zz_mcw zm_224 := rfl
set_option maxRecDepth 100000 in
theorem zw_225 : zz_mcw zm_225 := rfl
set_option maxRecDepth 100000 in
theorem zw_226 : zz_mcw zm_226 := rfl
set_option maxRecDepth 100000 in
theorem zw_227 : zz_mcw zm_227 := rfl
set_option maxRecDepth 100000 in
theorem zw_228 : zz_mcw zm_228 := rfl
set_option maxRecDepth 100000 in
theorem zw_229 : zz_mcw zm_229 := rfl
set_option maxRecDepth 100000 in
theorem zw_230 : zz_mcw zm_230 := rfl
set_option maxRecDepth 100000 in
theorem zw_231 : zz_mcw zm_231 := rfl
set_option maxRecDepth 100000 in
theorem zw_232 : zz_mcw zm_232 := rfl
set_option maxRecDepth 100000 in
theorem zw_233 : zz_mcw zm_233 := rfl
set_option maxRecDepth 100000 in
theorem zw_234 : zz_mcw zm_234 := rfl
set_option maxRecDepth 100000 in
theorem zw_235 : zz_mcw zm_235 := rfl
set_option maxRecDepth 100000 in
theorem zw_236 : zz_mcw zm_236 := rfl
set_option maxRecDepth 100000 in
theorem zw_237 : zz_mcw zm_237 := rfl
set_option maxRecDepth 100000 in
theorem zw_238 : zz_mcw zm_238 := rfl
set_option maxRecDepth 100000 in
theorem zw_239 : zz_mcw zm_239 := rfl
set_option maxRecDepth 100000 in
theorem zw_240 : zz_mcw zm_240 := rfl
set_option maxRecDepth 100000 in
theorem zw_241 : zz_mcw zm_241 := rfl
set_option maxRecDepth 100000 in
theorem zw_242 : zz_mcw zm_242 := rfl
set_option maxRecDepth 100000 in
theorem zw_243 : zz_mcw zm_243 := rfl
set_option maxRecDepth 100000 in
theorem zw_244 : zz_mcw zm_244 := rfl
set_option maxRecDepth 100000 in
theorem zw_245 : zz_mcw zm_245 := rfl
set_option maxRecDepth 100000 in
theorem zw_246 : zz_mcw zm_246 := rfl
set_option maxRecDepth 100000 in
theorem zw_247 : zz_mcw zm_247 := rfl
set_option maxRecDepth 100000 in
theorem zw_248 : zz_mcw zm_248 := rfl
set_option maxRecDepth 100000 in
theorem zw_249 : zz_mcw zm_249 := rfl
set_option maxRecDepth 100000 in
theorem zw_250 : zz_mcw zm_250 := rfl
set_option maxRecDepth 100000 in
theorem zw_251 : zz_mcw zm_251 := rfl
set_option maxRecDepth 100000 in
theorem zw_252 : zz_mcw zm_252 := rfl
set_option maxRecDepth 100000 in
theorem zz_mcw_mem : ∀ mk ∈ zz_mts, zz_mcw mk := List.forall_mem_cons.mpr ⟨zw_0, List.forall_mem_cons.mpr ⟨zw_1, List.forall_mem_cons.mpr ⟨zw_2, List.forall_mem_cons.mpr ⟨zw_3, List.forall_mem_cons.mpr ⟨zw_4, List.forall_mem_cons.mpr ⟨zw_5, List.forall_mem_cons.mpr ⟨zw_6, List.forall_mem_cons.mpr ⟨zw_7, List.forall_mem_cons.mpr ⟨zw_8, List.forall_mem_cons.mpr ⟨zw_9, List.forall_mem_cons.mpr ⟨zw_10, List.forall_mem_cons.mpr ⟨zw_11, List.forall_mem_cons.mpr ⟨zw_12, List.forall_mem_cons.mpr ⟨zw_13, List.forall_mem_cons.mpr ⟨zw_14, List.forall_mem_cons.mpr ⟨zw_15, List.forall_mem_cons.mpr ⟨zw_16, List.forall_mem_cons.mpr ⟨zw_17, List.forall_mem_cons.mpr ⟨zw_18, List.forall_mem_cons.mpr ⟨zw_19, List.forall_mem_cons.mpr ⟨zw_20, List.forall_mem_cons.mpr ⟨zw_21, List.forall_mem_cons.mpr ⟨zw_22, List.forall_mem_cons.mpr ⟨zw_23, List.forall_mem_cons.mpr ⟨zw_24, List.forall_mem_cons.mpr ⟨zw_25, List.forall_mem_cons.mpr ⟨zw_26, List.forall_mem_cons.mpr ⟨zw_27, List.forall_mem_cons.mpr ⟨zw_28, List.forall_mem_cons.mpr ⟨zw_29, List.forall_mem_cons.mpr ⟨zw_30, List.forall_mem_cons.mpr ⟨zw_31, List.forall_mem_cons.mpr ⟨zw_32, List.forall_mem_cons.mpr ⟨zw_33, List.forall_mem_cons.mpr ⟨zw_34, List.forall_mem_cons.mpr ⟨zw_35, List.forall_mem_cons.mpr ⟨zw_36, List.forall_mem_cons.mpr ⟨zw_37, List.forall_mem_cons.mpr ⟨zw_38, List.forall_mem_cons.mpr ⟨zw_39, List.forall_mem_cons.mpr ⟨zw_40, List.forall_mem_cons.mpr ⟨zw_41, List.forall_mem_cons.mpr ⟨zw_42, List.forall_mem_cons.mpr ⟨zw_43, List.forall_mem_cons.mpr ⟨zw_44, List.forall_mem_cons.mpr ⟨zw_45, List.forall_mem_cons.mpr ⟨zw_46, List.forall_mem_cons.mpr ⟨zw_47, List.forall_mem_cons.mpr ⟨zw_48, List.forall_mem_cons.mpr ⟨zw_49, List.forall_mem_cons.mpr ⟨zw_50, List.forall_mem_cons.mpr ⟨zw_51, List.forall_mem_cons.mpr ⟨zw_52, List.forall_mem_cons.mpr ⟨zw_53, List.forall_mem_cons.mpr ⟨zw_54, List.forall_mem_cons.mpr ⟨zw_55, List.forall_mem_cons.mpr ⟨zw_56, List.forall_mem_cons.mpr ⟨zw_57, List.forall_mem_cons.mpr ⟨zw_58, List.forall_mem_cons.mpr ⟨zw_59, List.forall_mem_cons.mpr ⟨zw_60, List.forall_mem_cons.mpr ⟨zw_61, List.forall_mem_cons.mpr ⟨zw_62, List.forall_mem_cons.mpr ⟨zw_63, List.forall_mem_cons.mpr ⟨zw_64, List.forall_mem_cons.mpr ⟨zw_65, List.forall_mem_cons.mpr ⟨zw_66, List.forall_mem_cons.mpr ⟨zw_67, List.forall_mem_cons.mpr ⟨zw_68, List.forall_mem_cons.mpr ⟨zw_69, List.forall_mem_cons.mpr ⟨zw_70, List.forall_mem_cons.mpr ⟨zw_71, List.forall_mem_cons.mpr ⟨zw_72, List.forall_mem_cons.mpr ⟨zw_73, List.forall_mem_cons.mpr ⟨zw_74, List.forall_mem_cons.mpr ⟨zw_75, List.forall_mem_cons.mpr ⟨zw_76, List.forall_mem_cons.mpr ⟨zw_77, List.forall_mem_cons.mpr ⟨zw_78, List.forall_mem_cons.mpr ⟨zw_79, List.forall_mem_cons.mpr ⟨zw_80, List.forall_mem_cons.mpr ⟨zw_81, List.forall_mem_cons.mpr ⟨zw_82, List.forall_mem_cons.mpr ⟨zw_83, List.forall_mem_cons.mpr ⟨zw_84, List.forall_mem_cons.mpr ⟨zw_85, List.forall_mem_cons.mpr ⟨zw_86, List.forall_mem_cons.mpr ⟨zw_87, List.forall_mem_cons.mpr ⟨zw_88, List.forall_mem_cons.mpr ⟨zw_89, List.forall_mem_cons.mpr ⟨zw_90, List.forall_mem_cons.mpr ⟨zw_91, List.forall_mem_cons.mpr ⟨zw_92, List.forall_mem_cons.mpr ⟨zw_93, List.forall_mem_cons.mpr ⟨zw_94, List.forall_mem_cons.mpr ⟨zw_95, List.forall_mem_cons.mpr ⟨zw_96, List.forall_mem_cons.mpr ⟨zw_97, List.forall_mem_cons.mpr ⟨zw_98, List.forall_mem_cons.mpr ⟨zw_99, List.forall_mem_cons.mpr ⟨zw_100, List.forall_mem_cons.mpr ⟨zw_101, List.forall_mem_cons.mpr ⟨zw_102, List.forall_mem_cons.mpr ⟨zw_103, List.forall_mem_cons.mpr ⟨zw_104, List.forall_mem_cons.mpr ⟨zw_105, List.forall_mem_cons.mpr ⟨zw_106, List.forall_mem_cons.mpr ⟨zw_107, List.forall_mem_cons.mpr ⟨zw_108, List.forall_mem_cons.mpr ⟨zw_109, List.forall_mem_cons.mpr ⟨zw_110, List.forall_mem_cons.mpr ⟨zw_111, List.forall_mem_cons.mpr ⟨zw_112, List.forall_mem_cons.mpr ⟨zw_113, List.forall_mem_cons.mpr ⟨zw_114, List.forall_mem_cons.mpr ⟨zw_115, List.forall_mem_cons.mpr ⟨zw_116, List.forall_mem_cons.mpr ⟨zw_117, List.forall_mem_cons.mpr ⟨zw_118, List.forall_mem_cons.mpr ⟨zw_119, List.forall_mem_cons.mpr ⟨zw_120, List.forall_mem_cons.mpr ⟨zw_121, List.forall_mem_cons.mpr ⟨zw_122, List.forall_mem_cons.mpr ⟨zw_123, List.forall_mem_cons.mpr ⟨zw_124, List.forall_mem_cons.mpr ⟨zw_125, List.forall_mem_cons.mpr ⟨zw_126, List.forall_mem_cons.mpr ⟨zw_127, List.forall_mem_cons.mpr ⟨zw_128, List.forall_mem_cons.mpr ⟨zw_129, List.forall_mem_cons.mpr ⟨zw_130, List.forall_mem_cons.mpr ⟨zw_131, List.forall_mem_cons.mpr ⟨zw_132, List.forall_mem_cons.mpr ⟨zw_133, List.forall_mem_cons.mpr ⟨zw_134, List.forall_mem_cons.mpr ⟨zw_135, List.forall_mem_cons.mpr ⟨zw_136, List.forall_mem_cons.mpr ⟨zw_137, List.forall_mem_cons.mpr ⟨zw_138, List.forall_mem_cons.mpr ⟨zw_139, List.forall_mem_cons.mpr ⟨zw_140, List.forall_mem_cons.mpr ⟨zw_141, List.forall_mem_cons.mpr ⟨zw_142, List.forall_mem_cons.mpr ⟨zw_143, List.forall_mem_cons.mpr ⟨zw_144, List.forall_mem_cons.mpr ⟨zw_145, List.forall_mem_cons.mpr ⟨zw_146, List.forall_mem_cons.mpr ⟨zw_147, List.forall_mem_cons.mpr ⟨zw_148, List.forall_mem_cons.mpr ⟨zw_149, List.forall_mem_cons.mpr ⟨zw_150, List.forall_mem_cons.mpr ⟨zw_151, List.forall_mem_cons.mpr ⟨zw_152, List.forall_mem_cons.mpr ⟨zw_153, List.forall_mem_cons.mpr ⟨zw_154, List.forall_mem_cons.mpr ⟨zw_155, List.forall_mem_cons.mpr ⟨zw_156, List.forall_mem_cons.mpr ⟨zw_157, List.forall_mem_cons.mpr ⟨zw_158, List.forall_mem_cons.mpr ⟨zw_159, List.forall_mem_cons.mpr ⟨zw_160, List.forall_mem_cons.mpr ⟨zw_161, List.forall_mem_cons.mpr ⟨zw_162, List.forall_mem_cons.mpr ⟨zw_163, List.forall_mem_cons.mpr ⟨zw_164, List.forall_mem_cons.mpr ⟨zw_165, List.forall_mem_cons.mpr ⟨zw_166, List.forall_mem_cons.mpr ⟨zw_167, List.forall_mem_cons.mpr ⟨zw_168, List.forall_mem_cons.mpr ⟨zw_169, List.forall_mem_cons.mpr ⟨zw_170, List.forall_mem_cons.mpr ⟨zw_171, List.forall_mem_cons.mpr ⟨zw_172, List.forall_mem_cons.mpr ⟨zw_173, List.forall_mem_cons.mpr ⟨zw_174, List.forall_mem_cons.mpr ⟨zw_175, List.forall_mem_cons.mpr ⟨zw_176, List.forall_mem_cons.mpr ⟨zw_177, List.forall_mem_cons.mpr ⟨zw_178, List.forall_mem_cons.mpr ⟨zw_179, List.forall_mem_cons.mpr ⟨zw_180, List.forall_mem_cons.mpr ⟨zw_181, List.forall_mem_cons.mpr ⟨zw_182, List.forall_mem_cons.mpr ⟨zw_183, List.forall_mem_cons.mpr ⟨zw_184, List.forall_mem_cons.mpr ⟨zw_185, List.forall_mem_cons.mpr ⟨zw_186, List.forall_mem_cons.mpr ⟨zw_187, List.forall_mem_cons.mpr ⟨zw_188, List.forall_mem_cons.mpr ⟨zw_189, List.forall_mem_cons.mpr ⟨zw_190, List.forall_mem_cons.mpr ⟨zw_191, List.forall_mem_cons.mpr ⟨zw_192, List.forall_mem_cons.mpr ⟨zw_193, List.forall_mem_cons.mpr ⟨zw_194, List.forall_mem_cons.mpr ⟨zw_195, List.forall_mem_cons.mpr ⟨zw_196, List.forall_mem_cons.mpr ⟨zw_197, List.forall_mem_cons.mpr ⟨zw_198, List.forall_mem_cons.mpr ⟨zw_199, List.forall_mem_cons.mpr ⟨zw_200, List.forall_mem_cons.mpr ⟨zw_201, List.forall_mem_cons.mpr ⟨zw_202, List.forall_mem_cons.mpr ⟨zw_203, List.forall_mem_cons.mpr ⟨zw_204, List.forall_mem_cons.mpr ⟨zw_205, List.forall_mem_cons.mpr ⟨zw_206, List.forall_mem_cons.mpr ⟨zw_207, List.forall_mem_cons.mpr ⟨zw_208, List.forall_mem_cons.mpr ⟨zw_209, List.forall_mem_cons.mpr ⟨zw_210, List.forall_mem_cons.mpr ⟨zw_211, List.forall_mem_cons.mpr ⟨zw_212, List.forall_mem_cons.mpr ⟨zw_213, List.forall_mem_cons.mpr ⟨zw_214, List.forall_mem_cons.mpr ⟨zw_215, List.forall_mem_cons.mpr ⟨zw_216, List.forall_mem_cons.mpr ⟨zw_217, List.forall_mem_cons.mpr ⟨zw_218, List.forall_mem_cons.mpr ⟨zw_219, List.forall_mem_cons.mpr ⟨zw_220, List.forall_mem_cons.mpr ⟨zw_221, List.forall_mem_cons.mpr ⟨zw_222, List.forall_mem_cons.mpr ⟨zw_223, List.forall_mem_cons.mpr ⟨zw_224, List.forall_mem_cons.mpr ⟨zw_225, List.forall_mem_cons.mpr ⟨zw_226, List.forall_mem_cons.mpr ⟨zw_227, List.forall_mem_cons.mpr ⟨zw_228, List.forall_mem_cons.mpr ⟨zw_229, List.forall_mem_cons.mpr ⟨zw_230, List.forall_mem_cons.mpr ⟨zw_231, List.forall_mem_cons.mpr ⟨zw_232, List.forall_mem_cons.mpr ⟨zw_233, List.forall_mem_cons.mpr ⟨zw_234, List.forall_mem_cons.mpr ⟨zw_235, List.forall_mem_cons.mpr ⟨zw_236, List.forall_mem_cons.mpr ⟨zw_237, List.forall_mem_cons.mpr ⟨zw_238, List.forall_mem_cons.mpr ⟨zw_239, List.forall_mem_cons.mpr ⟨zw_240, List.forall_mem_cons.mpr ⟨zw_241, List.forall_mem_cons.mpr ⟨zw_242, List.forall_mem_cons.mpr ⟨zw_243, List.forall_mem_cons.mpr ⟨zw_244, List.forall_mem_cons.mpr ⟨zw_245, List.forall_mem_cons.mpr ⟨zw_246, List.forall_mem_cons.mpr ⟨zw_247, List.forall_mem_cons.mpr ⟨zw_248, List.forall_mem_cons.mpr ⟨zw_249, List.forall_mem_cons.mpr ⟨zw_250, List.forall_mem_cons.mpr ⟨zw_251, List.forall_mem_cons.mpr ⟨zw_252, (fun _ h => absurd h List.not_mem_nil)⟩⟩⟩⟩⟩⟩⟩⟩⟩⟩⟩⟩⟩⟩⟩⟩⟩⟩⟩⟩⟩⟩⟩⟩⟩⟩⟩⟩⟩⟩⟩⟩⟩⟩⟩⟩⟩⟩⟩⟩⟩⟩⟩⟩⟩⟩⟩⟩⟩⟩⟩⟩⟩⟩⟩⟩⟩⟩⟩⟩⟩⟩⟩⟩⟩⟩⟩⟩⟩⟩⟩⟩⟩⟩⟩⟩⟩⟩⟩⟩⟩⟩⟩⟩⟩⟩⟩⟩⟩⟩⟩⟩⟩⟩⟩⟩⟩⟩⟩⟩⟩⟩⟩⟩⟩⟩⟩⟩⟩⟩⟩⟩⟩⟩⟩⟩⟩⟩⟩⟩⟩⟩⟩⟩⟩⟩⟩⟩⟩⟩⟩⟩⟩⟩⟩⟩⟩⟩⟩⟩⟩⟩⟩⟩⟩⟩⟩⟩⟩⟩⟩⟩⟩⟩⟩⟩⟩⟩⟩⟩⟩⟩⟩⟩⟩⟩⟩⟩⟩⟩⟩⟩⟩⟩⟩⟩⟩⟩⟩⟩⟩⟩⟩⟩⟩⟩⟩⟩⟩⟩⟩⟩⟩⟩⟩⟩⟩⟩⟩⟩⟩⟩⟩⟩⟩⟩⟩⟩⟩⟩⟩⟩⟩⟩⟩⟩⟩⟩⟩⟩⟩⟩⟩⟩⟩⟩⟩⟩⟩⟩⟩⟩⟩⟩⟩⟩⟩⟩⟩⟩⟩⟩⟩⟩⟩⟩⟩⟩⟩⟩⟩⟩⟩
theorem zz_mcw_all (k : Nat) (mk : zz_Mi) (h : zz_mts[k]? = some mk) : zz_mcw mk := zz_mcw_mem mk (List.mem_of_getElem? h)
