/-! every instruction as the tables say it, part 1 -/
set_option maxRecDepth 100000 in
theorem zd_0 : zz_cdk zm_0 = true := zz_cdq (by decide +kernel)
set_option maxRecDepth 100000 in
theorem zd_3 : zz_cdk zm_3 = true := zz_cdq (by decide +kernel)
set_option maxRecDepth 100000 in
theorem zd_5 : zz_cdk zm_5 = true := zz_cdq (by decide +kernel)
set_option maxRecDepth 100000 in
theorem zd_8 : zz_cdk zm_8 = true := zz_cdq (by decide +kernel)
set_option maxRecDepth 100000 in
theorem zd_16 : zz_cdk zm_16 = true := zz_cdq (by decide +kernel)
set_option maxRecDepth 100000 in
theorem zd_17 : zz_cdk zm_17 = true := zz_cdq (by decide +kernel)
set_option maxRecDepth 100000 in
theorem zd_19 : zz_cdk zm_19 = true := zz_cdq (by decide +kernel)
set_option maxRecDepth 100000 in
theorem zd_22 : zz_cdk zm_22 = true := zz_cdq (by decide +kernel)
set_option maxRecDepth 100000 in
theorem zd_24 : zz_cdk zm_24 = true := zz_cdq (by decide +kernel)
set_option maxRecDepth 100000 in
theorem zd_25 : zz_cdk zm_25 = true := zz_cdq (by decide +kernel)
set_option maxRecDepth 100000 in
theorem zd_26 : zz_cdk zm_26 = true := zz_cdq (by decide +kernel)
set_option maxRecDepth 100000 in
theorem zd_28 : zz_cdk zm_28 = true := zz_cdq (by decide +kernel)
set_option maxRecDepth 100000 in
theorem zd_29 : zz_cdk zm_29 = true := zz_cdq (by decide +kernel)
set_option maxRecDepth 100000 in
theorem zd_30 : zz_cdk zm_30 = true := zz_cdq (by decide +kernel)
set_option maxRecDepth 100000 in
theorem zd_32 : zz_cdk zm_32 = true := zz_cdq (by decide +kernel)
set_option maxRecDepth 100000 in
theorem zd_36 : zz_cdk zm_36 = true := zz_cdq (by decide +kernel)
set_option maxRecDepth 100000 in
theorem zd_37 : zz_cdk zm_37 = true := zz_cdq (by decide +kernel)
set_option maxRecDepth 100000 in
theorem zd_39 : zz_cdk zm_39 = true := zz_cdq (by decide +kernel)
set_option maxRecDepth 100000 in
theorem zd_42 : zz_cdk zm_42 = true := zz_cdq (by decide +kernel)
set_option maxRecDepth 100000 in
theorem zd_43 : zz_cdk zm_43 = true := zz_cdq (by decide +kernel)
set_option maxRecDepth 100000 in
theorem zd_44 : zz_cdk zm_44 = true := zz_cdq (by decide +kernel)
set_option maxRecDepth 100000 in
theorem zd_47 : zz_cdk zm_47 = true := zz_cdq (by decide +kernel)
set_option maxRecDepth 100000 in
theorem zd_48 : zz_cdk zm_48 = true := zz_cdq (by decide +kernel)
set_option maxRecDepth 100000 in
theorem zd_49 : zz_cdk zm_49 = true := zz_cdq (by decide +kernel)
set_option maxRecDepth 100000 in
theorem zd_50 : zz_cdk zm_50 = true := zz_cdq (by decide +kernel)
set_option maxRecDepth 100000 in
theorem zd_52 : zz_cdk zm_52 = true := zz_cdq (by decide +kernel)
set_option maxRecDepth 100000 in
theorem zd_54 : zz_cdk zm_54 = true := zz_cdq (by decide +kernel)
set_option maxRecDepth 100000 in
theorem zd_55 : zz_cdk zm_55 = true := zz_cdq (by decide +kernel)
set_option maxRecDepth 100000 in
theorem zd_56 : zz_cdk zm_56 = true := zz_cdq (by decide +kernel)
set_option maxRecDepth 100000 in
theorem zd_57 : zz_cdk zm_57 = true := zz_cdq (by decide +kernel)
set_option maxRecDepth 100000 in
theorem zd_60 : zz_cdk zm_60 = true := zz_cdq (by decide +kernel)
set_option maxRecDepth 100000 in
theorem zd_62 : zz_cdk zm_62 = true := zz_cdq (by decide +kernel)
set_option maxRecDepth 100000 in
theorem zd_66 : zz_cdk zm_66 = true := zz_cdq (by decide +kernel)
set_option maxRecDepth 100000 in
theorem zd_72 : zz_cdk zm_72 = true := zz_cdq (by decide +kernel)
set_option maxRecDepth 100000 in
theorem zd_73 : zz_cdk zm_73 = true := zz_cdq (by decide +kernel)
set_option maxRecDepth 100000 in
theorem zd_75 : zz_cdk zm_75 = true := zz_cdq (by decide +kernel)
set_option maxRecDepth 100000 in
theorem zd_76 : zz_cdk zm_76 = true := zz_cdq (by decide +kernel)
set_option maxRecDepth 100000 in
theorem zd_80 : zz_cdk zm_80 = true := zz_cdq (by decide +kernel)
set_option maxRecDepth 100000 in
theorem zd_81 : zz_cdk zm_81 = true := zz_cdq (by decide +kernel)
set_option maxRecDepth 100000 in
theorem zd_82 : zz_cdk zm_82 = true := zz_cdq (by decide +kernel)
set_option maxRecDepth 100000 in
theorem zd_87 : zz_cdk zm_87 = true := zz_cdq (by decide +kernel)
set_option maxRecDepth 100000 in
theorem zd_88 : zz_cdk zm_88 = true := zz_cdq (by decide +kernel)
set_option maxRecDepth 100000 in
theorem zd_90 : zz_cdk zm_90 = true := zz_cdq (by decide +kernel)
set_option maxRecDepth 100000 in
theorem zd_94 : zz_cdk zm_94 = true := zz_cdq (by decide +kernel)
set_option maxRecDepth 100000 in
theorem zd_98 : zz_cdk zm_98 = true := zz_cdq (by decide +kernel)
set_option maxRecDepth 100000 in
theorem zd_99 : zz_cdk zm_99 = true := zz_cdq (by decide +kernel)
set_option maxRecDepth 100000 in
theorem zd_101 : zz_cdk zm_101 = true := zz_cdq (by decide +kernel)
set_option maxRecDepth 100000 in
theorem zd_102 : zz_cdk zm_102 = true := zz_cdq (by decide +kernel)
set_option maxRecDepth 100000 in
theorem zd_105 : zz_cdk zm_105 = true := zz_cdq (by decide +kernel)
set_option maxRecDepth 100000 in
theorem zd_106 : zz_cdk zm_106 = true := zz_cdq (by decide +kernel)
set_option maxRecDepth 100000 in
theorem zd_108 : zz_cdk zm_108 = true := zz_cdq (by decide +kernel)
set_option maxRecDepth 100000 in
theorem zd_110 : zz_cdk zm_110 = true := zz_cdq (by decide +kernel)
set_option maxRecDepth 100000 in
theorem zd_111 : zz_cdk zm_111 = true := zz_cdq (by decide +kernel)
set_option maxRecDepth 100000 in
theorem zd_114 : zz_cdk zm_114 = true := zz_cdq (by decide +kernel)
set_option maxRecDepth 100000 in
theorem zd_115 : zz_cdk zm_115 = true := zz_cdq (by decide +kernel)
set_option maxRecDepth 100000 in
theorem zd_118 : zz_cdk zm_118 = true := zz_cdq (by decide +kernel)
set_option maxRecDepth 100000 in
theorem zd_119 : zz_cdk zm_119 = true := zz_cdq (by decide +kernel)
set_option maxRecDepth 100000 in
theorem zd_122 : zz_cdk zm_122 = true := zz_cdq (by decide +kernel)
set_option maxRecDepth 100000 in
theorem zd_126 : zz_cdk zm_126 = true := zz_cdq (by decide +kernel)
set_option maxRecDepth 100000 in
theorem zd_127 : zz_cdk zm_127 = true := zz_cdq (by decide +kernel)
set_option maxRecDepth 100000 in
theorem zd_128 : zz_cdk zm_128 = true := zz_cdq (by decide +kernel)
set_option maxRecDepth 100000 in
theorem zd_129 : zz_cdk zm_129 = true := zz_cdq (by decide +kernel)
set_option maxRecDepth 100000 in
theorem zd_130 : zz_cdk zm_130 = true := zz_cdq (by decide +kernel)
set_option maxRecDepth 100000 in
theorem zd_131 : zz_cdk zm_131 = true := zz_cdq (by decide +kernel)
set_option maxRecDepth 100000 in
theorem zd_133 : zz_cdk zm_133 = true := zz_cdq (by decide +kernel)
set_option maxRecDepth 100000 in
theorem zd_134 : zz_cdk zm_134 = true := zz_cdq (by decide +kernel)
set_option maxRecDepth 100000 in
theorem zd_136 : zz_cdk zm_136 = true := zz_cdq (by decide +kernel)
set_option maxRecDepth 100000 in
theorem zd_138 : zz_cdk zm_138 = true := zz_cdq (by decide +kernel)
set_option maxRecDepth 100000 in
theorem zd_143 : zz_cdk zm_143 = true := zz_cdq (by decide +kernel)
set_option maxRecDepth 100000 in
theorem zd_144 : zz_cdk zm_144 = true := zz_cdq (by decide +kernel)
set_option maxRecDepth 100000 in
theorem zd_146 : zz_cdk zm_146 = true := zz_cdq (by decide +kernel)
set_option maxRecDepth 100000 in
theorem zd_148 : zz_cdk zm_148 = true := zz_cdq (by decide +kernel)
set_option maxRecDepth 100000 in
theorem zd_149 : zz_cdk zm_149 = true := zz_cdq (by decide +kernel)
set_option maxRecDepth 100000 in
theorem zd_150 : zz_cdk zm_150 = true := zz_cdq (by decide +kernel)
set_option maxRecDepth 100000 in
theorem zd_151 : zz_cdk zm_151 = true := zz_cdq (by decide +kernel)
set_option maxRecDepth 100000 in
theorem zd_160 : zz_cdk zm_160 = true := zz_cdq (by decide +kernel)
set_option maxRecDepth 100000 in
theorem zd_162 : zz_cdk zm_162 = true := zz_cdq (by decide +kernel)
set_option maxRecDepth 100000 in
theorem zd_163 : zz_cdk zm_163 = true := zz_cdq (by decide +kernel)
set_option maxRecDepth 100000 in
theorem zd_164 : zz_cdk zm_164 = true := zz_cdq (by decide +kernel)
set_option maxRecDepth 100000 in
theorem zd_165 : zz_cdk zm_165 = true := zz_cdq (by decide +kernel)
set_option maxRecDepth 100000 in
theorem zd_166 : zz_cdk zm_166 = true := zz_cdq (by decide +kernel)
set_option maxRecDepth 100000 in
theorem zd_170 : zz_cdk zm_170 = true := zz_cdq (by decide +kernel)
set_option maxRecDepth 100000 in
theorem zd_171 : zz_cdk zm_171 = true := zz_cdq (by decide +kernel)
set_option maxRecDepth 100000 in
theorem zd_173 : zz_cdk zm_173 = true := zz_cdq (by decide +kernel)
set_option maxRecDepth 100000 in
theorem zd_176 : zz_cdk zm_176 = true := zz_cdq (by decide +kernel)
set_option maxRecDepth 100000 in
theorem zd_177 : zz_cdk zm_177 = true := zz_cdq (by decide +kernel)
set_option maxRecDepth 100000 in
theorem zd_178 : zz_cdk zm_178 = true := zz_cdq (by decide +kernel)
set_option maxRecDepth 100000 in
theorem zd_179 : zz_cdk zm_179 = true := zz_cdq (by decide +kernel)
set_option maxRecDepth 100000 in
theorem zd_181 : zz_cdk zm_181 = true := zz_cdq (by decide +kernel)
set_option maxRecDepth 100000 in
theorem zd_183 : zz_cdk zm_183 = true := zz_cdq (by decide +kernel)
set_option maxRecDepth 100000 in
theorem zd_185 : zz_cdk zm_185 = true := zz_cdq (by decide +kernel)
set_option maxRecDepth 100000 in
theorem zd_186 : zz_cdk zm_186 = true := zz_cdq (by decide +kernel)
set_option maxRecDepth 100000 in
theorem zd_187 : zz_cdk zm_187 = true := zz_cdq (by decide +kernel)
set_option maxRecDepth 100000 in
theorem zd_189 : zz_cdk zm_189 = true := zz_cdq (by decide +kernel)
set_option maxRecDepth 100000 in
theorem zd_191 : zz_cdk zm_191 = true := zz_cdq (by decide +kernel)
set_option maxRecDepth 100000 in
theorem zd_193 : zz_cdk zm_193 = true := zz_cdq (by decide +kernel)
set_option maxRecDepth 100000 in
theorem zd_198 : zz_cdk zm_198 = true := zz_cdq (by decide +kernel)
set_option maxRecDepth 100000 in
theorem zd_199 : zz_cdk zm_199 = true := zz_cdq (by decide +kernel)
set_option maxRecDepth 100000 in
theorem zd_200 : zz_cdk zm_200 = true := zz_cdq (by decide +kernel)
set_option maxRecDepth 100000 in
theorem zd_201 : zz_cdk zm_201 = true := zz_cdq (by decide +kernel)
set_option maxRecDepth 100000 in
theorem zd_205 : zz_cdk zm_205 = true := zz_cdq (by decide +kernel)
set_option maxRecDepth 100000 in
theorem zd_206 : zz_cdk zm_206 = true := zz_cdq (by decide +kernel)
set_option maxRecDepth 100000 in
theorem zd_210 : zz_cdk zm_210 = true := zz_cdq (by decide +kernel)
set_option maxRecDepth 100000 in
theorem zd_211 : zz_cdk zm_211 = true := zz_cdq (by decide +kernel)
set_option maxRecDepth 100000 in
theorem zd_213 : zz_cdk zm_213 = true := zz_cdq (by decide +kernel)
set_option maxRecDepth 100000 in
theorem zd_214 : zz_cdk zm_214 = true := zz_cdq (by decide +kernel)
set_option maxRecDepth 100000 in
theorem zd_215 : zz_cdk zm_215 = true := zz_cdq (by decide +kernel)
set_option maxRecDepth 100000 in
theorem zd_216 : zz_cdk zm_216 = true := zz_cdq (by decide +kernel)
set_option maxRecDepth 100000 in
theorem zd_217 : zz_cdk zm_217 = true := zz_cdq (by decide +kernel)
set_option maxRecDepth 100000 in
theorem zd_218 : zz_cdk zm_218 = true := zz_cdq (by decide +kernel)
set_option maxRecDepth 100000 in
theorem zd_221 : zz_cdk zm_221 = true := zz_cdq (by decide +kernel)
set_option maxRecDepth 100000 in
theorem zd_224 : zz_cdk zm_224 = true := zz_cdq (by decide +kernel)
set_option maxRecDepth 100000 in
theorem zd_225 : zz_cdk zm_225 = true := zz_cdq (by decide +kernel)
set_option maxRecDepth 100000 in
theorem zd_227 : zz_cdk zm_227 = true := zz_cdq (by decide +kernel)
set_option maxRecDepth 100000 in
theorem zd_229 : zz_cdk zm_229 = true := zz_cdq (by decide +kernel)
set_option maxRecDepth 100000 in
theorem zd_231 : zz_cdk zm_231 = true := zz_cdq (by decide +kernel)
set_option maxRecDepth 100000 in
theorem zd_234 : zz_cdk zm_234 = true := zz_cdq (by decide +kernel)
set_option maxRecDepth 100000 in
theorem zd_238 : zz_cdk zm_238 = true := zz_cdq (by decide +kernel)
set_option maxRecDepth 100000 in
theorem zd_241 : zz_cdk zm_241 = true := zz_cdq (by decide +kernel)
set_option maxRecDepth 100000 in
theorem zd_242 : zz_cdk zm_242 = true := zz_cdq (by decide +kernel)
set_option maxRecDepth 100000 in
theorem zd_244 : zz_cdk zm_244 = true := zz_cdq (by decide +kernel)
set_option maxRecDepth 100000 in
theorem zd_245 : zz_cdk zm_245 = true := zz_cdq (by decide +kernel)
set_option maxRecDepth 100000 in
theorem zd_247 : zz_cdk zm_247 = true := zz_cdq (by decide +kernel)
set_option maxRecDepth 100000 in
theorem zd_250 : zz_cdk zm_250 = true := zz_cdq (by decide +kernel)
set_option maxRecDepth 100000 in
theorem zd_251 : zz_cdk zm_251 = true := zz_cdq (by decide +kernel)
set_option maxRecDepth 100000 in
theorem zd_252 : zz_cdk zm_252 = true := zz_cdq (by decide +kernel)
