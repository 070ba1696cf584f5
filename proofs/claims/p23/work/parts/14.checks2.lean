/-! every instruction as the tables say it, part 2 -/
set_option maxRecDepth 100000 in
theorem zd_1 : zz_cdk zm_1 = true := zz_cdq (by decide +kernel)
set_option maxRecDepth 100000 in
theorem zd_2 : zz_cdk zm_2 = true := zz_cdq (by decide +kernel)
set_option maxRecDepth 100000 in
theorem zd_4 : zz_cdk zm_4 = true := zz_cdq (by decide +kernel)
set_option maxRecDepth 100000 in
theorem zd_6 : zz_cdk zm_6 = true := zz_cdq (by decide +kernel)
set_option maxRecDepth 100000 in
theorem zd_7 : zz_cdk zm_7 = true := zz_cdq (by decide +kernel)
set_option maxRecDepth 100000 in
theorem zd_9 : zz_cdk zm_9 = true := zz_cdq (by decide +kernel)
set_option maxRecDepth 100000 in
theorem zd_10 : zz_cdk zm_10 = true := zz_cdq (by decide +kernel)
set_option maxRecDepth 100000 in
theorem zd_11 : zz_cdk zm_11 = true := zz_cdq (by decide +kernel)
set_option maxRecDepth 100000 in
theorem zd_12 : zz_cdk zm_12 = true := zz_cdq (by decide +kernel)
set_option maxRecDepth 100000 in
theorem zd_13 : zz_cdk zm_13 = true := zz_cdq (by decide +kernel)
set_option maxRecDepth 100000 in
theorem zd_14 : zz_cdk zm_14 = true := zz_cdq (by decide +kernel)
set_option maxRecDepth 100000 in
theorem zd_15 : zz_cdk zm_15 = true := zz_cdq (by decide +kernel)
set_option maxRecDepth 100000 in
theorem zd_18 : zz_cdk zm_18 = true := zz_cdq (by decide +kernel)
set_option maxRecDepth 100000 in
theorem zd_20 : zz_cdk zm_20 = true := zz_cdq (by decide +kernel)
set_option maxRecDepth 100000 in
theorem zd_21 : zz_cdk zm_21 = true := zz_cdq (by decide +kernel)
set_option maxRecDepth 100000 in
theorem zd_23 : zz_cdk zm_23 = true := zz_cdq (by decide +kernel)
set_option maxRecDepth 100000 in
theorem zd_27 : zz_cdk zm_27 = true := zz_cdq (by decide +kernel)
set_option maxRecDepth 100000 in
theorem zd_31 : zz_cdk zm_31 = true := zz_cdq (by decide +kernel)
set_option maxRecDepth 100000 in
theorem zd_33 : zz_cdk zm_33 = true := zz_cdq (by decide +kernel)
set_option maxRecDepth 100000 in
theorem zd_34 : zz_cdk zm_34 = true := zz_cdq (by decide +kernel)
set_option maxRecDepth 100000 in
theorem zd_35 : zz_cdk zm_35 = true := zz_cdq (by decide +kernel)
set_option maxRecDepth 100000 in
theorem zd_38 : zz_cdk zm_38 = true := zz_cdq (by decide +kernel)
set_option maxRecDepth 100000 in
theorem zd_40 : zz_cdk zm_40 = true := zz_cdq (by decide +kernel)
set_option maxRecDepth 100000 in
theorem zd_41 : zz_cdk zm_41 = true := zz_cdq (by decide +kernel)
set_option maxRecDepth 100000 in
theorem zd_45 : zz_cdk zm_45 = true := zz_cdq (by decide +kernel)
set_option maxRecDepth 100000 in
theorem zd_46 : zz_cdk zm_46 = true := zz_cdq (by decide +kernel)
set_option maxRecDepth 100000 in
theorem zd_51 : zz_cdk zm_51 = true := zz_cdq (by decide +kernel)
set_option maxRecDepth 100000 in
theorem zd_53 : zz_cdk zm_53 = true := zz_cdq (by decide +kernel)
set_option maxRecDepth 100000 in
theorem zd_58 : zz_cdk zm_58 = true := zz_cdq (by decide +kernel)
set_option maxRecDepth 100000 in
theorem zd_59 : zz_cdk zm_59 = true := zz_cdq (by decide +kernel)
set_option maxRecDepth 100000 in
theorem zd_61 : zz_cdk zm_61 = true := zz_cdq (by decide +kernel)
set_option maxRecDepth 100000 in
theorem zd_63 : zz_cdk zm_63 = true := zz_cdq (by decide +kernel)
set_option maxRecDepth 100000 in
theorem zd_64 : zz_cdk zm_64 = true := zz_cdq (by decide +kernel)
set_option maxRecDepth 100000 in
theorem zd_65 : zz_cdk zm_65 = true := zz_cdq (by decide +kernel)
set_option maxRecDepth 100000 in
theorem zd_67 : zz_cdk zm_67 = true := zz_cdq (by decide +kernel)
set_option maxRecDepth 100000 in
theorem zd_68 : zz_cdk zm_68 = true := zz_cdq (by decide +kernel)
set_option maxRecDepth 100000 in
theorem zd_69 : zz_cdk zm_69 = true := zz_cdq (by decide +kernel)
set_option maxRecDepth 100000 in
theorem zd_70 : zz_cdk zm_70 = true := zz_cdq (by decide +kernel)
set_option maxRecDepth 100000 in
theorem zd_71 : zz_cdk zm_71 = true := zz_cdq (by decide +kernel)
set_option maxRecDepth 100000 in
theorem zd_74 : zz_cdk zm_74 = true := zz_cdq (by decide +kernel)
set_option maxRecDepth 100000 in
theorem zd_77 : zz_cdk zm_77 = true := zz_cdq (by decide +kernel)
set_option maxRecDepth 100000 in
theorem zd_78 : zz_cdk zm_78 = true := zz_cdq (by decide +kernel)
set_option maxRecDepth 100000 in
theorem zd_79 : zz_cdk zm_79 = true := zz_cdq (by decide +kernel)
set_option maxRecDepth 100000 in
theorem zd_83 : zz_cdk zm_83 = true := zz_cdq (by decide +kernel)
set_option maxRecDepth 100000 in
theorem zd_84 : zz_cdk zm_84 = true := zz_cdq (by decide +kernel)
set_option maxRecDepth 100000 in
theorem zd_85 : zz_cdk zm_85 = true := zz_cdq (by decide +kernel)
set_option maxRecDepth 100000 in
theorem zd_86 : zz_cdk zm_86 = true := zz_cdq (by decide +kernel)
set_option maxRecDepth 100000 in
theorem zd_89 : zz_cdk zm_89 = true := zz_cdq (by decide +kernel)
set_option maxRecDepth 100000 in
theorem zd_91 : zz_cdk zm_91 = true := zz_cdq (by decide +kernel)
set_option maxRecDepth 100000 in
theorem zd_92 : zz_cdk zm_92 = true := zz_cdq (by decide +kernel)
set_option maxRecDepth 100000 in
theorem zd_93 : zz_cdk zm_93 = true := zz_cdq (by decide +kernel)
set_option maxRecDepth 100000 in
theorem zd_95 : zz_cdk zm_95 = true := zz_cdq (by decide +kernel)
set_option maxRecDepth 100000 in
theorem zd_96 : zz_cdk zm_96 = true := zz_cdq (by decide +kernel)
set_option maxRecDepth 100000 in
theorem zd_97 : zz_cdk zm_97 = true := zz_cdq (by decide +kernel)
set_option maxRecDepth 100000 in
theorem zd_100 : zz_cdk zm_100 = true := zz_cdq (by decide +kernel)
set_option maxRecDepth 100000 in
theorem zd_103 : zz_cdk zm_103 = true := zz_cdq (by decide +kernel)
set_option maxRecDepth 100000 in
theorem zd_104 : zz_cdk zm_104 = true := zz_cdq (by decide +kernel)
set_option maxRecDepth 100000 in
theorem zd_107 : zz_cdk zm_107 = true := zz_cdq (by decide +kernel)
set_option maxRecDepth 100000 in
theorem zd_109 : zz_cdk zm_109 = true := zz_cdq (by decide +kernel)
set_option maxRecDepth 100000 in
theorem zd_112 : zz_cdk zm_112 = true := zz_cdq (by decide +kernel)
set_option maxRecDepth 100000 in
theorem zd_113 : zz_cdk zm_113 = true := zz_cdq (by decide +kernel)
set_option maxRecDepth 100000 in
theorem zd_116 : zz_cdk zm_116 = true := zz_cdq (by decide +kernel)
set_option maxRecDepth 100000 in
theorem zd_117 : zz_cdk zm_117 = true := zz_cdq (by decide +kernel)
set_option maxRecDepth 100000 in
theorem zd_120 : zz_cdk zm_120 = true := zz_cdq (by decide +kernel)
set_option maxRecDepth 100000 in
theorem zd_121 : zz_cdk zm_121 = true := zz_cdq (by decide +kernel)
set_option maxRecDepth 100000 in
theorem zd_123 : zz_cdk zm_123 = true := zz_cdq (by decide +kernel)
set_option maxRecDepth 100000 in
theorem zd_124 : zz_cdk zm_124 = true := zz_cdq (by decide +kernel)
set_option maxRecDepth 100000 in
theorem zd_125 : zz_cdk zm_125 = true := zz_cdq (by decide +kernel)
set_option maxRecDepth 100000 in
theorem zd_132 : zz_cdk zm_132 = true := zz_cdq (by decide +kernel)
set_option maxRecDepth 100000 in
theorem zd_135 : zz_cdk zm_135 = true := zz_cdq (by decide +kernel)
set_option maxRecDepth 100000 in
theorem zd_137 : zz_cdk zm_137 = true := zz_cdq (by decide +kernel)
set_option maxRecDepth 100000 in
theorem zd_139 : zz_cdk zm_139 = true := zz_cdq (by decide +kernel)
set_option maxRecDepth 100000 in
theorem zd_140 : zz_cdk zm_140 = true := zz_cdq (by decide +kernel)
set_option maxRecDepth 100000 in
theorem zd_141 : zz_cdk zm_141 = true := zz_cdq (by decide +kernel)
set_option maxRecDepth 100000 in
theorem zd_142 : zz_cdk zm_142 = true := zz_cdq (by decide +kernel)
set_option maxRecDepth 100000 in
theorem zd_145 : zz_cdk zm_145 = true := zz_cdq (by decide +kernel)
set_option maxRecDepth 100000 in
theorem zd_147 : zz_cdk zm_147 = true := zz_cdq (by decide +kernel)
set_option maxRecDepth 100000 in
theorem zd_152 : zz_cdk zm_152 = true := zz_cdq (by decide +kernel)
set_option maxRecDepth 100000 in
theorem zd_153 : zz_cdk zm_153 = true := zz_cdq (by decide +kernel)
set_option maxRecDepth 100000 in
theorem zd_154 : zz_cdk zm_154 = true := zz_cdq (by decide +kernel)
set_option maxRecDepth 100000 in
theorem zd_155 : zz_cdk zm_155 = true := zz_cdq (by decide +kernel)
set_option maxRecDepth 100000 in
theorem zd_156 : zz_cdk zm_156 = true := zz_cdq (by decide +kernel)
set_option maxRecDepth 100000 in
theorem zd_157 : zz_cdk zm_157 = true := zz_cdq (by decide +kernel)
set_option maxRecDepth 100000 in
theorem zd_158 : zz_cdk zm_158 = true := zz_cdq (by decide +kernel)
set_option maxRecDepth 100000 in
theorem zd_159 : zz_cdk zm_159 = true := zz_cdq (by decide +kernel)
set_option maxRecDepth 100000 in
theorem zd_161 : zz_cdk zm_161 = true := zz_cdq (by decide +kernel)
set_option maxRecDepth 100000 in
theorem zd_167 : zz_cdk zm_167 = true := zz_cdq (by decide +kernel)
set_option maxRecDepth 100000 in
theorem zd_168 : zz_cdk zm_168 = true := zz_cdq (by decide +kernel)
set_option maxRecDepth 100000 in
theorem zd_169 : zz_cdk zm_169 = true := zz_cdq (by decide +kernel)
set_option maxRecDepth 100000 in
theorem zd_172 : zz_cdk zm_172 = true := zz_cdq (by decide +kernel)
set_option maxRecDepth 100000 in
theorem zd_174 : zz_cdk zm_174 = true := zz_cdq (by decide +kernel)
set_option maxRecDepth 100000 in
theorem zd_175 : zz_cdk zm_175 = true := zz_cdq (by decide +kernel)
set_option maxRecDepth 100000 in
theorem zd_180 : zz_cdk zm_180 = true := zz_cdq (by decide +kernel)
set_option maxRecDepth 100000 in
theorem zd_182 : zz_cdk zm_182 = true := zz_cdq (by decide +kernel)
set_option maxRecDepth 100000 in
theorem zd_184 : zz_cdk zm_184 = true := zz_cdq (by decide +kernel)
set_option maxRecDepth 100000 in
theorem zd_188 : zz_cdk zm_188 = true := zz_cdq (by decide +kernel)
set_option maxRecDepth 100000 in
theorem zd_190 : zz_cdk zm_190 = true := zz_cdq (by decide +kernel)
set_option maxRecDepth 100000 in
theorem zd_192 : zz_cdk zm_192 = true := zz_cdq (by decide +kernel)
set_option maxRecDepth 100000 in
theorem zd_194 : zz_cdk zm_194 = true := zz_cdq (by decide +kernel)
set_option maxRecDepth 100000 in
theorem zd_195 : zz_cdk zm_195 = true := zz_cdq (by decide +kernel)
set_option maxRecDepth 100000 in
theorem zd_196 : zz_cdk zm_196 = true := zz_cdq (by decide +kernel)
set_option maxRecDepth 100000 in
theorem zd_197 : zz_cdk zm_197 = true := zz_cdq (by decide +kernel)
set_option maxRecDepth 100000 in
theorem zd_202 : zz_cdk zm_202 = true := zz_cdq (by decide +kernel)
set_option maxRecDepth 100000 in
theorem zd_203 : zz_cdk zm_203 = true := zz_cdq (by decide +kernel)
set_option maxRecDepth 100000 in
theorem zd_204 : zz_cdk zm_204 = true := zz_cdq (by decide +kernel)
set_option maxRecDepth 100000 in
theorem zd_207 : zz_cdk zm_207 = true := zz_cdq (by decide +kernel)
set_option maxRecDepth 100000 in
theorem zd_208 : zz_cdk zm_208 = true := zz_cdq (by decide +kernel)
set_option maxRecDepth 100000 in
theorem zd_209 : zz_cdk zm_209 = true := zz_cdq (by decide +kernel)
set_option maxRecDepth 100000 in
theorem zd_212 : zz_cdk zm_212 = true := zz_cdq (by decide +kernel)
set_option maxRecDepth 100000 in
theorem zd_219 : zz_cdk zm_219 = true := zz_cdq (by decide +kernel)
set_option maxRecDepth 100000 in
theorem zd_220 : zz_cdk zm_220 = true := zz_cdq (by decide +kernel)
set_option maxRecDepth 100000 in
theorem zd_222 : zz_cdk zm_222 = true := zz_cdq (by decide +kernel)
set_option maxRecDepth 100000 in
theorem zd_223 : zz_cdk zm_223 = true := zz_cdq (by decide +kernel)
set_option maxRecDepth 100000 in
theorem zd_226 : zz_cdk zm_226 = true := zz_cdq (by decide +kernel)
set_option maxRecDepth 100000 in
theorem zd_228 : zz_cdk zm_228 = true := zz_cdq (by decide +kernel)
set_option maxRecDepth 100000 in
theorem zd_230 : zz_cdk zm_230 = true := zz_cdq (by decide +kernel)
set_option maxRecDepth 100000 in
theorem zd_232 : zz_cdk zm_232 = true := zz_cdq (by decide +kernel)
set_option maxRecDepth 100000 in
theorem zd_233 : zz_cdk zm_233 = true := zz_cdq (by decide +kernel)
set_option maxRecDepth 100000 in
theorem zd_235 : zz_cdk zm_235 = true := zz_cdq (by decide +kernel)
set_option maxRecDepth 100000 in
theorem zd_236 : zz_cdk zm_236 = true := zz_cdq (by decide +kernel)
set_option maxRecDepth 100000 in
theorem zd_237 : zz_cdk zm_237 = true := zz_cdq (by decide +kernel)
set_option maxRecDepth 100000 in
theorem zd_239 : zz_cdk zm_239 = true := zz_cdq (by decide +kernel)
set_option maxRecDepth 100000 in
theorem zd_240 : zz_cdk zm_240 = true := zz_cdq (by decide +kernel)
set_option maxRecDepth 100000 in
theorem zd_243 : zz_cdk zm_243 = true := zz_cdq (by decide +kernel)
set_option maxRecDepth 100000 in
theorem zd_246 : zz_cdk zm_246 = true := zz_cdq (by decide +kernel)
set_option maxRecDepth 100000 in
theorem zd_248 : zz_cdk zm_248 = true := zz_cdq (by decide +kernel)
set_option maxRecDepth 100000 in
theorem zd_249 : zz_cdk zm_249 = true := zz_cdq (by decide +kernel)
set_option maxRecDepth 100000 in
theorem zz_cdk_mem : ∀ mk ∈ zz_mts, zz_cdk mk = true := List.forall_mem_cons.mpr ⟨zd_0, List.forall_mem_cons.mpr ⟨zd_1, List.forall_mem_cons.mpr ⟨zd_2, List.forall_mem_cons.mpr ⟨zd_3, List.forall_mem_cons.mpr ⟨zd_4, List.forall_mem_cons.mpr ⟨zd_5, List.forall_mem_cons.mpr ⟨zd_6, List.forall_mem_cons.mpr ⟨zd_7, List.forall_mem_cons.mpr ⟨zd_8, List.forall_mem_cons.mpr ⟨zd_9, List.forall_mem_cons.mpr ⟨zd_10, List.forall_mem_cons.mpr ⟨zd_11, List.forall_mem_cons.mpr ⟨zd_12, List.forall_mem_cons.mpr ⟨zd_13, List.forall_mem_cons.mpr ⟨zd_14, List.forall_mem_cons.mpr ⟨zd_15, List.forall_mem_cons.mpr ⟨zd_16, List.forall_mem_cons.mpr ⟨zd_17, List.forall_mem_cons.mpr ⟨zd_18, List.forall_mem_cons.mpr ⟨zd_19, List.forall_mem_cons.mpr ⟨zd_20, List.forall_mem_cons.mpr ⟨zd_21, List.forall_mem_cons.mpr ⟨zd_22, List.forall_mem_cons.mpr ⟨zd_23, List.forall_mem_cons.mpr ⟨zd_24, List.forall_mem_cons.mpr ⟨zd_25, List.forall_mem_cons.mpr ⟨zd_26, List.forall_mem_cons.mpr ⟨zd_27, List.forall_mem_cons.mpr ⟨zd_28, List.forall_mem_cons.mpr ⟨zd_29, List.forall_mem_cons.mpr ⟨zd_30, List.forall_mem_cons.mpr ⟨zd_31, List.forall_mem_cons.mpr ⟨zd_32, List.forall_mem_cons.mpr ⟨zd_33, List.forall_mem_cons.mpr ⟨zd_34, List.forall_mem_cons.mpr ⟨zd_35, List.forall_mem_cons.mpr ⟨zd_36, List.forall_mem_cons.mpr ⟨zd_37, List.forall_mem_cons.mpr ⟨zd_38, List.forall_mem_cons.mpr ⟨zd_39, List.forall_mem_cons.mpr ⟨zd_40, List.forall_mem_cons.mpr ⟨zd_41, List.forall_mem_cons.mpr ⟨zd_42, List.forall_mem_cons.mpr ⟨zd_43, List.forall_mem_cons.mpr ⟨zd_44, List.forall_mem_cons.mpr ⟨zd_45, List.forall_mem_cons.mpr ⟨zd_46, List.forall_mem_cons.mpr ⟨zd_47, List.forall_mem_cons.mpr ⟨zd_48, List.forall_mem_cons.mpr ⟨zd_49, List.forall_mem_cons.mpr ⟨zd_50, List.forall_mem_cons.mpr ⟨zd_51, List.forall_mem_cons.mpr ⟨zd_52, List.forall_mem_cons.mpr ⟨zd_53, List.forall_mem_cons.mpr ⟨zd_54, List.forall_mem_cons.mpr ⟨zd_55, List.forall_mem_cons.mpr ⟨zd_56, List.forall_mem_cons.mpr ⟨zd_57, List.forall_mem_cons.mpr ⟨zd_58, List.forall_mem_cons.mpr ⟨zd_59, List.forall_mem_cons.mpr ⟨zd_60, List.forall_mem_cons.mpr ⟨zd_61, List.forall_mem_cons.mpr ⟨zd_62, List.forall_mem_cons.mpr ⟨zd_63, List.forall_mem_cons.mpr ⟨zd_64, List.forall_mem_cons.mpr ⟨zd_65, List.forall_mem_cons.mpr ⟨zd_66, List.forall_mem_cons.mpr ⟨zd_67, List.forall_mem_cons.mpr ⟨zd_68, List.forall_mem_cons.mpr ⟨zd_69, List.forall_mem_cons.mpr ⟨zd_70, List.forall_mem_cons.mpr ⟨zd_71, List.forall_mem_cons.mpr ⟨zd_72, List.forall_mem_cons.mpr ⟨zd_73, List.forall_mem_cons.mpr ⟨zd_74, List.forall_mem_cons.mpr ⟨zd_75, List.forall_mem_cons.mpr ⟨zd_76, List.forall_mem_cons.mpr ⟨zd_77, List.forall_mem_cons.mpr ⟨zd_78, List.forall_mem_cons.mpr ⟨zd_79, List.forall_mem_cons.mpr ⟨zd_80, List.forall_mem_cons.mpr ⟨zd_81, List.forall_mem_cons.mpr ⟨zd_82, List.forall_mem_cons.mpr ⟨zd_83, List.forall_mem_cons.mpr ⟨zd_84, List.forall_mem_cons.mpr ⟨zd_85, List.forall_mem_cons.mpr ⟨zd_86, List.forall_mem_cons.mpr ⟨zd_87, List.forall_mem_cons.mpr ⟨zd_88, List.forall_mem_cons.mpr ⟨zd_89, List.forall_mem_cons.mpr ⟨zd_90, List.forall_mem_cons.mpr ⟨zd_91, List.forall_mem_cons.mpr ⟨zd_92, List.forall_mem_cons.mpr ⟨zd_93, List.forall_mem_cons.mpr ⟨zd_94, List.forall_mem_cons.mpr ⟨zd_95, List.forall_mem_cons.mpr ⟨zd_96, List.forall_mem_cons.mpr ⟨zd_97, List.forall_mem_cons.mpr ⟨zd_98, List.forall_mem_cons.mpr ⟨zd_99, List.forall_mem_cons.mpr ⟨zd_100, List.forall_mem_cons.mpr ⟨zd_101, List.forall_mem_cons.mpr ⟨zd_102, List.forall_mem_cons.mpr ⟨zd_103, List.forall_mem_cons.mpr ⟨zd_104, List.forall_mem_cons.mpr ⟨zd_105, List.forall_mem_cons.mpr ⟨zd_106, List.forall_mem_cons.mpr ⟨zd_107, List.forall_mem_cons.mpr ⟨zd_108, List.forall_mem_cons.mpr ⟨zd_109, List.forall_mem_cons.mpr ⟨zd_110, List.forall_mem_cons.mpr ⟨zd_111, List.forall_mem_cons.mpr ⟨zd_112, List.forall_mem_cons.mpr ⟨zd_113, List.forall_mem_cons.mpr ⟨zd_114, List.forall_mem_cons.mpr ⟨zd_115, List.forall_mem_cons.mpr ⟨zd_116, List.forall_mem_cons.mpr ⟨zd_117, List.forall_mem_cons.mpr ⟨zd_118, List.forall_mem_cons.mpr ⟨zd_119, List.forall_mem_cons.mpr ⟨zd_120, List.forall_mem_cons.mpr ⟨zd_121, List.forall_mem_cons.mpr ⟨zd_122, List.forall_mem_cons.mpr ⟨zd_123, List.forall_mem_cons.mpr ⟨zd_124, List.forall_mem_cons.mpr ⟨zd_125, List.forall_mem_cons.mpr ⟨zd_126, List.forall_mem_cons.mpr ⟨zd_127, List.forall_mem_cons.mpr ⟨zd_128, List.forall_mem_cons.mpr ⟨zd_129, List.forall_mem_cons.mpr ⟨zd_130, List.forall_mem_cons.mpr ⟨zd_131, List.forall_mem_cons.mpr ⟨zd_132, List.forall_mem_cons.mpr ⟨zd_133, List.forall_mem_cons.mpr ⟨zd_134, List.forall_mem_cons.mpr ⟨zd_135, List.forall_mem_cons.mpr ⟨zd_136, List.forall_mem_cons.mpr ⟨zd_137, List.forall_mem_cons.mpr ⟨zd_138, List.forall_mem_cons.mpr ⟨zd_139, List.forall_mem_cons.mpr ⟨zd_140, List.forall_mem_cons.mpr ⟨zd_141, List.forall_mem_cons.mpr ⟨zd_142, List.forall_mem_cons.mpr ⟨zd_143, List.forall_mem_cons.mpr ⟨zd_144, List.forall_mem_cons.mpr ⟨zd_145, List.forall_mem_cons.mpr ⟨zd_146, List.forall_mem_cons.mpr ⟨zd_147, List.forall_mem_cons.mpr ⟨zd_148, List.forall_mem_cons.mpr ⟨zd_149, List.forall_mem_cons.mpr ⟨zd_150, List.forall_mem_cons.mpr ⟨zd_151, List.forall_mem_cons.mpr ⟨zd_152, List.forall_mem_cons.mpr ⟨zd_153, List.forall_mem_cons.mpr ⟨zd_154, List.forall_mem_cons.mpr ⟨zd_155, List.forall_mem_cons.mpr ⟨zd_156, List.forall_mem_cons.mpr ⟨zd_157, List.forall_mem_cons.mpr ⟨zd_158, List.forall_mem_cons.mpr ⟨zd_159, List.forall_mem_cons.mpr ⟨zd_160, List.forall_mem_cons.mpr ⟨zd_161, List.forall_mem_cons.mpr ⟨zd_162, List.forall_mem_cons.mpr ⟨zd_163, List.forall_mem_cons.mpr ⟨zd_164, List.forall_mem_cons.mpr ⟨zd_165, List.forall_mem_cons.mpr ⟨zd_166, List.forall_mem_cons.mpr ⟨zd_167, List.forall_mem_cons.mpr ⟨zd_168, List.forall_mem_cons.mpr ⟨zd_169, List.forall_mem_cons.mpr ⟨zd_170, List.forall_mem_cons.mpr ⟨zd_171, List.forall_mem_cons.mpr ⟨zd_172, List.forall_mem_cons.mpr ⟨zd_173, List.forall_mem_cons.mpr ⟨zd_174, List.forall_mem_cons.mpr ⟨zd_175, List.forall_mem_cons.mpr ⟨zd_176, List.forall_mem_cons.mpr ⟨zd_177, List.forall_mem_cons.mpr ⟨zd_178, List.forall_mem_cons.mpr ⟨zd_179, List.forall_mem_cons.mpr ⟨zd_180, List.forall_mem_cons.mpr ⟨zd_181, List.forall_mem_cons.mpr ⟨zd_182, List.forall_mem_cons.mpr ⟨zd_183, List.forall_mem_cons.mpr ⟨zd_184, List.forall_mem_cons.mpr ⟨zd_185, List.forall_mem_cons.mpr ⟨zd_186, List.forall_mem_cons.mpr ⟨zd_187, List.forall_mem_cons.mpr ⟨zd_188, List.forall_mem_cons.mpr ⟨zd_189, List.forall_mem_cons.mpr ⟨zd_190, List.forall_mem_cons.mpr ⟨zd_191, List.forall_mem_cons.mpr ⟨zd_192, List.forall_mem_cons.mpr ⟨zd_193, List.forall_mem_cons.mpr ⟨zd_194, List.forall_mem_cons.mpr ⟨zd_195, List.forall_mem_cons.mpr ⟨zd_196, List.forall_mem_cons.mpr ⟨zd_197, List.forall_mem_cons.mpr ⟨zd_198, List.forall_mem_cons.mpr ⟨zd_199, List.forall_mem_cons.mpr ⟨zd_200, List.forall_mem_cons.mpr ⟨zd_201, List.forall_mem_cons.mpr ⟨zd_202, List.forall_mem_cons.mpr ⟨zd_203, List.forall_mem_cons.mpr ⟨zd_204, List.forall_mem_cons.mpr ⟨zd_205, List.forall_mem_cons.mpr ⟨zd_206, List.forall_mem_cons.mpr ⟨zd_207, List.forall_mem_cons.mpr ⟨zd_208, List.forall_mem_cons.mpr ⟨zd_209, List.forall_mem_cons.mpr ⟨zd_210, List.forall_mem_cons.mpr ⟨zd_211, List.forall_mem_cons.mpr ⟨zd_212, List.forall_mem_cons.mpr ⟨zd_213, List.forall_mem_cons.mpr ⟨zd_214, List.forall_mem_cons.mpr ⟨zd_215, List.forall_mem_cons.mpr ⟨zd_216, List.forall_mem_cons.mpr ⟨zd_217, List.forall_mem_cons.mpr ⟨zd_218, List.forall_mem_cons.mpr ⟨zd_219, List.forall_mem_cons.mpr ⟨zd_220, List.forall_mem_cons.mpr ⟨zd_221, List.forall_mem_cons.mpr ⟨zd_222, List.forall_mem_cons.mpr ⟨zd_223, List.forall_mem_cons.mpr ⟨zd_224, List.forall_mem_cons.mpr ⟨zd_225, List.forall_mem_cons.mpr ⟨zd_226, List.forall_mem_cons.mpr ⟨zd_227, List.forall_mem_cons.mpr ⟨zd_228, List.forall_mem_cons.mpr ⟨zd_229, List.forall_mem_cons.mpr ⟨zd_230, List.forall_mem_cons.mpr ⟨zd_231, List.forall_mem_cons.mpr ⟨zd_232, List.forall_mem_cons.mpr ⟨zd_233, List.forall_mem_cons.mpr ⟨zd_234, List.forall_mem_cons.mpr ⟨zd_235, List.forall_mem_cons.mpr ⟨zd_236, List.forall_mem_cons.mpr ⟨zd_237, List.forall_mem_cons.mpr ⟨zd_238, List.forall_mem_cons.mpr ⟨zd_239, List.forall_mem_cons.mpr ⟨zd_240, List.forall_mem_cons.mpr ⟨zd_241, List.forall_mem_cons.mpr ⟨zd_242, List.forall_mem_cons.mpr ⟨zd_243, List.forall_mem_cons.mpr ⟨zd_244, List.forall_mem_cons.mpr ⟨zd_245, List.forall_mem_cons.mpr ⟨zd_246, List.forall_mem_cons.mpr ⟨zd_247, List.forall_mem_cons.mpr ⟨zd_248, List.forall_mem_cons.mpr ⟨zd_249, List.forall_mem_cons.mpr ⟨zd_250, List.forall_mem_cons.mpr ⟨zd_251, List.forall_mem_cons.mpr ⟨zd_252, (fun _ h => absurd h List.not_mem_nil)⟩⟩⟩⟩⟩⟩⟩⟩⟩⟩⟩⟩⟩⟩⟩⟩⟩⟩⟩⟩⟩⟩⟩⟩⟩⟩⟩⟩⟩⟩⟩⟩⟩⟩⟩⟩⟩⟩⟩⟩⟩⟩⟩⟩⟩⟩⟩⟩⟩⟩⟩⟩⟩⟩⟩⟩⟩⟩⟩⟩⟩⟩⟩⟩⟩⟩⟩⟩⟩⟩⟩⟩⟩⟩⟩⟩⟩⟩⟩⟩⟩⟩⟩⟩⟩⟩⟩⟩⟩⟩⟩⟩⟩⟩⟩⟩⟩⟩⟩⟩⟩⟩⟩⟩⟩⟩⟩⟩⟩⟩⟩⟩⟩⟩⟩⟩⟩⟩⟩⟩⟩⟩⟩⟩⟩⟩⟩⟩⟩⟩⟩⟩⟩⟩⟩⟩⟩⟩⟩⟩⟩⟩⟩⟩⟩⟩⟩⟩⟩⟩⟩⟩⟩⟩⟩⟩⟩⟩⟩⟩⟩⟩⟩⟩⟩⟩⟩⟩⟩⟩⟩⟩⟩⟩⟩⟩⟩⟩⟩⟩⟩⟩⟩⟩⟩⟩⟩⟩⟩⟩⟩⟩⟩⟩⟩⟩⟩⟩⟩⟩⟩⟩⟩⟩⟩⟩⟩⟩⟩⟩⟩⟩⟩⟩⟩⟩⟩⟩⟩⟩⟩⟩⟩⟩⟩⟩⟩⟩⟩⟩⟩⟩⟩⟩⟩⟩⟩⟩⟩⟩⟩⟩⟩⟩⟩⟩⟩⟩⟩⟩⟩⟩⟩
