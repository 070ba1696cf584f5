/-! the answers of the methods, part 1 -/
set_option maxRecDepth 1000000 in
theorem zo_t0 : zs_ch [(1, .negSucc 0, true, .inl (.negSucc 3)), (1, .ofNat 255, false, .inl (.negSucc 5))] (.inl (.ofNat 1)) zs_r0 (zs_two zs_ka 100000 zm_12 zm_150 [.inr (.inl (1, .ofNat 0))]) = true := by decide +kernel
set_option maxRecDepth 1000000 in
theorem zo_t1 : zs_ch [] (.inl (.negSucc 999)) zs_r0 (zs_two zs_ka 100000 zm_16 zm_152 []) = true := by decide +kernel
set_option maxRecDepth 1000000 in
theorem zo_t2 : zs_ch [] (.inl (.negSucc 0)) zs_r0 (zs_two zs_ka 100000 zm_74 zm_184 [.inr (.inl (1, .ofNat 0)), .inr (.inl (2, .ofNat 0))]) = true := by decide +kernel
set_option maxRecDepth 1000000 in
theorem zo_t3 : zs_ch [] (.inl (.negSucc 0)) zs_r0 (zs_two zs_ka 100000 zm_75 zm_185 [.inr (.inl (1, .ofNat 0)), .inr (.inl (2, .ofNat 0))]) = true := by decide +kernel
set_option maxRecDepth 1000000 in
theorem zo_t4 : zs_ch [(1, .negSucc 0, true, .inl (.negSucc 0)), (1, .ofNat 4, false, .inl (.negSucc 0)), (2, .negSucc 0, true, .inl (.negSucc 1)), (2, .ofNat 2, false, .inl (.negSucc 1)), (2, .ofNat 0, true, .inr (.inl (1, .ofNat 2))), (2, .ofNat 1, true, .inl (.ofNat 0))] (.inl (.ofNat 1)) zs_r0 (zs_two zs_ka 100000 zm_76 zm_186 [.inr (.inl (1, .ofNat 0)), .inr (.inl (2, .ofNat 0))]) = true := by decide +kernel
set_option maxRecDepth 1000000 in
theorem zo_t5 : zs_ch [] (.inl (.negSucc 0)) zs_r0 (zs_two zs_ka 100000 zm_77 zm_187 [.inr (.inl (1, .ofNat 0)), .inr (.inl (2, .ofNat 0))]) = true := by decide +kernel
set_option maxRecDepth 1000000 in
theorem zo_t6 : zs_ch [(1, .negSucc 0, true, .inl (.negSucc 1)), (1, .ofNat 5, false, .inl (.negSucc 1)), (2, .negSucc 0, true, .inl (.negSucc 3)), (2, .ofNat 9, false, .inl (.negSucc 5))] (.inl (.ofNat 0)) zs_r0 (zs_two zs_ka 100000 zm_84 zm_188 [.inr (.inl (1, .ofNat 0)), .inr (.inl (2, .ofNat 0))]) = true := by decide +kernel
set_option maxRecDepth 1000000 in
theorem zo_t7 : zs_ch [] (.inl (.negSucc 0)) zs_r0 (zs_two zs_ka 100000 zm_85 zm_190 [.inr (.inl (1, .ofNat 0)), .inr (.inl (2, .ofNat 0))]) = true := by decide +kernel
set_option maxRecDepth 1000000 in
theorem zo_t8 : zs_ch [] (.inl (.negSucc 0)) zs_r0 (zs_two zs_ka 100000 zm_86 zm_191 [.inr (.inl (1, .ofNat 0)), .inr (.inl (2, .ofNat 0)), .inr (.inl (3, .ofNat 0))]) = true := by decide +kernel
set_option maxRecDepth 1000000 in
theorem zo_t10 : zs_ch [] (.inl (.negSucc 0)) zs_r0 (zs_two zs_ka 100000 zm_89 zm_194 [.inr (.inl (1, .ofNat 0)), .inr (.inl (2, .ofNat 0)), .inr (.inl (3, .ofNat 0)), .inr (.inl (4, .ofNat 0)), .inr (.inl (5, .ofNat 0))]) = true := by decide +kernel
set_option maxRecDepth 1000000 in
theorem zo_t12 : zs_ch [] (.inl (.negSucc 2)) zs_r0 (zs_two zs_ka 100000 zm_92 zm_183 []) = true := by decide +kernel
set_option maxRecDepth 1000000 in
theorem zo_t13 : zs_ch [] (.inl (.negSucc 0)) zs_r0 (zs_two zs_ka 100000 zm_96 zm_200 [.inr (.inl (1, .ofNat 0)), .inr (.inl (2, .ofNat 0)), .inr (.inl (3, .ofNat 0))]) = true := by decide +kernel
set_option maxRecDepth 1000000 in
theorem zo_t14 : zs_ch [] (.inl (.negSucc 0)) zs_r0 (zs_two zs_ka 100000 zm_98 zm_201 [.inr (.inl (1, .ofNat 0)), .inr (.inl (2, .ofNat 0)), .inr (.inl (3, .ofNat 0))]) = true := by decide +kernel
set_option maxRecDepth 1000000 in
theorem zo_t16 : zs_ch [(1, .negSucc 1, true, .inl (.negSucc 0)), (1, .negSucc 0, true, .inl (.negSucc 8))] (.inl (.negSucc 0)) zs_r0 (zs_two zs_ka 100000 zm_103 zm_205 [.inr (.inl (1, .ofNat 0))]) = true := by decide +kernel
set_option maxRecDepth 1000000 in
theorem zo_t18 : zs_ch [] (.inl (.negSucc 0)) zs_r0 (zs_two zs_ka 100000 zm_106 zm_208 [.inr (.inl (1, .ofNat 0)), .inr (.inl (2, .ofNat 0))]) = true := by decide +kernel
set_option maxRecDepth 1000000 in
theorem zo_t19 : zs_ch [] (.inl (.negSucc 0)) zs_r0 (zs_two zs_ka 100000 zm_108 zm_211 [.inr (.inl (1, .ofNat 0)), .inr (.inl (2, .ofNat 0)), .inr (.inl (3, .ofNat 0))]) = true := by decide +kernel
set_option maxRecDepth 1000000 in
theorem zo_t20 : zs_ch [] (.inl (.negSucc 0)) zs_r0 (zs_two zs_ka 100000 zm_109 zm_212 [.inr (.inl (1, .ofNat 0))]) = true := by decide +kernel
set_option maxRecDepth 1000000 in
theorem zo_t23 : zs_ch [(1, .negSucc 0, true, .inl (.negSucc 0)), (1, .ofNat 4, false, .inl (.negSucc 0))] (.inl (.negSucc 8)) zs_r0 (zs_two zs_ka 100000 zm_119 zm_220 [.inr (.inl (1, .ofNat 0))]) = true := by decide +kernel
set_option maxRecDepth 1000000 in
theorem zo_t24 : zs_ch [(1, .negSucc 0, true, .inl (.negSucc 1)), (1, .ofNat 1, false, .inl (.negSucc 1))] (.inl (.ofNat 0)) zs_r0 (zs_two zs_ka 100000 zm_121 zm_221 [.inr (.inl (1, .ofNat 0))]) = true := by decide +kernel
set_option maxRecDepth 1000000 in
theorem zo_t26 : zs_ch [] (.inl (.negSucc 0)) zs_r0 (zs_two zs_ka 100000 zm_130 zm_225 [.inr (.inl (1, .ofNat 0)), .inr (.inl (2, .ofNat 0))]) = true := by decide +kernel
set_option maxRecDepth 1000000 in
theorem zo_t27 : zs_ch [] (.inl (.negSucc 0)) zs_r0 (zs_two zs_ka 100000 zm_132 zm_228 [.inr (.inl (1, .ofNat 0)), .inr (.inl (2, .ofNat 0))]) = true := by decide +kernel
set_option maxRecDepth 1000000 in
theorem zo_t28 : zs_ch [] (.inl (.negSucc 0)) zs_r0 (zs_two zs_ka 100000 zm_125 zm_229 [.inr (.inl (1, .ofNat 0)), .inr (.inl (2, .ofNat 0)), .inr (.inl (3, .ofNat 0))]) = true := by decide +kernel
set_option maxRecDepth 1000000 in
theorem zo_t29 : zs_ch [] (.inr (.inr (.inl (some (.long 4000000000000000001))))) zs_r0 (zs_two zs_ka 100000 zm_133 zm_230 [.inr (.inl (1, .ofNat 0)), .inr (.inl (2, .ofNat 0)), .inr (.inl (3, .ofNat 0)), .inr (.inl (4, .ofNat 0))]) = true := by decide +kernel
set_option maxRecDepth 1000000 in
theorem zo_t30 : zs_ch [(1, .ofNat 0, true, .inl (.negSucc 3)), (1, .ofNat 9, false, .inl (.negSucc 5)), (2, .negSucc 0, true, .inl (.negSucc 1)), (2, .ofNat 1, false, .inl (.negSucc 1))] (.inl (.ofNat 0)) zs_r0 (zs_two zs_ka 100000 zm_136 zm_233 [.inr (.inl (1, .ofNat 0)), .inr (.inl (2, .ofNat 0))]) = true := by decide +kernel
set_option maxRecDepth 1000000 in
theorem zo_t31 : zs_ch [(1, .negSucc 0, true, .inl (.negSucc 1)), (1, .ofNat 0, true, .inl (.negSucc 8)), (1, .ofNat 2, false, .inl (.negSucc 1))] (.inl (.ofNat 0)) zs_r0 (zs_two zs_ka 100000 zm_138 zm_234 [.inr (.inl (1, .ofNat 0))]) = true := by decide +kernel
set_option maxRecDepth 1000000 in
theorem zo_t32 : zs_ch [] (.inl (.negSucc 0)) zs_r0 (zs_two zs_ka 100000 zm_142 zm_239 [.inr (.inl (1, .ofNat 0))]) = true := by decide +kernel
set_option maxRecDepth 1000000 in
theorem zo_t33 : zs_ch [(1, .negSucc 0, true, .inr (.inr (.inl (some (.long 4000000000000000001))))), (1, .ofNat 4, false, .inr (.inr (.inl (some (.long 4000000000000000001))))), (2, .negSucc 0, true, .inr (.inr (.inl (some (.long 4000000000000000002))))), (2, .ofNat 1, false, .inr (.inr (.inl (some (.long 4000000000000000002))))), (2, .ofNat 0, true, .inr (.inr (.inl (some (.long 0)))))] (.inr (.inr (.inl (some (.long 1))))) zs_r0 (zs_two zs_ka 100000 zm_135 zm_240 [.inr (.inl (1, .ofNat 0)), .inr (.inl (2, .ofNat 0))]) = true := by decide +kernel
set_option maxRecDepth 1000000 in
theorem zo_t34 : zs_ch [(1, .negSucc 0, true, .inl (.negSucc 0)), (1, .ofNat 4, false, .inl (.negSucc 0))] (.inl (.ofNat 0)) zs_r0 (zs_two zs_ka 100000 zm_143 zm_241 [.inr (.inl (1, .ofNat 0))]) = true := by decide +kernel
set_option maxRecDepth 1000000 in
theorem zo_t36 : zs_ch [] (.inl (.ofNat 1000000001)) zs_r0 (zs_two zs_ka 100000 zm_101 zm_246 [.inr (.inl (1, .ofNat 0)), .inr (.inl (2, .ofNat 0)), .inr (.inl (3, .ofNat 0))]) = true := by decide +kernel
set_option maxRecDepth 1000000 in
theorem zo_t37 : zs_ch [(1, .negSucc 0, true, .inl (.negSucc 3)), (1, .ofNat 99, false, .inl (.negSucc 5))] (.inl (.ofNat 1)) zs_r0 (zs_two zs_ka 100000 zm_127 zm_247 [.inr (.inl (1, .ofNat 0))]) = true := by decide +kernel
set_option maxRecDepth 1000000 in
theorem zo_t38 : zs_ch [] (.inl (.negSucc 8)) zs_r0 (zs_two zs_ka 100000 zm_129 zm_248 []) = true := by decide +kernel
set_option maxRecDepth 1000000 in
theorem zo_t39 : zs_ch [] (.inl (.ofNat 0)) zs_r0 (zs_two zs_ka 100000 zm_128 zm_249 []) = true := by decide +kernel
set_option maxRecDepth 1000000 in
theorem zo_t42 : zs_ch [] (.inl (.negSucc 2)) zs_r0 (zs_two zs_ka 100000 zm_95 zm_182 []) = true := by decide +kernel
set_option maxRecDepth 1000000 in
theorem zo_t43 : zs_ch [(1, .negSucc 0, true, .inl (.negSucc 8)), (1, .ofNat 7, true, .inl (.ofNat 0)), (1, .ofNat 10, true, .inl (.negSucc 8)), (1, .ofNat 16, true, .inl (.ofNat 0))] (.inl (.negSucc 8)) zs_r0 (zs_two zs_ka 100000 zm_78 zm_252 [.inr (.inl (1, .ofNat 0))]) = true := by decide +kernel
