/-! the answers of the methods, part 2 -/
set_option maxRecDepth 1000000 in
theorem zo_t9 : zs_ch [(1, .negSucc 0, true, .inl (.negSucc 0)), (1, .ofNat 4, false, .inl (.negSucc 0)), (2, .ofNat 0, true, .inl (.negSucc 3)), (3, .negSucc 0, true, .inl (.negSucc 3)), (2, .ofNat 9, false, .inl (.negSucc 5)), (3, .ofNat 8, false, .inl (.negSucc 5)), (1, .ofNat 0, true, .inl (.ofNat 20)), (1, .ofNat 1, true, .inl (.ofNat 30)), (1, .ofNat 2, true, .inl (.ofNat 40)), (1, .ofNat 3, true, .inl (.ofNat 50))] (.inl (.ofNat 60)) zs_r0 (zs_two zs_ka 100000 zm_88 zm_193 [.inr (.inl (1, .ofNat 0)), .inr (.inl (2, .ofNat 0)), .inr (.inl (3, .ofNat 0))]) = true := by decide +kernel
set_option maxRecDepth 1000000 in
theorem zo_t11 : zs_ch [(1, .ofNat 0, true, .inl (.negSucc 3)), (1, .ofNat 60, false, .inl (.negSucc 5))] (.inl (.ofNat 0)) zs_r0 (zs_two zs_ka 100000 zm_90 zm_197 [.inr (.inl (1, .ofNat 0))]) = true := by decide +kernel
set_option maxRecDepth 1000000 in
theorem zo_t15 : zs_ch [(1, .negSucc 0, true, .inl (.negSucc 3)), (1, .ofNat 60, false, .inl (.negSucc 5))] (.inl (.ofNat 0)) zs_r0 (zs_two zs_ka 100000 zm_102 zm_203 [.inr (.inl (1, .ofNat 0))]) = true := by decide +kernel
set_option maxRecDepth 1000000 in
theorem zo_t21 : zs_ch [(1, .negSucc 1, true, .inl (.negSucc 0)), (1, .negSucc 0, true, .inl (.ofNat 0))] (.inl (.negSucc 0)) zs_r0 (zs_two zs_ka 100000 zm_111 zm_214 [.inr (.inl (1, .ofNat 0))]) = true := by decide +kernel
set_option maxRecDepth 1000000 in
theorem zo_t25 : zs_ch [(1, .negSucc 0, true, .inl (.negSucc 3)), (2, .negSucc 0, true, .inl (.negSucc 3)), (1, .ofNat 99, false, .inl (.negSucc 5)), (2, .ofNat 30, false, .inl (.negSucc 5))] (.inl (.ofNat 0)) zs_r0 (zs_two zs_ka 100000 zm_123 zm_222 [.inr (.inl (1, .ofNat 0)), .inr (.inl (2, .ofNat 0))]) = true := by decide +kernel
set_option maxRecDepth 1000000 in
theorem zo_t41 : zs_ch [] (.inl (.ofNat 0)) zs_r0 (zs_two zs_ka 100000 zm_94 zm_181 []) = true := by decide +kernel
