/-! the answers of the methods, part 3 -/
set_option maxRecDepth 1000000 in
theorem zo_t17 : zs_ch [(1, .negSucc 0, true, .inl (.negSucc 0)), (1, .ofNat 4, false, .inl (.negSucc 0)), (2, .negSucc 0, true, .inl (.negSucc 3)), (2, .ofNat 60, false, .inl (.negSucc 5)), (2, .ofNat 0, true, .inl (.ofNat 0))] (.inr (.inr (.inl none))) zs_r0 (zs_two zs_k17 100000 zm_105 zm_207 [.inr (.inl (1, .ofNat 0)), .inr (.inl (2, .ofNat 0))]) = true := by decide +kernel
set_option maxRecDepth 1000000 in
theorem zo_t35 : zs_ch [(1, .negSucc 0, true, .inl (.negSucc 1)), (1, .ofNat 0, true, .inl (.ofNat 0)), (1, .ofNat 1, true, .inl (.ofNat 60)), (1, .ofNat 2, true, .inl (.ofNat 31)), (1, .ofNat 4, false, .inl (.negSucc 1))] (.inl (.ofNat 0)) zs_r0 (zs_two zs_ka 100000 zm_144 zm_242 [.inr (.inl (1, .ofNat 0))]) = true := by decide +kernel
set_option maxRecDepth 1000000 in
theorem zo_t40 : zs_ch [(1, .ofNat 0, true, .inl (.negSucc 3)), (1, .ofNat 20, false, .inl (.negSucc 5)), (3, .negSucc 0, true, .inl (.negSucc 1)), (3, .ofNat 1, false, .inl (.negSucc 1))] (.inl (.ofNat 0)) zs_r0 (zs_two zs_ka 100000 zm_137 zm_250 [.inr (.inl (1, .ofNat 0)), .inr (.inl (2, .ofNat 0)), .inr (.inl (3, .ofNat 0))]) = true := by decide +kernel
