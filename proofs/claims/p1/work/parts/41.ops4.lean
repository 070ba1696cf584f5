/-! the answers of the methods, part 4 -/
set_option maxRecDepth 1000000 in
theorem zo_t22 : zs_ch [(1, .negSucc 0, true, .inl (.negSucc 3)), (1, .ofNat 30, false, .inl (.negSucc 5))] (.inl (.negSucc 8)) zs_r0 (zs_two zs_ka 100000 zm_118 zm_219 [.inr (.inl (1, .ofNat 0))]) = true := by decide +kernel
