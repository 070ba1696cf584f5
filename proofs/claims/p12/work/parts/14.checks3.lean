/-! every instruction of the law as the tables say it, part 1 -/
set_option maxRecDepth 100000 in
theorem zd_law_0 : zl_0.all (fun ch => ch.all (zz_chk "LostBetsLaw" "law" code)) = true := zz_clq (by decide +kernel)
set_option maxRecDepth 100000 in
theorem zd_law_1 : zl_1.all (fun ch => ch.all (zz_chk "LostBetsLaw" "law" code)) = true := zz_clq (by decide +kernel)
set_option maxRecDepth 100000 in
theorem zd_law_2 : zl_2.all (fun ch => ch.all (zz_chk "LostBetsLaw" "law" code)) = true := zz_clq (by decide +kernel)
set_option maxRecDepth 100000 in
theorem zd_law_3 : zl_3.all (fun ch => ch.all (zz_chk "LostBetsLaw" "law" code)) = true := zz_clq (by decide +kernel)
set_option maxRecDepth 100000 in
theorem zd_law_4 : zl_4.all (fun ch => ch.all (zz_chk "LostBetsLaw" "law" code)) = true := zz_clq (by decide +kernel)
set_option maxRecDepth 100000 in
theorem zd_law_5 : zl_5.all (fun ch => ch.all (zz_chk "LostBetsLaw" "law" code)) = true := zz_clq (by decide +kernel)
set_option maxRecDepth 100000 in
theorem zd_law_6 : zl_6.all (fun ch => ch.all (zz_chk "LostBetsLaw" "law" code)) = true := zz_clq (by decide +kernel)
set_option maxRecDepth 100000 in
theorem zd_law_7 : zl_7.all (fun ch => ch.all (zz_chk "LostBetsLaw" "law" code)) = true := zz_clq (by decide +kernel)
set_option maxRecDepth 100000 in
theorem zd_law_8 : zl_8.all (fun ch => ch.all (zz_chk "LostBetsLaw" "law" code)) = true := zz_clq (by decide +kernel)
set_option maxRecDepth 100000 in
theorem zd_law_9 : zl_9.all (fun ch => ch.all (zz_chk "LostBetsLaw" "law" code)) = true := zz_clq (by decide +kernel)
set_option maxRecDepth 100000 in
theorem zd_law_10 : zl_10.all (fun ch => ch.all (zz_chk "LostBetsLaw" "law" code)) = true := zz_clq (by decide +kernel)
set_option maxRecDepth 100000 in
theorem zd_law_11 : zl_11.all (fun ch => ch.all (zz_chk "LostBetsLaw" "law" code)) = true := zz_clq (by decide +kernel)
