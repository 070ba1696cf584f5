/-! every instruction of the law as the tables say it, part 2 -/
set_option maxRecDepth 100000 in
theorem zd_law_12 : zl_12.all (fun ch => ch.all (zz_chk "LostBetsLaw" "law" code)) = true := zz_clq (by decide +kernel)
set_option maxRecDepth 100000 in
theorem zd_law_13 : zl_13.all (fun ch => ch.all (zz_chk "LostBetsLaw" "law" code)) = true := zz_clq (by decide +kernel)
set_option maxRecDepth 100000 in
theorem zd_law_14 : zl_14.all (fun ch => ch.all (zz_chk "LostBetsLaw" "law" code)) = true := zz_clq (by decide +kernel)
set_option maxRecDepth 100000 in
theorem zd_law_15 : zl_15.all (fun ch => ch.all (zz_chk "LostBetsLaw" "law" code)) = true := zz_clq (by decide +kernel)
set_option maxRecDepth 100000 in
theorem zd_law_16 : zl_16.all (fun ch => ch.all (zz_chk "LostBetsLaw" "law" code)) = true := zz_clq (by decide +kernel)
set_option maxRecDepth 100000 in
theorem zd_law_17 : zl_17.all (fun ch => ch.all (zz_chk "LostBetsLaw" "law" code)) = true := zz_clq (by decide +kernel)
set_option maxRecDepth 100000 in
theorem zd_law_18 : zl_18.all (fun ch => ch.all (zz_chk "LostBetsLaw" "law" code)) = true := zz_clq (by decide +kernel)
set_option maxRecDepth 100000 in
theorem zd_law_19 : zl_19.all (fun ch => ch.all (zz_chk "LostBetsLaw" "law" code)) = true := zz_clq (by decide +kernel)
set_option maxRecDepth 100000 in
theorem zd_law_20 : zl_20.all (fun ch => ch.all (zz_chk "LostBetsLaw" "law" code)) = true := zz_clq (by decide +kernel)
set_option maxRecDepth 100000 in
theorem zd_law_21 : zl_21.all (fun ch => ch.all (zz_chk "LostBetsLaw" "law" code)) = true := zz_clq (by decide +kernel)
set_option maxRecDepth 100000 in
theorem zd_law_22 : zl_22.all (fun ch => ch.all (zz_chk "LostBetsLaw" "law" code)) = true := zz_clq (by decide +kernel)
set_option maxRecDepth 100000 in
theorem zd_law_23 : zl_23.all (fun ch => ch.all (zz_chk "LostBetsLaw" "law" code)) = true := zz_clq (by decide +kernel)
set_option maxRecDepth 100000 in
theorem zd_law_24 : zl_24.all (fun ch => ch.all (zz_chk "LostBetsLaw" "law" code)) = true := zz_clq (by decide +kernel)
theorem zz_all_app {f : List zz_I → Bool} {a b : List (List zz_I)} (h1 : a.all f = true) (h2 : b.all f = true) : (a ++ b).all f = true := by rw [List.all_append, h1, h2]; rfl
theorem zd_law : zz_cdk zz_law = true := zz_all_app zd_law_0 (zz_all_app zd_law_1 (zz_all_app zd_law_2 (zz_all_app zd_law_3 (zz_all_app zd_law_4 (zz_all_app zd_law_5 (zz_all_app zd_law_6 (zz_all_app zd_law_7 (zz_all_app zd_law_8 (zz_all_app zd_law_9 (zz_all_app zd_law_10 (zz_all_app zd_law_11 (zz_all_app zd_law_12 (zz_all_app zd_law_13 (zz_all_app zd_law_14 (zz_all_app zd_law_15 (zz_all_app zd_law_16 (zz_all_app zd_law_17 (zz_all_app zd_law_18 (zz_all_app zd_law_19 (zz_all_app zd_law_20 (zz_all_app zd_law_21 (zz_all_app zd_law_22 (zz_all_app zd_law_23 (zd_law_24))))))))))))))))))))))))
