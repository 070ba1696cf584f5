/-! every instruction of the law as the tables say it, part 2 -/
theorem zz_all_app {f : List zz_I → Bool} {a b : List (List zz_I)} (h1 : a.all f = true) (h2 : b.all f = true) : (a ++ b).all f = true := by rw [List.all_append, h1, h2]; rfl

set_option maxRecDepth 100000 in
theorem zd_law : zz_cdk zz_law = true := zz_cdq (by decide +kernel)
