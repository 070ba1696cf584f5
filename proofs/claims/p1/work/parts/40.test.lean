/-! test -/
def zx_w : zz_W := zx_1 ++ zy_c
theorem t_feed (a : Int32) : zz_Gc zm_12 [.ref 1, .int a] zx_w (fun v _ => v = some (.int (if a < 0 then -4 else if 255 < a then -6 else 1))) := by
  refine zz_in 300 ?_
  refine And.intro (fun h => ?_) (fun h => ?_)
  · sorry
  · sorry
theorem t_feed2 (a : Int32) : zz_Gc zm_150 [.ref 271, .int a] zx_w (fun v _ => v = some (.int (if a < 0 then -4 else if 255 < a then -6 else 1))) := by
  refine zz_in 300 ?_
  repeat' (first | refine zz_in 300 ?_ | refine zz_ct rfl ?_ | refine zz_cf rfl ?_ | refine And.intro (fun _ => ?_) (fun _ => ?_))
  all_goals sorry
