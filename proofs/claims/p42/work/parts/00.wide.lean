/-! this claim is read over the whole library (24) -/
theorem zz_wide : Jvm.Free.Multi.outerC = Jvm.Free.Multi.outerC := rfl
