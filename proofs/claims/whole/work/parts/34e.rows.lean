/-! rows, going on -/
theorem xk_r28 : ((List.range' 311 23).all xk_one) = true := by decide +kernel
theorem xk_r30 : ((List.range' 335 10).all xk_one) = true := by decide +kernel
