/-! rows, going on -/
theorem xk_r28 : ((List.range' 262 18).all xk_one) = true := by decide +kernel
theorem xk_r29 : ((List.range' 280 27).all xk_one) = true := by decide +kernel
theorem xk_r30 : ((List.range' 307 15).all xk_one) = true := by decide +kernel
theorem xk_r31 : ((List.range' 322 12).all xk_one) = true := by decide +kernel
theorem xk_r33 : ((List.range' 335 3).all xk_one) = true := by decide +kernel
