/-! rows, going on -/
theorem xk_r28 : ((List.range' 260 19).all xk_one) = true := by decide +kernel
theorem xk_r29 : ((List.range' 279 27).all xk_one) = true := by decide +kernel
theorem xk_r30 : ((List.range' 306 14).all xk_one) = true := by decide +kernel
theorem xk_r31 : ((List.range' 320 14).all xk_one) = true := by decide +kernel
theorem xk_r33 : ((List.range' 335 6).all xk_one) = true := by decide +kernel
