/-! rows, going on -/
theorem xk_r14 : ((List.range' 150 14).all xk_one) = true := by decide +kernel
theorem xk_r15 : ((List.range' 164 10).all xk_one) = true := by decide +kernel
theorem xk_r16 : ((List.range' 174 6).all xk_one) = true := by decide +kernel
theorem xk_r17 : ((List.range' 180 6).all xk_one) = true := by decide +kernel
theorem xk_r18 : ((List.range' 186 10).all xk_one) = true := by decide +kernel
theorem xk_r19 : ((List.range' 196 3).all xk_one) = true := by decide +kernel
theorem xk_r20 : ((List.range' 199 8).all xk_one) = true := by decide +kernel
