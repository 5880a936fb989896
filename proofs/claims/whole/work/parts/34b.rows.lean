/-! rows, going on -/
theorem xk_r7 : ((List.range' 78 10).all xk_one) = true := by decide +kernel
theorem xk_r8 : ((List.range' 88 8).all xk_one) = true := by decide +kernel
theorem xk_r9 : ((List.range' 96 11).all xk_one) = true := by decide +kernel
theorem xk_r10 : ((List.range' 107 8).all xk_one) = true := by decide +kernel
theorem xk_r11 : ((List.range' 115 12).all xk_one) = true := by decide +kernel
theorem xk_r12 : ((List.range' 127 8).all xk_one) = true := by decide +kernel
theorem xk_r13 : ((List.range' 135 15).all xk_one) = true := by decide +kernel
