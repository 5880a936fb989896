/-! rows, going on -/
theorem xk_r21 : ((List.range' 207 2).all xk_one) = true := by decide +kernel
theorem xk_r22 : ((List.range' 209 4).all xk_one) = true := by decide +kernel
theorem xk_r23 : ((List.range' 213 9).all xk_one) = true := by decide +kernel
theorem xk_r24 : ((List.range' 222 9).all xk_one) = true := by decide +kernel
theorem xk_r25 : ((List.range' 231 9).all xk_one) = true := by decide +kernel
theorem xk_r26 : ((List.range' 240 25).all xk_one) = true := by decide +kernel
theorem xk_r27 : ((List.range' 265 46).all xk_one) = true := by decide +kernel
