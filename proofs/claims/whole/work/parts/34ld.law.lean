/-! slices, going on -/
theorem xk_l21 : ((xk_z.drop 840).take 40).all xk_f = true := by decide +kernel
theorem xk_l22 : ((xk_z.drop 880).take 40).all xk_f = true := by decide +kernel
theorem xk_l23 : ((xk_z.drop 920).take 40).all xk_f = true := by decide +kernel
