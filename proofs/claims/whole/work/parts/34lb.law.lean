/-! slices, going on -/
theorem xk_l7 : ((xk_z.drop 280).take 40).all xk_f = true := by decide +kernel
theorem xk_l8 : ((xk_z.drop 320).take 40).all xk_f = true := by decide +kernel
theorem xk_l9 : ((xk_z.drop 360).take 40).all xk_f = true := by decide +kernel
theorem xk_l10 : ((xk_z.drop 400).take 40).all xk_f = true := by decide +kernel
theorem xk_l11 : ((xk_z.drop 440).take 40).all xk_f = true := by decide +kernel
theorem xk_l12 : ((xk_z.drop 480).take 40).all xk_f = true := by decide +kernel
theorem xk_l13 : ((xk_z.drop 520).take 40).all xk_f = true := by decide +kernel
