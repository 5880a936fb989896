/-! slices, going on -/
theorem xk_l14 : ((xk_z.drop 560).take 40).all xk_f = true := by decide +kernel
theorem xk_l15 : ((xk_z.drop 600).take 40).all xk_f = true := by decide +kernel
theorem xk_l16 : ((xk_z.drop 640).take 40).all xk_f = true := by decide +kernel
theorem xk_l17 : ((xk_z.drop 680).take 40).all xk_f = true := by decide +kernel
theorem xk_l18 : ((xk_z.drop 720).take 40).all xk_f = true := by decide +kernel
theorem xk_l19 : ((xk_z.drop 760).take 40).all xk_f = true := by decide +kernel
theorem xk_l20 : ((xk_z.drop 800).take 40).all xk_f = true := by decide +kernel
