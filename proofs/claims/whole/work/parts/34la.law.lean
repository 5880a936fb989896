/-! ===== xk_: the rows of the law itself, in slices ===== -/
def xk_z : List ((Nat × xx_I) × List (Nat × Nat)) := (xt_R 334).1.zip (xt_Q 334)
def xk_f (z : (Nat × xx_I) × List (Nat × Nat)) : Bool := xx_rowB xt_N (xt_P []) vwCl xt_Z xt_W xt_Nw 334 z.1.1 z.1.2 z.2 && (decide (xx_kd z.1.2.1 ≠ 3) || (decide (z.1.2.2.2.1 < 10) || xt_C.any fun c => c.1 == z.1.2.2.2.1))
theorem xk_l0 : ((xk_z.drop 0).take 40).all xk_f = true := by decide +kernel
theorem xk_l1 : ((xk_z.drop 40).take 40).all xk_f = true := by decide +kernel
theorem xk_l2 : ((xk_z.drop 80).take 40).all xk_f = true := by decide +kernel
theorem xk_l3 : ((xk_z.drop 120).take 40).all xk_f = true := by decide +kernel
theorem xk_l4 : ((xk_z.drop 160).take 40).all xk_f = true := by decide +kernel
theorem xk_l5 : ((xk_z.drop 200).take 40).all xk_f = true := by decide +kernel
theorem xk_l6 : ((xk_z.drop 240).take 40).all xk_f = true := by decide +kernel
