/-! ===== xk_: the rows looked through ===== -/
def xk_one (m : Nat) : Bool := decide ((xt_Q m).length = (xt_R m).1.length) && ((xt_R m).1.zip (xt_Q m)).all fun z => xx_rowB xt_N (xt_P []) vwCl xt_Z xt_W xt_Nw m z.1.1 z.1.2 z.2 && (decide (xx_kd z.1.2.1 ≠ 3) || (decide (z.1.2.2.2.1 < 10) || xt_C.any fun c => c.1 == z.1.2.2.2.1))
theorem xk_c : (xt_C.all fun q => xx_mthB xt_N (xt_P []) xt_W q.2 q.1) = true := by decide +kernel
theorem xk_r0 : ((List.range' 10 14).all xk_one) = true := by decide +kernel
theorem xk_r1 : ((List.range' 24 9).all xk_one) = true := by decide +kernel
theorem xk_r2 : ((List.range' 33 7).all xk_one) = true := by decide +kernel
theorem xk_r3 : ((List.range' 40 6).all xk_one) = true := by decide +kernel
theorem xk_r4 : ((List.range' 46 7).all xk_one) = true := by decide +kernel
theorem xk_r5 : ((List.range' 53 16).all xk_one) = true := by decide +kernel
theorem xk_r6 : ((List.range' 69 9).all xk_one) = true := by decide +kernel
