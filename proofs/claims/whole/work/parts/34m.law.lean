/-! ===== xk_: the rows of the law together ===== -/
theorem xk_cat {α : Type} {l : List α} {f : α → Bool} {a : Nat} (h1 : ((l.drop a).take 40).all f = true) (h2 : (l.drop (a + 40)).all f = true) : (l.drop a).all f = true := by
  rw [← List.take_append_drop 40 (l.drop a), List.all_append, h1, List.drop_drop, h2]
  rfl
theorem xk_lend : (xk_z.drop 960).all xk_f = true := by decide +kernel
theorem xk_lall : (xk_z.drop 0).all xk_f = true := xk_cat xk_l0 (xk_cat xk_l1 (xk_cat xk_l2 (xk_cat xk_l3 (xk_cat xk_l4 (xk_cat xk_l5 (xk_cat xk_l6 (xk_cat xk_l7 (xk_cat xk_l8 (xk_cat xk_l9 (xk_cat xk_l10 (xk_cat xk_l11 (xk_cat xk_l12 (xk_cat xk_l13 (xk_cat xk_l14 (xk_cat xk_l15 (xk_cat xk_l16 (xk_cat xk_l17 (xk_cat xk_l18 (xk_cat xk_l19 (xk_cat xk_l20 (xk_cat xk_l21 (xk_cat xk_l22 (xk_cat xk_l23 (xk_lend))))))))))))))))))))))))
theorem xk_r29 : ((List.range' 334 1).all xk_one) = true := by
  have h1 : (xt_Q 334).length = (xt_R 334).1.length := by decide +kernel
  have h2 : xk_one 334 = true := Bool.and_eq_true_iff.mpr ⟨decide_eq_true h1, xk_lall⟩
  show (xk_one 334 && true) = true
  rw [h2]
  rfl
