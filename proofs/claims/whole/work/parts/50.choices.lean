/-! ===== DiagramOdds.Choices, method by method, over the executor ===== -/
section C0
variable {xs : List Int32} {d : Nat} {h : xx_H} {a : Nat}
/-- has(variable) -/
theorem m_has {x cnt : Int32} {f0 f1 f2 f3 f4 f5 f7 : Value} (hh : h[a]? = some (.inr (2, [f0, f1, f2, f3, f4, f5, .int cnt, f7]))) : xv_M (xt_P xs) d 11 [.ref a, .int x] h (fun v h' => v = some (.int (if 0 ≤ x ∧ x < cnt then 1 else 0)) ∧ h' = h) := by
  refine xv_loc (i := .iload_n 1) (len := 1) (q := 0) (ns := false) rfl rfl ?_
  refine xv_ifc (c := .lt) (o := 15) (len := 3) (q := 16) (ns := false) rfl (fun c1 => ?_) (fun c1 => ?_)
  · refine xv_loc (i := .iconst 0) (len := 1) (q := 0) (ns := false) rfl rfl ?_
    refine xv_end (i := .ireturn) (len := 1) (q := 0) (ns := false) rfl rfl ⟨?_, rfl⟩
    have c1 := of_decide_eq_true c1
    rw [if_neg (fun z => Int32.not_lt.mpr z.1 c1)]
    rfl
  · refine xv_loc (i := .iload_n 1) (len := 1) (q := 0) (ns := false) rfl rfl ?_
    refine xv_loc (i := .aload_n 0) (len := 1) (q := 0) (ns := false) rfl rfl ?_
    refine xv_get (k := 39) (len := 3) (q := 134) (ns := false) rfl hh rfl rfl ?_
    refine xv_icmp (c := .ge) (o := 7) (len := 3) (q := 16) (ns := false) rfl (fun c2 => ?_) (fun c2 => ?_)
    · refine xv_loc (i := .iconst 0) (len := 1) (q := 0) (ns := false) rfl rfl ?_
      refine xv_end (i := .ireturn) (len := 1) (q := 0) (ns := false) rfl rfl ⟨?_, rfl⟩
      have c2 := of_decide_eq_true c2
      rw [if_neg (fun z => Int32.not_lt.mpr c2 z.2)]
      rfl
    · refine xv_loc (i := .iconst 1) (len := 1) (q := 0) (ns := false) rfl rfl ?_
      refine xv_loc (i := .goto 4) (len := 3) (q := 17) (ns := false) rfl rfl ?_
      refine xv_end (i := .ireturn) (len := 1) (q := 0) (ns := false) rfl rfl ⟨?_, rfl⟩
      have c1 := of_decide_eq_false c1
      have c2 := of_decide_eq_false c2
      rw [if_pos ⟨Int32.not_lt.mp c1, Int32.not_le.mp c2⟩]
      rfl
end C0
