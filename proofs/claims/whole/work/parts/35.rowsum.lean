/-! ===== xk_: the rows together ===== -/
theorem xk_all (m : Nat) (h1 : 10 ≤ m) (h2 : m ≤ 344) : xk_one m = true := by
  rcases Nat.lt_or_ge m 164 with h | h
  · rcases Nat.lt_or_ge m 78 with h | h
    · rcases Nat.lt_or_ge m 40 with h | h
      · rcases Nat.lt_or_ge m 24 with h | h
        · exact List.all_eq_true.mp xk_r0 m (List.mem_range'_1.mpr ⟨by omega, by omega⟩)
        · rcases Nat.lt_or_ge m 33 with h | h
          · exact List.all_eq_true.mp xk_r1 m (List.mem_range'_1.mpr ⟨by omega, by omega⟩)
          · exact List.all_eq_true.mp xk_r2 m (List.mem_range'_1.mpr ⟨by omega, by omega⟩)
      · rcases Nat.lt_or_ge m 53 with h | h
        · rcases Nat.lt_or_ge m 46 with h | h
          · exact List.all_eq_true.mp xk_r3 m (List.mem_range'_1.mpr ⟨by omega, by omega⟩)
          · exact List.all_eq_true.mp xk_r4 m (List.mem_range'_1.mpr ⟨by omega, by omega⟩)
        · rcases Nat.lt_or_ge m 69 with h | h
          · exact List.all_eq_true.mp xk_r5 m (List.mem_range'_1.mpr ⟨by omega, by omega⟩)
          · exact List.all_eq_true.mp xk_r6 m (List.mem_range'_1.mpr ⟨by omega, by omega⟩)
    · rcases Nat.lt_or_ge m 115 with h | h
      · rcases Nat.lt_or_ge m 96 with h | h
        · rcases Nat.lt_or_ge m 88 with h | h
          · exact List.all_eq_true.mp xk_r7 m (List.mem_range'_1.mpr ⟨by omega, by omega⟩)
          · exact List.all_eq_true.mp xk_r8 m (List.mem_range'_1.mpr ⟨by omega, by omega⟩)
        · rcases Nat.lt_or_ge m 107 with h | h
          · exact List.all_eq_true.mp xk_r9 m (List.mem_range'_1.mpr ⟨by omega, by omega⟩)
          · exact List.all_eq_true.mp xk_r10 m (List.mem_range'_1.mpr ⟨by omega, by omega⟩)
      · rcases Nat.lt_or_ge m 135 with h | h
        · rcases Nat.lt_or_ge m 127 with h | h
          · exact List.all_eq_true.mp xk_r11 m (List.mem_range'_1.mpr ⟨by omega, by omega⟩)
          · exact List.all_eq_true.mp xk_r12 m (List.mem_range'_1.mpr ⟨by omega, by omega⟩)
        · rcases Nat.lt_or_ge m 150 with h | h
          · exact List.all_eq_true.mp xk_r13 m (List.mem_range'_1.mpr ⟨by omega, by omega⟩)
          · exact List.all_eq_true.mp xk_r14 m (List.mem_range'_1.mpr ⟨by omega, by omega⟩)
  · rcases Nat.lt_or_ge m 213 with h | h
    · rcases Nat.lt_or_ge m 196 with h | h
      · rcases Nat.lt_or_ge m 180 with h | h
        · rcases Nat.lt_or_ge m 174 with h | h
          · exact List.all_eq_true.mp xk_r15 m (List.mem_range'_1.mpr ⟨by omega, by omega⟩)
          · exact List.all_eq_true.mp xk_r16 m (List.mem_range'_1.mpr ⟨by omega, by omega⟩)
        · rcases Nat.lt_or_ge m 186 with h | h
          · exact List.all_eq_true.mp xk_r17 m (List.mem_range'_1.mpr ⟨by omega, by omega⟩)
          · exact List.all_eq_true.mp xk_r18 m (List.mem_range'_1.mpr ⟨by omega, by omega⟩)
      · rcases Nat.lt_or_ge m 207 with h | h
        · rcases Nat.lt_or_ge m 199 with h | h
          · exact List.all_eq_true.mp xk_r19 m (List.mem_range'_1.mpr ⟨by omega, by omega⟩)
          · exact List.all_eq_true.mp xk_r20 m (List.mem_range'_1.mpr ⟨by omega, by omega⟩)
        · rcases Nat.lt_or_ge m 209 with h | h
          · exact List.all_eq_true.mp xk_r21 m (List.mem_range'_1.mpr ⟨by omega, by omega⟩)
          · exact List.all_eq_true.mp xk_r22 m (List.mem_range'_1.mpr ⟨by omega, by omega⟩)
    · rcases Nat.lt_or_ge m 265 with h | h
      · rcases Nat.lt_or_ge m 231 with h | h
        · rcases Nat.lt_or_ge m 222 with h | h
          · exact List.all_eq_true.mp xk_r23 m (List.mem_range'_1.mpr ⟨by omega, by omega⟩)
          · exact List.all_eq_true.mp xk_r24 m (List.mem_range'_1.mpr ⟨by omega, by omega⟩)
        · rcases Nat.lt_or_ge m 240 with h | h
          · exact List.all_eq_true.mp xk_r25 m (List.mem_range'_1.mpr ⟨by omega, by omega⟩)
          · exact List.all_eq_true.mp xk_r26 m (List.mem_range'_1.mpr ⟨by omega, by omega⟩)
      · rcases Nat.lt_or_ge m 334 with h | h
        · rcases Nat.lt_or_ge m 311 with h | h
          · exact List.all_eq_true.mp xk_r27 m (List.mem_range'_1.mpr ⟨by omega, by omega⟩)
          · exact List.all_eq_true.mp xk_r28 m (List.mem_range'_1.mpr ⟨by omega, by omega⟩)
        · rcases Nat.lt_or_ge m 335 with h | h
          · exact List.all_eq_true.mp xk_r29 m (List.mem_range'_1.mpr ⟨by omega, by omega⟩)
          · exact List.all_eq_true.mp xk_r30 m (List.mem_range'_1.mpr ⟨by omega, by omega⟩)
theorem xt_R_out (m : Nat) (h : ¬ (10 ≤ m ∧ m ≤ 344)) : xt_R m = xt_d := by
  by_cases h1 : m < 10
  · exact if_pos h1
  · have h2 : 345 ≤ m := by omega
    unfold xt_R
    rw [if_neg h1, if_neg (show ¬ m < 170 by omega), if_neg (show ¬ m < 250 by omega), if_neg (show ¬ m < 290 by omega), if_neg (show ¬ m < 310 by omega), if_neg (show ¬ m < 330 by omega)]
    have h3 : xt_m16.length = 15 := by decide +kernel
    rw [List.getD_eq_getElem?_getD, List.getElem?_eq_none (by omega)]
    rfl
