/-! ===== the reference's reading: variable ===== -/
theorem rc_35 {k : Nat} (h : k ≤ 265) : rc k = 35 ↔ k = 35 := by
  unfold rc
  repeat' split
  all_goals omega
theorem rc_2 {k : Nat} (h : k ≤ 265) (h2 : k ≠ 2) : rc k = 2 ↔ k = 259 := by
  unfold rc
  repeat' split
  all_goals omega
theorem rc_b {k : Nat} (h : k ≤ 265) : 0 ≤ rc k ∧ rc k ≤ 265 := by
  unfold rc
  repeat' split
  all_goals omega
theorem tk_big {y : Nat → Nat} {s i : Nat} : tk y s i ≠ 2 := by
  unfold tk tK wK
  repeat' split
  all_goals first | omega | (rename_i q; have := of_decide_eq_true q; omega)
section MY
variable {X : List Int32} {S : ST} {y : Nat → Nat} {s i n : Nat} {sz : Nat → Nat}
theorem mX_bd {k : Nat} {p : Int} {q : Nat} (ht : mt S y s) (h14 : SI S 179 14 = 0) (hk : 1 ≤ k ∧ k ≤ 5) (hp : p = ((q : Nat) : Int)) {a : Nat} (ha : a ≤ s) (h23 : SI S 179 23 = ((a : Nat) : Int)) : mX (bdS S 0 ((k : Nat) : Int) p) y s k q ∧ frJ S (bdS S 0 ((k : Nat) : Int) p) := by
  subst hp
  exact ⟨⟨mt_fr ht frJ_bd, (bd_14 h14).trans (if_pos rfl), hk, bd_28.trans (if_pos rfl), a, ha, (bdS_f (by decide)).trans h23⟩, frJ_bd⟩
theorem vM_fr {S' : ST} (h : vM S n sz) (f : frJ S S') : vM S' n sz := by
  unfold vM at *
  rw [f.2.2.1 180 (by decide), f.2.2.1 181 (by decide), f.2.2.2.1 1 (by decide) (by decide) (by decide) (by decide) (by decide) (by decide), f.2.2.2.1 4 (by decide) (by decide) (by decide) (by decide) (by decide) (by decide)]
  exact h
end MY
