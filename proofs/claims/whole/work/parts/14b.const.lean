/-! ===== xx_: constants beside the heap: what holds of them ===== -/
/-- static ints that nobody writes -/
abbrev xx_Z : Type := List (String × String × String × Int32)
/-- Integer's tables of digits, the String of signs with its bytes, a static that is only handed on -/
def xx_KE (cl : List vw_C) (b : xx_B) (A : Nat → Prop) (U : State) (H : Heap) : Prop :=
  (∃ T0 N0, cl[0]? = some ("java/lang/String", T0, N0) ∧ T0 0 = ("java/lang/String", "value", "[B", true) ∧ T0 1 = ("java/lang/String", "coder", "B", true)) ∧
  (∃ a, b 1 = some a ∧ va_Z "java/lang/Integer" "DigitOnes" "[B" (.ref a) A U H ∧ va_T .byte a 100 (fun j => .int (((List.range 100).map fun j => nI (48 + j % 10)).getD j 0)) A U H) ∧
  (∃ a, b 2 = some a ∧ va_Z "java/lang/Integer" "DigitTens" "[B" (.ref a) A U H ∧ va_T .byte a 100 (fun j => .int (((List.range 100).map fun j => nI (48 + j / 10)).getD j 0)) A U H) ∧
  (∃ a c, b 3 = some a ∧ b 4 = some c ∧ vk_R "DiagramOdds$Tape" 69 "#&|^!()=:;.," a U ∧ va_O "java/lang/String" a A U H ∧ va_OF "java/lang/String" "coder" "B" (.int 0) a A U H ∧ va_OF "java/lang/String" "value" "[B" (.ref c) a A U H ∧ va_T .byte c 12 (fun j => .int (([35, 38, 124, 94, 33, 40, 41, 61, 58, 59, 46, 44] : List Int32).getD j 0)) A U H) ∧
  va_Z "jdk/internal/util/Preconditions" "SIOOBE_FORMATTER" "Ljava/util/function/BiFunction;" (xx_bv (b 5)) A U H
def xx_ZE (cl : List vw_C) (Z : xx_Z) (b : xx_B) (A : Nat → Prop) (U : State) (H : Heap) : Prop := (∀ z ∈ Z, va_Z z.1 z.2.1 z.2.2.1 (.int z.2.2.2) A U H) ∧ xx_KE cl b A U H
section XK
variable {cl : List vw_C} {Z : xx_Z} {b : xx_B} {A B : Nat → Prop} {s U : State} {H H1 : Heap}
theorem xx_ZE.go (hA : s.vm.Alike U.vm) (hR : ∀ {a : Nat}, vk_R "DiagramOdds$Tape" 69 "#&|^!()=:;.," a s → vk_R "DiagramOdds$Tape" 69 "#&|^!()=:;.," a U) (h : xx_ZE cl Z b A s H) : xx_ZE cl Z b A U H := by
  obtain ⟨h0, h1, ⟨a1, e1, z1, t1⟩, ⟨a2, e2, z2, t2⟩, ⟨a3, c3, e3, e4, r3, o3, f3, g3, t3⟩, h5⟩ := h
  exact ⟨fun z hz => va_Z.moved hA (h0 z hz), h1, ⟨a1, e1, va_Z.moved hA z1, va_T.moved hA t1⟩, ⟨a2, e2, va_Z.moved hA z2, va_T.moved hA t2⟩, ⟨a3, c3, e3, e4, hR r3, va_O.moved hA o3, va_OF.moved hA f3, va_OF.moved hA g3, va_T.moved hA t3⟩, va_Z.moved hA h5⟩
theorem xx_ZE.warm (hW : s.WarmedH U.vm) (h : xx_ZE cl Z b A s H) : xx_ZE cl Z b A U H := xx_ZE.go hW.alike (fun r => vk_R.warm hW r) h
theorem xx_ZE.same (hv : U.vm = s.vm) (h : xx_ZE cl Z b A s H) : xx_ZE cl Z b A U H := xx_ZE.go (by rw [hv]; exact Vm.Alike.refl _) (fun r => vk_R.same hv r) h
theorem xx_ZE.kept (hq : ∀ a : Nat, a < H.size → ¬ A a → H1[a]? = H[a]?) (h : xx_ZE cl Z b A U H) : xx_ZE cl Z b A U H1 := by
  obtain ⟨h0, h1, ⟨a1, e1, z1, t1⟩, ⟨a2, e2, z2, t2⟩, ⟨a3, c3, e3, e4, r3, o3, f3, g3, t3⟩, h5⟩ := h
  exact ⟨fun z hz => va_Z.kept (h0 z hz) hq, h1, ⟨a1, e1, va_Z.kept z1 hq, va_T.kept t1 hq⟩, ⟨a2, e2, va_Z.kept z2 hq, va_T.kept t2 hq⟩, ⟨a3, c3, e3, e4, r3, va_O.kept o3 hq, va_OF.kept f3 hq, va_OF.kept g3 hq, va_T.kept t3 hq⟩, va_Z.kept h5 hq⟩
theorem xx_ZE.narrow (hAB : ∀ q, B q → A q) (h : xx_ZE cl Z b A U H) : xx_ZE cl Z b B U H := by
  obtain ⟨h0, h1, ⟨a1, e1, z1, t1⟩, ⟨a2, e2, z2, t2⟩, ⟨a3, c3, e3, e4, r3, o3, f3, g3, t3⟩, h5⟩ := h
  exact ⟨fun z hz => va_Z.narrow (h0 z hz) hAB, h1, ⟨a1, e1, va_Z.narrow z1 hAB, va_T.narrow t1 hAB⟩, ⟨a2, e2, va_Z.narrow z2 hAB, va_T.narrow t2 hAB⟩, ⟨a3, c3, e3, e4, r3, va_O.narrow o3 hAB, va_OF.narrow f3 hAB, va_OF.narrow g3 hAB, va_T.narrow t3 hAB⟩, va_Z.narrow h5 hAB⟩
theorem xx_KE.tab {k : Nat} {l : List Int32} (h : xx_KE cl b A U H) (hk : xx_kb k = some l) : ∃ a, b k = some a ∧ va_T .byte a l.length (fun j => .int (l.getD j 0)) A U H := by
  obtain ⟨-, ⟨a1, e1, -, t1⟩, ⟨a2, e2, -, t2⟩, ⟨a3, c3, -, e4, -, -, -, -, t3⟩, -⟩ := h
  unfold xx_kb at hk
  split at hk
  · cases hk
    exact ⟨a1, e1, by rw [List.length_map, List.length_range]; exact t1⟩
  · cases hk
    exact ⟨a2, e2, by rw [List.length_map, List.length_range]; exact t2⟩
  · cases hk
    exact ⟨c3, e4, t3⟩
  · cases hk
theorem xx_KE.st {q : Nat} {C n d : String} (h : xx_KE cl b A U H) (hq : xx_kz q = some (C, n, d)) : va_Z C n d (xx_bv (b q)) A U H := by
  obtain ⟨-, ⟨a1, e1, z1, -⟩, ⟨a2, e2, z2, -⟩, -, h5⟩ := h
  unfold xx_kz at hq
  split at hq
  · cases hq
    rw [e1]
    exact z1
  · cases hq
    rw [e2]
    exact z2
  · cases hq
    exact h5
  · cases hq
end XK
