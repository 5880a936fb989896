/-! ===== xx_: constants beside the heap: what holds of them ===== -/
/-- static ints that nobody writes -/
abbrev xx_Z : Type := List (String × String × String × Int32)
/-- String's fields that are read -/
def xx_sT : u_T := fun k => match k with
  | 0 => ("java/lang/String", "value", "[B", true)
  | _ => ("java/lang/String", "coder", "B", true)
/-- the classes, and under the number 63 String, of which nothing is made -/
def xx_cg (cl : List vw_C) (i : Nat) : Option vw_C := if i = 63 then some ("java/lang/String", xx_sT, 2) else cl[i]?
theorem xx_cg_ob {D : va_G} {cl : List vw_C} {ws : va_W} {H : Heap} {k a c : Nat} {fs : List Value} (h : cl[63]? = none) (hP : va_P D cl ws H) (he : ws[k]? = some (a, .inr (c, fs))) : xx_cg cl c = cl[c]? := by
  obtain ⟨r, hr, -⟩ := hP k _ he
  have hr : cl[c]? = some r := hr
  unfold xx_cg
  rw [if_neg (fun z => by rw [z, h] at hr; cases hr)]
/-- the String of signs with its bytes, a static that is only handed on -/
def xx_KE (cl : List vw_C) (b : xx_B) (A : Nat → Prop) (U : State) (H : Heap) : Prop :=
  cl[63]? = none ∧
  (∃ a c, b 3 = some a ∧ b 4 = some c ∧ vk_R "DiagramOdds$Tape" 69 "#&|^!()=:;.," a U ∧ va_O "java/lang/String" a A U H ∧ va_OF "java/lang/String" "coder" "B" (.int 0) a A U H ∧ va_OF "java/lang/String" "value" "[B" (.ref c) a A U H ∧ va_T .byte c 12 (fun j => .int (([35, 38, 124, 94, 33, 40, 41, 61, 58, 59, 46, 44] : List Int32).getD j 0)) A U H) ∧
  va_Z "jdk/internal/util/Preconditions" "SIOOBE_FORMATTER" "Ljava/util/function/BiFunction;" (xx_bv (b 5)) A U H
def xx_ZE (cl : List vw_C) (Z : xx_Z) (b : xx_B) (A : Nat → Prop) (U : State) (H : Heap) : Prop := (∀ z ∈ Z, va_Z z.1 z.2.1 z.2.2.1 (.int z.2.2.2) A U H) ∧ xx_KE cl b A U H
section XK
variable {cl : List vw_C} {Z : xx_Z} {b : xx_B} {A B : Nat → Prop} {s U : State} {H H1 : Heap}
theorem xx_ZE.go (hA : s.vm.Alike U.vm) (hR : ∀ {a : Nat}, vk_R "DiagramOdds$Tape" 69 "#&|^!()=:;.," a s → vk_R "DiagramOdds$Tape" 69 "#&|^!()=:;.," a U) (h : xx_ZE cl Z b A s H) : xx_ZE cl Z b A U H := by
  obtain ⟨h0, h1, ⟨a3, c3, e3, e4, r3, o3, f3, g3, t3⟩, h5⟩ := h
  exact ⟨fun z hz => va_Z.moved hA (h0 z hz), h1, ⟨a3, c3, e3, e4, hR r3, va_O.moved hA o3, va_OF.moved hA f3, va_OF.moved hA g3, va_T.moved hA t3⟩, va_Z.moved hA h5⟩
theorem xx_ZE.warm (hW : s.WarmedH U.vm) (h : xx_ZE cl Z b A s H) : xx_ZE cl Z b A U H := xx_ZE.go hW.alike (fun r => vk_R.warm hW r) h
theorem xx_ZE.same (hv : U.vm = s.vm) (h : xx_ZE cl Z b A s H) : xx_ZE cl Z b A U H := xx_ZE.go (by rw [hv]; exact Vm.Alike.refl _) (fun r => vk_R.same hv r) h
theorem xx_ZE.kept (hq : ∀ a : Nat, a < H.size → ¬ A a → H1[a]? = H[a]?) (h : xx_ZE cl Z b A U H) : xx_ZE cl Z b A U H1 := by
  obtain ⟨h0, h1, ⟨a3, c3, e3, e4, r3, o3, f3, g3, t3⟩, h5⟩ := h
  exact ⟨fun z hz => va_Z.kept (h0 z hz) hq, h1, ⟨a3, c3, e3, e4, r3, va_O.kept o3 hq, va_OF.kept f3 hq, va_OF.kept g3 hq, va_T.kept t3 hq⟩, va_Z.kept h5 hq⟩
theorem xx_ZE.narrow (hAB : ∀ q, B q → A q) (h : xx_ZE cl Z b A U H) : xx_ZE cl Z b B U H := by
  obtain ⟨h0, h1, ⟨a3, c3, e3, e4, r3, o3, f3, g3, t3⟩, h5⟩ := h
  exact ⟨fun z hz => va_Z.narrow (h0 z hz) hAB, h1, ⟨a3, c3, e3, e4, r3, va_O.narrow o3 hAB, va_OF.narrow f3 hAB, va_OF.narrow g3 hAB, va_T.narrow t3 hAB⟩, va_Z.narrow h5 hAB⟩
theorem xx_KE.tab {k : Nat} {l : List Int32} (h : xx_KE cl b A U H) (hk : xx_kb k = some l) : ∃ a, b k = some a ∧ va_T .byte a l.length (fun j => .int (l.getD j 0)) A U H := by
  obtain ⟨-, ⟨a3, c3, -, e4, -, -, -, -, t3⟩, -⟩ := h
  unfold xx_kb at hk
  split at hk
  · cases hk
    exact ⟨c3, e4, t3⟩
  · cases hk
theorem xx_KE.st {q : Nat} {C n d : String} (h : xx_KE cl b A U H) (hq : xx_kz q = some (C, n, d)) : va_Z C n d (xx_bv (b q)) A U H := by
  obtain ⟨-, -, h5⟩ := h
  unfold xx_kz at hq
  split at hq
  · cases hq
    exact h5
  · cases hq
end XK
