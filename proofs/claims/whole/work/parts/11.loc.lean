/-! ===== xx_: what the executor's frames stand for; instructions that touch the frame alone ===== -/
/-- values: cells by their addresses; the script and the constants lie at b -/
def xx_v (b : xx_B) (as : List Nat) (v : Value) : Value := match v with
  | .ref i => .ref (as.getD i 0)
  | .retAddr k => xx_bv (b k)
  | .int x => .int x
  | .long x => .long x
  | .float x => .float x
  | .double x => .double x
  | .null => .null
theorem xx_v_cat (b : xx_B) (as : List Nat) (v : Value) : (xx_v b as v).category = v.category := by
  cases v <;> first | rfl | (rename_i k; show (xx_bv (b k)).category = 1; cases b k <;> rfl)
theorem xx_pi_inv {α : Type} {st : List Value} {k : Int32 → List Value → Option α} {z : α} (h : xx_pi st k = some z) : ∃ x r, st = .int x :: r ∧ k x r = some z := by
  unfold xx_pi at h
  split at h
  · exact ⟨_, _, rfl, h⟩
  · cases h
theorem xx_pl_inv {α : Type} {st : List Value} {k : Int64 → List Value → Option α} {z : α} (h : xx_pl st k = some z) : ∃ x r, st = .long x :: r ∧ k x r = some z := by
  unfold xx_pl at h
  split at h
  · exact ⟨_, _, rfl, h⟩
  · cases h
theorem xx_pr_inv {α : Type} {st : List Value} {k : Nat → List Value → Option α} {z : α} (h : xx_pr st k = some z) : ∃ x r, st = .ref x :: r ∧ k x r = some z := by
  unfold xx_pr at h
  split at h
  · exact ⟨_, _, rfl, h⟩
  · cases h
theorem xx_pv_inv {α : Type} {st : List Value} {k : Value → List Value → Option α} {z : α} (h : xx_pv st k = some z) : ∃ x r, st = x :: r ∧ x.category = 1 ∧ k x r = some z := by
  unfold xx_pv at h
  split at h
  · split at h
    · exact ⟨_, _, rfl, by assumption, h⟩
    · cases h
  · cases h
theorem xx_ldi_inv {α : Type} {ls : xx_L} {i : Nat} {k : Int32 → Option α} {z : α} (h : xx_ldi ls i k = some z) : ∃ x, ls[i]? = some (some (.int x)) ∧ k x = some z := by
  unfold xx_ldi at h
  split at h
  · exact ⟨_, by assumption, h⟩
  · cases h
theorem xx_ldl_inv {α : Type} {ls : xx_L} {i : Nat} {k : Int64 → Option α} {z : α} (h : xx_ldl ls i k = some z) : ∃ x, ls[i]? = some (some (.long x)) ∧ k x = some z := by
  unfold xx_ldl at h
  split at h
  · exact ⟨_, by assumption, h⟩
  · cases h
theorem xx_lda_inv {α : Type} {ls : xx_L} {i : Nat} {k : Value → Option α} {z : α} (h : xx_lda ls i k = some z) : ∃ x, ls[i]? = some (some x) ∧ ((∃ a, x = .ref a) ∨ ∃ a, x = .retAddr a) ∧ k x = some z := by
  unfold xx_lda at h
  split at h
  · exact ⟨_, by assumption, Or.inl ⟨_, rfl⟩, h⟩
  · exact ⟨_, by assumption, Or.inr ⟨_, rfl⟩, h⟩
  · cases h
/-- the machine's locals hold the executor's -/
def xx_has (A : Array Slot) (nL : Nat) (b : xx_B) (as : List Nat) (ls : xx_L) : Prop := A.size = nL ∧ lv_wf A ∧ ls.length = nL ∧ ∀ (i : Nat) (v : Value), ls[i]? = some (some v) → A[i]? = some (.val (xx_v b as v))
def xx_lv (b : xx_B) (as : List Nat) (ls : xx_L) : List (Nat × Value) := (List.range ls.length).filterMap fun i => match ls[i]? with
  | some (some v) => some (i, xx_v b as v)
  | _ => none
theorem xx_lv_mem {b : xx_B} {as : List Nat} {ls : xx_L} {q : Nat × Value} : q ∈ xx_lv b as ls ↔ ∃ v, ls[q.1]? = some (some v) ∧ q.2 = xx_v b as v := by
  unfold xx_lv
  rw [List.mem_filterMap]
  constructor
  · rintro ⟨i, -, h⟩
    split at h
    · cases h
      exact ⟨_, by assumption, rfl⟩
    · cases h
  · rintro ⟨v, h1, h2⟩
    refine ⟨q.1, List.mem_range.mpr (List.getElem?_eq_some_iff.mp h1).1, ?_⟩
    rw [h1]
    show some (q.1, xx_v b as v) = some q
    rw [← h2]
theorem xx_has.lv {A : Array Slot} {nL : Nat} {b : xx_B} {as : List Nat} {ls : xx_L} (h : xx_has A nL b as ls) : lv_has A nL (xx_lv b as ls) := by
  refine ⟨h.1, h.2.1, fun q hq => ?_⟩
  obtain ⟨v, h1, h2⟩ := xx_lv_mem.mp hq
  rw [h2]
  exact h.2.2.2 _ _ h1
theorem xx_clr_len (ls : xx_L) (i : Nat) : (xx_clr ls i).length = ls.length := by
  unfold xx_clr
  split
  · rfl
  · split
    · split
      · exact List.length_set
      · rfl
    · rfl
theorem xx_clr_get {ls : xx_L} {i j : Nat} {w : Value} (h : (xx_clr ls i)[j]? = some (some w)) : ls[j]? = some (some w) ∧ ¬ (j + 1 = i ∧ w.category = 2) := by
  unfold xx_clr at h
  split at h
  · exact ⟨h, fun z => by omega⟩
  · rename_i k
    split at h
    · rename_i u hu
      split at h
      · rename_i hc
        by_cases e : j = k
        · subst e
          rw [List.getElem?_set_self (List.getElem?_eq_some_iff.mp hu).1] at h
          cases h
        · rw [List.getElem?_set_ne (Ne.symm e)] at h
          exact ⟨h, fun z => e (by omega)⟩
      · rename_i hc
        refine ⟨h, fun z => ?_⟩
        have e : j = k := by omega
        subst e
        rw [hu] at h
        cases h
        exact hc z.2
    · rename_i hn
      refine ⟨h, fun z => ?_⟩
      have e : j = k := by omega
      subst e
      exact hn _ h
theorem xx_has.st1 {A A' : Array Slot} {nL i : Nat} {b : xx_B} {as : List Nat} {ls : xx_L} {v : Value} (h : xx_has A nL b as ls) (hi : i < nL)
    (hA : lv_has A' nL ((i, xx_v b as v) :: (xx_lv b as ls).filter (fun q => !(q.1 == i) && !(q.1 + 1 == i && q.2.category == 2)))) : xx_has A' nL b as (xx_set1 ls i v) := by
  refine ⟨hA.1, hA.2.1, by rw [xx_set1, List.length_set, xx_clr_len]; exact h.2.2.1, fun j w hj => ?_⟩
  unfold xx_set1 at hj
  by_cases e : j = i
  · subst e
    rw [List.getElem?_set_self (by rw [xx_clr_len, h.2.2.1]; exact hi)] at hj
    cases hj
    exact hA.2.2 _ List.mem_cons_self
  · rw [List.getElem?_set_ne (Ne.symm e)] at hj
    obtain ⟨h1, h2⟩ := xx_clr_get hj
    refine hA.2.2 (j, xx_v b as w) (List.mem_cons_of_mem _ (List.mem_filter.mpr ⟨xx_lv_mem.mpr ⟨w, h1, rfl⟩, ?_⟩))
    simp only [xx_v_cat, Bool.and_eq_true, Bool.not_eq_true', beq_eq_false_iff_ne, ne_eq, Bool.and_eq_false_iff]
    refine ⟨e, ?_⟩
    by_cases e2 : j + 1 = i
    · exact Or.inr (fun z => h2 ⟨e2, z⟩)
    · exact Or.inl e2
theorem xx_has.st2 {A A' : Array Slot} {nL i : Nat} {b : xx_B} {as : List Nat} {ls : xx_L} {v : Value} (h : xx_has A nL b as ls) (hi : i + 1 < nL)
    (hA : lv_has A' nL ((i, xx_v b as v) :: (xx_lv b as ls).filter (fun q => !(q.1 == i) && (!(q.1 == i + 1) && !(q.1 + 1 == i && q.2.category == 2))))) : xx_has A' nL b as (xx_set2 ls i v) := by
  refine ⟨hA.1, hA.2.1, by rw [xx_set2, List.length_set, List.length_set, xx_clr_len]; exact h.2.2.1, fun j w hj => ?_⟩
  unfold xx_set2 at hj
  by_cases e : j = i
  · subst e
    rw [List.getElem?_set_self (by rw [List.length_set, xx_clr_len, h.2.2.1]; omega)] at hj
    cases hj
    exact hA.2.2 _ List.mem_cons_self
  · rw [List.getElem?_set_ne (Ne.symm e)] at hj
    by_cases e3 : j = i + 1
    · subst e3
      rw [List.getElem?_set_self (by rw [xx_clr_len, h.2.2.1]; exact hi)] at hj
      cases hj
    · rw [List.getElem?_set_ne (Ne.symm e3)] at hj
      obtain ⟨h1, h2⟩ := xx_clr_get hj
      refine hA.2.2 (j, xx_v b as w) (List.mem_cons_of_mem _ (List.mem_filter.mpr ⟨xx_lv_mem.mpr ⟨w, h1, rfl⟩, ?_⟩))
      simp only [xx_v_cat, Bool.and_eq_true, Bool.not_eq_true', beq_eq_false_iff_ne, ne_eq, Bool.and_eq_false_iff]
      refine ⟨e, e3, ?_⟩
      by_cases e2 : j + 1 = i
      · exact Or.inr (fun z => h2 ⟨e2, z⟩)
      · exact Or.inl e2
/-- what the tables say of an instruction that touches the frame alone -/
def xx_rowL (cc : ByteArray) (own : String) (Ts : List Cond) (i : Instr) (len q pc : Nat) : Prop := decode cc pc = .ok (i, len) ∧ match i with
  | .iconst n => len = 1 ∧ Int32.ofInt n = xx_k n
  | .bipush n => len = 2 ∧ (Int8.ofInt n).toInt32 = xx_k n
  | .sipush n => len = 3 ∧ (Int16.ofInt n).toInt32 = xx_k n
  | .ldc k => len = 2 ∧ Cond.constant own k (nI q) ∈ Ts
  | .ldc2_w k => len = 3 ∧ Cond.constantLong own k (lN q) ∈ Ts
  | .iload _ => len = 2
  | .lload _ => len = 2
  | .aload _ => len = 2
  | .istore _ => len = 2
  | .lstore _ => len = 2
  | .astore _ => len = 2
  | .iinc _ _ => len = 3
  | .goto o => len = 3 ∧ (pc : Int) + o = (q : Int)
  | .ifCond _ o => len = 3 ∧ (pc : Int) + o = (q : Int)
  | .if_icmp _ o => len = 3 ∧ (pc : Int) + o = (q : Int)
  | .tableswitch d _ _ os => 0 ≤ (pc : Int) + d ∧ (os.toList.all fun o => decide (0 ≤ (pc : Int) + o)) = true
  | .lookupswitch d ps => (ps.toList.zip (ps.toList.drop 1)).all (fun (a, next) => a.1 < next.1) = true ∧ 0 ≤ (pc : Int) + d ∧ (ps.toList.all fun o => decide (0 ≤ (pc : Int) + o.2)) = true
  | _ => len = 1
