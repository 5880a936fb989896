/-! ===== more locals do no harm ===== -/
def xx_le (a b : xx_L) : Prop := a.length = b.length ∧ ∀ (i : Nat) (v : Value), a[i]? = some (some v) → b[i]? = some (some v)
theorem xx_le_refl (a : xx_L) : xx_le a a := ⟨rfl, fun _ _ h => h⟩
theorem xx_le_set {a b : xx_L} (h : xx_le a b) (i : Nat) (o : Option Value) : xx_le (a.set i o) (b.set i o) := by
  refine ⟨by rw [List.length_set, List.length_set]; exact h.1, fun j v hv => ?_⟩
  rw [List.getElem?_set] at hv ⊢
  split at hv
  · rename_i e
    rw [if_pos e]
    split at hv
    · rename_i l
      rw [if_pos (by rw [← h.1]; exact l)]
      exact hv
    · cases hv
  · rename_i e
    rw [if_neg e]
    exact h.2 j v hv
theorem xx_le_none {a b : xx_L} (h : xx_le a b) {i : Nat} (hn : ∀ v, a[i]? ≠ some (some v)) : xx_le a (b.set i none) := by
  refine ⟨by rw [List.length_set]; exact h.1, fun j v hv => ?_⟩
  rw [List.getElem?_set]
  split
  · rename_i e
    subst e
    exact absurd hv (hn v)
  · exact h.2 j v hv
theorem xx_le_clr {a b : xx_L} (h : xx_le a b) (i : Nat) : xx_le (xx_clr a i) (xx_clr b i) := by
  cases i with
  | zero => exact h
  | succ j =>
    cases ea : a[j]? with
    | none =>
      have eb : b[j]? = none := by
        rw [List.getElem?_eq_none_iff] at ea ⊢
        rw [← h.1]
        exact ea
      simp only [xx_clr, ea, eb]
      exact h
    | some o =>
      cases o with
      | some v =>
        have eb := h.2 j v ea
        simp only [xx_clr, ea, eb]
        split
        · exact xx_le_set h j none
        · exact h
      | none =>
        have hn : ∀ v, a[j]? ≠ some (some v) := fun v e => by rw [ea] at e; cases e
        have e1 : xx_clr a (j + 1) = a := by simp only [xx_clr, ea]
        rw [e1]
        unfold xx_clr
        dsimp only
        split
        · split
          · exact xx_le_none h hn
          · exact h
        · exact h
theorem xx_le_1 {a b : xx_L} (h : xx_le a b) (i : Nat) (v : Value) : xx_le (xx_set1 a i v) (xx_set1 b i v) := xx_le_set (xx_le_clr h i) _ _
theorem xx_le_2 {a b : xx_L} (h : xx_le a b) (i : Nat) (v : Value) : xx_le (xx_set2 a i v) (xx_set2 b i v) := xx_le_set (xx_le_set (xx_le_clr h i) _ _) _ _
theorem xx_ldi_le {α : Type} {a b : xx_L} (h : xx_le a b) {i : Nat} {x : Int32} (h1 : a[i]? = some (some (.int x))) (k : Int32 → Option α) : xx_ldi b i k = k x := by
  unfold xx_ldi
  rw [h.2 _ _ h1]
theorem xx_loc_le {i : Instr} {len q pc : Nat} {ls lb ls' : xx_L} {st st' : List Value} {pc' : Nat} (hle : xx_le ls lb) (h : xx_loc i len q pc ls st = some (pc', ls', st')) : ∃ l, xx_loc i len q pc lb st = some (pc', l, st') ∧ xx_le ls' l := by
  cases i with
  | iconst n =>
    cases h
    exact ⟨lb, by first | rfl | (simp only [xx_loc, xx_pi, xx_pl, xx_pv]; simp_all; done) | (simp only [xx_loc, xx_pi, xx_pl, xx_pv]; simp_all; omega), hle⟩
  | bipush n =>
    cases h
    exact ⟨lb, by first | rfl | (simp only [xx_loc, xx_pi, xx_pl, xx_pv]; simp_all; done) | (simp only [xx_loc, xx_pi, xx_pl, xx_pv]; simp_all; omega), hle⟩
  | sipush n =>
    cases h
    exact ⟨lb, by first | rfl | (simp only [xx_loc, xx_pi, xx_pl, xx_pv]; simp_all; done) | (simp only [xx_loc, xx_pi, xx_pl, xx_pv]; simp_all; omega), hle⟩
  | ldc n =>
    cases h
    exact ⟨lb, by first | rfl | (simp only [xx_loc, xx_pi, xx_pl, xx_pv]; simp_all; done) | (simp only [xx_loc, xx_pi, xx_pl, xx_pv]; simp_all; omega), hle⟩
  | ldc2_w n =>
    cases h
    exact ⟨lb, by first | rfl | (simp only [xx_loc, xx_pi, xx_pl, xx_pv]; simp_all; done) | (simp only [xx_loc, xx_pi, xx_pl, xx_pv]; simp_all; omega), hle⟩
  | lconst n =>
    cases h
    exact ⟨lb, by first | rfl | (simp only [xx_loc, xx_pi, xx_pl, xx_pv]; simp_all; done) | (simp only [xx_loc, xx_pi, xx_pl, xx_pv]; simp_all; omega), hle⟩
  | iload k =>
    obtain ⟨x, h1, h2⟩ := xx_ldi_inv h
    cases h2
    exact ⟨lb, (by have e := hle.2 _ _ h1; show xx_ldi lb _ _ = _; unfold xx_ldi; rw [e]), hle⟩
  | iload_n k =>
    obtain ⟨x, h1, h2⟩ := xx_ldi_inv h
    cases h2
    exact ⟨lb, (by have e := hle.2 _ _ h1; show xx_ldi lb _ _ = _; unfold xx_ldi; rw [e]), hle⟩
  | lload k =>
    obtain ⟨x, h1, h2⟩ := xx_ldl_inv h
    cases h2
    exact ⟨lb, (by have e := hle.2 _ _ h1; show xx_ldl lb _ _ = _; unfold xx_ldl; rw [e]), hle⟩
  | lload_n k =>
    obtain ⟨x, h1, h2⟩ := xx_ldl_inv h
    cases h2
    exact ⟨lb, (by have e := hle.2 _ _ h1; show xx_ldl lb _ _ = _; unfold xx_ldl; rw [e]), hle⟩
  | aload k =>
    have h : (xx_lda ls k fun x => some (pc + len, ls, x :: st)) = some (pc', ls', st') := h
    obtain ⟨x, h1, h0, h2⟩ := xx_lda_inv h
    cases h2
    refine ⟨lb, ?_, hle⟩
    have e := hle.2 _ _ h1
    unfold xx_lda at h
    rw [h1] at h
    show (xx_lda lb k fun x => some (pc + len, lb, x :: st)) = _
    unfold xx_lda
    rw [e]
    cases x <;> first | rfl | (exact absurd h (by simp))
  | aload_n k =>
    have h : (xx_lda ls k.val fun x => some (pc + len, ls, x :: st)) = some (pc', ls', st') := h
    obtain ⟨x, h1, h0, h2⟩ := xx_lda_inv h
    cases h2
    refine ⟨lb, ?_, hle⟩
    have e := hle.2 _ _ h1
    unfold xx_lda at h
    rw [h1] at h
    show (xx_lda lb k.val fun x => some (pc + len, lb, x :: st)) = _
    unfold xx_lda
    rw [e]
    cases x <;> first | rfl | (exact absurd h (by simp))
  | istore k =>
    have h : xx_sti k pc len ls st = some (pc', ls', st') := h
    unfold xx_sti at h
    split at h
    · obtain ⟨x, r, rfl, h2⟩ := xx_pi_inv h
      cases h2
      refine ⟨_, ?_, xx_le_1 hle _ _⟩
      show xx_sti _ pc len lb _ = _
      unfold xx_sti
      rw [if_pos (Nat.lt_of_lt_of_eq (by assumption) hle.1)]
      rfl
    · cases h
  | istore_n k =>
    have h : xx_sti k.val pc len ls st = some (pc', ls', st') := h
    unfold xx_sti at h
    split at h
    · obtain ⟨x, r, rfl, h2⟩ := xx_pi_inv h
      cases h2
      refine ⟨_, ?_, xx_le_1 hle _ _⟩
      show xx_sti _ pc len lb _ = _
      unfold xx_sti
      rw [if_pos (Nat.lt_of_lt_of_eq (by assumption) hle.1)]
      rfl
    · cases h
  | lstore k =>
    have h : xx_stl k pc len ls st = some (pc', ls', st') := h
    unfold xx_stl at h
    split at h
    · obtain ⟨x, r, rfl, h2⟩ := xx_pl_inv h
      cases h2
      refine ⟨_, ?_, xx_le_2 hle _ _⟩
      show xx_stl _ pc len lb _ = _
      unfold xx_stl
      rw [if_pos (Nat.lt_of_lt_of_eq (by assumption) hle.1)]
      rfl
    · cases h
  | lstore_n k =>
    have h : xx_stl k.val pc len ls st = some (pc', ls', st') := h
    unfold xx_stl at h
    split at h
    · obtain ⟨x, r, rfl, h2⟩ := xx_pl_inv h
      cases h2
      refine ⟨_, ?_, xx_le_2 hle _ _⟩
      show xx_stl _ pc len lb _ = _
      unfold xx_stl
      rw [if_pos (Nat.lt_of_lt_of_eq (by assumption) hle.1)]
      rfl
    · cases h
  | astore k =>
    have h : xx_sta k pc len ls st = some (pc', ls', st') := h
    unfold xx_sta at h
    split at h
    · obtain ⟨x, r, rfl, h2⟩ := xx_pr_inv h
      cases h2
      refine ⟨_, ?_, xx_le_1 hle _ _⟩
      show xx_sta _ pc len lb _ = _
      unfold xx_sta
      rw [if_pos (Nat.lt_of_lt_of_eq (by assumption) hle.1)]
      rfl
    · cases h
  | astore_n k =>
    have h : xx_sta k.val pc len ls st = some (pc', ls', st') := h
    unfold xx_sta at h
    split at h
    · obtain ⟨x, r, rfl, h2⟩ := xx_pr_inv h
      cases h2
      refine ⟨_, ?_, xx_le_1 hle _ _⟩
      show xx_sta _ pc len lb _ = _
      unfold xx_sta
      rw [if_pos (Nat.lt_of_lt_of_eq (by assumption) hle.1)]
      rfl
    · cases h
  | iinc k n =>
    have h : (if k < ls.length then xx_ldi ls k fun x => some (pc + len, xx_set1 ls k (.int (x + Int32.ofInt n)), st) else none) = some (pc', ls', st') := h
    split at h
    · obtain ⟨x, h1, h2⟩ := xx_ldi_inv h
      cases h2
      refine ⟨_, ?_, xx_le_1 hle _ _⟩
      show (if k < lb.length then _ else none) = _
      rw [if_pos (Nat.lt_of_lt_of_eq (by assumption) hle.1)]
      exact xx_ldi_le hle h1 _
    · cases h
  | iadd =>
    obtain ⟨y, r, rfl, h2⟩ := xx_pi_inv h
    obtain ⟨x, r, rfl, h3⟩ := xx_pi_inv h2
    cases h3
    exact ⟨lb, by first | rfl | (simp only [xx_loc, xx_pi, xx_pl, xx_pv]; simp_all; done) | (simp only [xx_loc, xx_pi, xx_pl, xx_pv]; simp_all; omega), hle⟩
  | isub =>
    obtain ⟨y, r, rfl, h2⟩ := xx_pi_inv h
    obtain ⟨x, r, rfl, h3⟩ := xx_pi_inv h2
    cases h3
    exact ⟨lb, by first | rfl | (simp only [xx_loc, xx_pi, xx_pl, xx_pv]; simp_all; done) | (simp only [xx_loc, xx_pi, xx_pl, xx_pv]; simp_all; omega), hle⟩
  | imul =>
    obtain ⟨y, r, rfl, h2⟩ := xx_pi_inv h
    obtain ⟨x, r, rfl, h3⟩ := xx_pi_inv h2
    cases h3
    exact ⟨lb, by first | rfl | (simp only [xx_loc, xx_pi, xx_pl, xx_pv]; simp_all; done) | (simp only [xx_loc, xx_pi, xx_pl, xx_pv]; simp_all; omega), hle⟩
  | iand =>
    obtain ⟨y, r, rfl, h2⟩ := xx_pi_inv h
    obtain ⟨x, r, rfl, h3⟩ := xx_pi_inv h2
    cases h3
    exact ⟨lb, by first | rfl | (simp only [xx_loc, xx_pi, xx_pl, xx_pv]; simp_all; done) | (simp only [xx_loc, xx_pi, xx_pl, xx_pv]; simp_all; omega), hle⟩
  | ior =>
    obtain ⟨y, r, rfl, h2⟩ := xx_pi_inv h
    obtain ⟨x, r, rfl, h3⟩ := xx_pi_inv h2
    cases h3
    exact ⟨lb, by first | rfl | (simp only [xx_loc, xx_pi, xx_pl, xx_pv]; simp_all; done) | (simp only [xx_loc, xx_pi, xx_pl, xx_pv]; simp_all; omega), hle⟩
  | ixor =>
    obtain ⟨y, r, rfl, h2⟩ := xx_pi_inv h
    obtain ⟨x, r, rfl, h3⟩ := xx_pi_inv h2
    cases h3
    exact ⟨lb, by first | rfl | (simp only [xx_loc, xx_pi, xx_pl, xx_pv]; simp_all; done) | (simp only [xx_loc, xx_pi, xx_pl, xx_pv]; simp_all; omega), hle⟩
  | ishl =>
    obtain ⟨y, r, rfl, h2⟩ := xx_pi_inv h
    obtain ⟨x, r, rfl, h3⟩ := xx_pi_inv h2
    cases h3
    exact ⟨lb, by first | rfl | (simp only [xx_loc, xx_pi, xx_pl, xx_pv]; simp_all; done) | (simp only [xx_loc, xx_pi, xx_pl, xx_pv]; simp_all; omega), hle⟩
  | ishr =>
    obtain ⟨y, r, rfl, h2⟩ := xx_pi_inv h
    obtain ⟨x, r, rfl, h3⟩ := xx_pi_inv h2
    cases h3
    exact ⟨lb, by first | rfl | (simp only [xx_loc, xx_pi, xx_pl, xx_pv]; simp_all; done) | (simp only [xx_loc, xx_pi, xx_pl, xx_pv]; simp_all; omega), hle⟩
  | iushr =>
    obtain ⟨y, r, rfl, h2⟩ := xx_pi_inv h
    obtain ⟨x, r, rfl, h3⟩ := xx_pi_inv h2
    cases h3
    exact ⟨lb, by first | rfl | (simp only [xx_loc, xx_pi, xx_pl, xx_pv]; simp_all; done) | (simp only [xx_loc, xx_pi, xx_pl, xx_pv]; simp_all; omega), hle⟩
  | ladd =>
    obtain ⟨y, r, rfl, h2⟩ := xx_pl_inv h
    obtain ⟨x, r, rfl, h3⟩ := xx_pl_inv h2
    cases h3
    exact ⟨lb, by first | rfl | (simp only [xx_loc, xx_pi, xx_pl, xx_pv]; simp_all; done) | (simp only [xx_loc, xx_pi, xx_pl, xx_pv]; simp_all; omega), hle⟩
  | lsub =>
    obtain ⟨y, r, rfl, h2⟩ := xx_pl_inv h
    obtain ⟨x, r, rfl, h3⟩ := xx_pl_inv h2
    cases h3
    exact ⟨lb, by first | rfl | (simp only [xx_loc, xx_pi, xx_pl, xx_pv]; simp_all; done) | (simp only [xx_loc, xx_pi, xx_pl, xx_pv]; simp_all; omega), hle⟩
  | lmul =>
    obtain ⟨y, r, rfl, h2⟩ := xx_pl_inv h
    obtain ⟨x, r, rfl, h3⟩ := xx_pl_inv h2
    cases h3
    exact ⟨lb, by first | rfl | (simp only [xx_loc, xx_pi, xx_pl, xx_pv]; simp_all; done) | (simp only [xx_loc, xx_pi, xx_pl, xx_pv]; simp_all; omega), hle⟩
  | land =>
    obtain ⟨y, r, rfl, h2⟩ := xx_pl_inv h
    obtain ⟨x, r, rfl, h3⟩ := xx_pl_inv h2
    cases h3
    exact ⟨lb, by first | rfl | (simp only [xx_loc, xx_pi, xx_pl, xx_pv]; simp_all; done) | (simp only [xx_loc, xx_pi, xx_pl, xx_pv]; simp_all; omega), hle⟩
  | lor =>
    obtain ⟨y, r, rfl, h2⟩ := xx_pl_inv h
    obtain ⟨x, r, rfl, h3⟩ := xx_pl_inv h2
    cases h3
    exact ⟨lb, by first | rfl | (simp only [xx_loc, xx_pi, xx_pl, xx_pv]; simp_all; done) | (simp only [xx_loc, xx_pi, xx_pl, xx_pv]; simp_all; omega), hle⟩
  | lxor =>
    obtain ⟨y, r, rfl, h2⟩ := xx_pl_inv h
    obtain ⟨x, r, rfl, h3⟩ := xx_pl_inv h2
    cases h3
    exact ⟨lb, by first | rfl | (simp only [xx_loc, xx_pi, xx_pl, xx_pv]; simp_all; done) | (simp only [xx_loc, xx_pi, xx_pl, xx_pv]; simp_all; omega), hle⟩
  | lcmp =>
    obtain ⟨y, r, rfl, h2⟩ := xx_pl_inv h
    obtain ⟨x, r, rfl, h3⟩ := xx_pl_inv h2
    cases h3
    exact ⟨lb, by first | rfl | (simp only [xx_loc, xx_pi, xx_pl, xx_pv]; simp_all; done) | (simp only [xx_loc, xx_pi, xx_pl, xx_pv]; simp_all; omega), hle⟩
  | lshl =>
    obtain ⟨y, r, rfl, h2⟩ := xx_pi_inv h
    obtain ⟨x, r, rfl, h3⟩ := xx_pl_inv h2
    cases h3
    exact ⟨lb, by first | rfl | (simp only [xx_loc, xx_pi, xx_pl, xx_pv]; simp_all; done) | (simp only [xx_loc, xx_pi, xx_pl, xx_pv]; simp_all; omega), hle⟩
  | lshr =>
    obtain ⟨y, r, rfl, h2⟩ := xx_pi_inv h
    obtain ⟨x, r, rfl, h3⟩ := xx_pl_inv h2
    cases h3
    exact ⟨lb, by first | rfl | (simp only [xx_loc, xx_pi, xx_pl, xx_pv]; simp_all; done) | (simp only [xx_loc, xx_pi, xx_pl, xx_pv]; simp_all; omega), hle⟩
  | lushr =>
    obtain ⟨y, r, rfl, h2⟩ := xx_pi_inv h
    obtain ⟨x, r, rfl, h3⟩ := xx_pl_inv h2
    cases h3
    exact ⟨lb, by first | rfl | (simp only [xx_loc, xx_pi, xx_pl, xx_pv]; simp_all; done) | (simp only [xx_loc, xx_pi, xx_pl, xx_pv]; simp_all; omega), hle⟩
  | idiv =>
    obtain ⟨y, r, rfl, h2⟩ := xx_pi_inv h
    obtain ⟨x, r, rfl, h3⟩ := xx_pi_inv h2
    split at h3
    · cases h3
    · cases h3
      exact ⟨lb, by first | rfl | (simp only [xx_loc, xx_pi, xx_pl, xx_pv]; simp_all; done) | (simp only [xx_loc, xx_pi, xx_pl, xx_pv]; simp_all; omega), hle⟩
  | irem =>
    obtain ⟨y, r, rfl, h2⟩ := xx_pi_inv h
    obtain ⟨x, r, rfl, h3⟩ := xx_pi_inv h2
    split at h3
    · cases h3
    · cases h3
      exact ⟨lb, by first | rfl | (simp only [xx_loc, xx_pi, xx_pl, xx_pv]; simp_all; done) | (simp only [xx_loc, xx_pi, xx_pl, xx_pv]; simp_all; omega), hle⟩
  | ldiv =>
    obtain ⟨y, r, rfl, h2⟩ := xx_pl_inv h
    obtain ⟨x, r, rfl, h3⟩ := xx_pl_inv h2
    split at h3
    · cases h3
    · cases h3
      exact ⟨lb, by first | rfl | (simp only [xx_loc, xx_pi, xx_pl, xx_pv]; simp_all; done) | (simp only [xx_loc, xx_pi, xx_pl, xx_pv]; simp_all; omega), hle⟩
  | lrem =>
    obtain ⟨y, r, rfl, h2⟩ := xx_pl_inv h
    obtain ⟨x, r, rfl, h3⟩ := xx_pl_inv h2
    split at h3
    · cases h3
    · cases h3
      exact ⟨lb, by first | rfl | (simp only [xx_loc, xx_pi, xx_pl, xx_pv]; simp_all; done) | (simp only [xx_loc, xx_pi, xx_pl, xx_pv]; simp_all; omega), hle⟩
  | ineg =>
    obtain ⟨x, r, rfl, h2⟩ := xx_pi_inv h
    cases h2
    exact ⟨lb, by first | rfl | (simp only [xx_loc, xx_pi, xx_pl, xx_pv]; simp_all; done) | (simp only [xx_loc, xx_pi, xx_pl, xx_pv]; simp_all; omega), hle⟩
  | lneg =>
    obtain ⟨x, r, rfl, h2⟩ := xx_pl_inv h
    cases h2
    exact ⟨lb, by first | rfl | (simp only [xx_loc, xx_pi, xx_pl, xx_pv]; simp_all; done) | (simp only [xx_loc, xx_pi, xx_pl, xx_pv]; simp_all; omega), hle⟩
  | i2l =>
    obtain ⟨x, r, rfl, h2⟩ := xx_pi_inv h
    cases h2
    exact ⟨lb, by first | rfl | (simp only [xx_loc, xx_pi, xx_pl, xx_pv]; simp_all; done) | (simp only [xx_loc, xx_pi, xx_pl, xx_pv]; simp_all; omega), hle⟩
  | l2i =>
    obtain ⟨x, r, rfl, h2⟩ := xx_pl_inv h
    cases h2
    exact ⟨lb, by first | rfl | (simp only [xx_loc, xx_pi, xx_pl, xx_pv]; simp_all; done) | (simp only [xx_loc, xx_pi, xx_pl, xx_pv]; simp_all; omega), hle⟩
  | i2b =>
    obtain ⟨x, r, rfl, h2⟩ := xx_pi_inv h
    cases h2
    exact ⟨lb, by first | rfl | (simp only [xx_loc, xx_pi, xx_pl, xx_pv]; simp_all; done) | (simp only [xx_loc, xx_pi, xx_pl, xx_pv]; simp_all; omega), hle⟩
  | i2c =>
    obtain ⟨x, r, rfl, h2⟩ := xx_pi_inv h
    cases h2
    exact ⟨lb, by first | rfl | (simp only [xx_loc, xx_pi, xx_pl, xx_pv]; simp_all; done) | (simp only [xx_loc, xx_pi, xx_pl, xx_pv]; simp_all; omega), hle⟩
  | dup =>
    obtain ⟨v, r, rfl, hc, h2⟩ := xx_pv_inv h
    cases h2
    exact ⟨lb, by first | rfl | (simp only [xx_loc, xx_pi, xx_pl, xx_pv]; simp_all; done) | (simp only [xx_loc, xx_pi, xx_pl, xx_pv]; simp_all; omega), hle⟩
  | pop =>
    obtain ⟨v, r, rfl, hc, h2⟩ := xx_pv_inv h
    cases h2
    exact ⟨lb, by first | rfl | (simp only [xx_loc, xx_pi, xx_pl, xx_pv]; simp_all; done) | (simp only [xx_loc, xx_pi, xx_pl, xx_pv]; simp_all; omega), hle⟩
  | dup_x1 =>
    obtain ⟨v, r, rfl, hc, h2⟩ := xx_pv_inv h
    obtain ⟨u, r, rfl, hc, h3⟩ := xx_pv_inv h2
    cases h3
    exact ⟨lb, by first | rfl | (simp only [xx_loc, xx_pi, xx_pl, xx_pv]; simp_all; done) | (simp only [xx_loc, xx_pi, xx_pl, xx_pv]; simp_all; omega), hle⟩
  | dup2 =>
    obtain ⟨v, r, rfl, hc, h2⟩ := xx_pv_inv h
    obtain ⟨u, r, rfl, hc, h3⟩ := xx_pv_inv h2
    cases h3
    exact ⟨lb, by first | rfl | (simp only [xx_loc, xx_pi, xx_pl, xx_pv]; simp_all; done) | (simp only [xx_loc, xx_pi, xx_pl, xx_pv]; simp_all; omega), hle⟩
  | goto o =>
    cases h
    exact ⟨lb, by first | rfl | (simp only [xx_loc, xx_pi, xx_pl, xx_pv]; simp_all; done) | (simp only [xx_loc, xx_pi, xx_pl, xx_pv]; simp_all; omega), hle⟩
  | ifCond c o =>
    obtain ⟨x, r, rfl, h2⟩ := xx_pi_inv h
    cases h2
    exact ⟨lb, by first | rfl | (simp only [xx_loc, xx_pi, xx_pl, xx_pv]; simp_all; done) | (simp only [xx_loc, xx_pi, xx_pl, xx_pv]; simp_all; omega), hle⟩
  | if_icmp c o =>
    obtain ⟨y, r, rfl, h2⟩ := xx_pi_inv h
    obtain ⟨x, r, rfl, h3⟩ := xx_pi_inv h2
    cases h3
    exact ⟨lb, by first | rfl | (simp only [xx_loc, xx_pi, xx_pl, xx_pv]; simp_all; done) | (simp only [xx_loc, xx_pi, xx_pl, xx_pv]; simp_all; omega), hle⟩
  | tableswitch d lo hi os =>
    obtain ⟨x, r, rfl, h2⟩ := xx_pi_inv h
    split at h2
    · cases h2
      exact ⟨lb, by first | rfl | (simp only [xx_loc, xx_pi, xx_pl, xx_pv]; simp_all; done) | (simp only [xx_loc, xx_pi, xx_pl, xx_pv]; simp_all; omega), hle⟩
    · split at h2
      · cases h2
        exact ⟨lb, by first | rfl | (simp only [xx_loc, xx_pi, xx_pl, xx_pv]; simp_all; done) | (simp only [xx_loc, xx_pi, xx_pl, xx_pv]; simp_all; omega), hle⟩
      · cases h2
  | lookupswitch d ps =>
    obtain ⟨x, r, rfl, h2⟩ := xx_pi_inv h
    cases h2
    exact ⟨lb, by first | rfl | (simp only [xx_loc, xx_pi, xx_pl, xx_pv]; simp_all; done) | (simp only [xx_loc, xx_pi, xx_pl, xx_pv]; simp_all; omega), hle⟩
  | _ => exact absurd h (by simp [xx_loc])
theorem xx_one_le {P : xx_P} {f d m pc : Nat} {ls lb ls' : xx_L} {st st' : List Value} {h h' : xx_H} {pc' : Nat} (hle : xx_le ls lb) (hr : xx_one P f d m pc ls st h = some (pc', ls', st', h')) : ∃ l, xx_one P f d m pc lb st h = some (pc', l, st', h') ∧ xx_le ls' l := by
  unfold xx_one at hr ⊢
  split at hr
  · cases hr
  · rename_i i len q ns he
    split at hr
    · rename_i pc1 ls1 st1 hl
      cases hr
      obtain ⟨l, h1, h2⟩ := xx_loc_le hle hl
      simp only [h1]
      exact ⟨l, rfl, h2⟩
    · rename_i hl
      by_cases hk : xx_kd i = 0
      · exfalso
        have e1 := xx_hp_no (P := P) (i := i) (q := q) (st := st) (h := h) (by omega)
        rw [e1] at hr
        dsimp only at hr
        cases i <;> simp_all [xx_kd, xx_prm, xx_call] <;> (cases d <;> simp_all)
      · have e2 := xx_loc_no (len := len) (q := q) (pc := pc) (ls := lb) (st := st) hk
        simp only [e2]
        split at hr
        · cases hr
          exact ⟨lb, rfl, hle⟩
        · split at hr
          · split at hr
            · cases hr
            · cases hr
              have hd := ‹¬ d = 0›
              rw [if_neg hd]
              exact ⟨lb, rfl, hle⟩
          · split at hr
            · cases hr
            · split at hr
              · split at hr
                · cases hr
                  exact ⟨lb, rfl, hle⟩
                · cases hr
              · cases hr
theorem xx_steps_le {P : xx_P} {f : Nat} : ∀ {n d m pc : Nat} {ls lb ls' : xx_L} {st st' : List Value} {h h' : xx_H} {pc' : Nat}, xx_le ls lb → xx_steps P f n d m pc ls st h = some (pc', ls', st', h') → ∃ l, xx_steps P f n d m pc lb st h = some (pc', l, st', h') ∧ xx_le ls' l
  | 0, d, m, pc, ls, lb, ls', st, st', h, h', pc', hle, hr => by
    cases hr
    exact ⟨lb, rfl, hle⟩
  | n + 1, d, m, pc, ls, lb, ls', st, st', h, h', pc', hle, hr => by
    unfold xx_steps at hr ⊢
    cases h1 : xx_one P f d m pc ls st h with
    | none =>
      rw [h1] at hr
      cases hr
    | some z =>
      obtain ⟨p1, l1, s1, g1⟩ := z
      rw [h1] at hr
      obtain ⟨l2, e2, hle2⟩ := xx_one_le hle h1
      rw [e2]
      exact xx_steps_le hle2 hr
/-- what ends a method does not look at locals -/
theorem sFg {X : List Int32} {d m pc : Nat} {ls lb : xx_L} {st : List Value} {S : ST} {Q : Option Value → ST → Prop} (hle : xx_le ls lb) (k : sT X d m pc ls st S (sE X m Q)) : sT X d m pc lb st S (sE X m Q) := by
  obtain ⟨f, n, pc', ls', st', h', h1, T, h2, h3⟩ := k
  obtain ⟨l, h4, -⟩ := xx_steps_le hle h1
  exact ⟨f, n, pc', l, st', h', h4, T, h2, h3⟩
/-- the same, cell by cell -/
def xx_ll : xx_L → xx_L → Prop
  | [], [] => True
  | none :: a, _ :: b => xx_ll a b
  | some v :: a, w :: b => w = some v ∧ xx_ll a b
  | _, _ => False
theorem xx_ll_le : ∀ {a b : xx_L}, xx_ll a b → xx_le a b
  | [], [], _ => xx_le_refl _
  | none :: a, w :: b, h => by
    have ih := xx_ll_le (a := a) (b := b) h
    refine ⟨congrArg (· + 1) ih.1, fun i v hv => ?_⟩
    cases i with
    | zero => cases hv
    | succ i => exact ih.2 i v hv
  | some u :: a, w :: b, h => by
    obtain ⟨rfl, h2⟩ := (h : w = some u ∧ xx_ll a b)
    have ih := xx_ll_le (a := a) (b := b) h2
    refine ⟨congrArg (· + 1) ih.1, fun i v hv => ?_⟩
    cases i with
    | zero => exact hv
    | succ i => exact ih.2 i v hv
  | [], _ :: _, h => h.elim
  | none :: _, [], h => h.elim
  | some _ :: _, [], h => h.elim
/-- a loop of n rounds; what it leaves in other locals is forgotten -/
theorem sRo {X : List Int32} {d m pc : Nat} {ls lb : xx_L} {st : List Value} {S T : ST} {Q : Option Value → ST → Prop} (hle : xx_ll ls lb) (e : sH S = sH T) (k : sT X d m pc ls st T (sE X m Q)) : sT X d m pc lb st S (sE X m Q) := sFg (xx_ll_le hle) (sSh e k)
