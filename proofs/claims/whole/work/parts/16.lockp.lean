/-! ===== xx_: instructions that touch the frame alone keep it well ===== -/
theorem xx_okl_set {n : Nat} {sc : Bool} {ls : xx_L} {i : Nat} {o : Option Value} (h : xx_okl n sc ls) (ho : ∀ v, o = some v → xx_okv n sc v) : xx_okl n sc (ls.set i o) := fun v hv => by
  rcases List.mem_or_eq_of_mem_set hv with h1 | h1
  · exact h v h1
  · exact ho v h1.symm
theorem xx_okl_clr {n : Nat} {sc : Bool} {ls : xx_L} {i : Nat} (h : xx_okl n sc ls) : xx_okl n sc (xx_clr ls i) := by
  unfold xx_clr
  split
  · exact h
  · split
    · split
      · exact xx_okl_set h (fun v z => by cases z)
      · exact h
    · exact h
theorem xx_okl_st1 {n : Nat} {sc : Bool} {ls : xx_L} {i : Nat} {v : Value} (h : xx_okl n sc ls) (hv : xx_okv n sc v) : xx_okl n sc (xx_set1 ls i v) := xx_okl_set (xx_okl_clr h) (fun w z => by cases z; exact hv)
theorem xx_okl_st2 {n : Nat} {sc : Bool} {ls : xx_L} {i : Nat} {v : Value} (h : xx_okl n sc ls) (hv : xx_okv n sc v) : xx_okl n sc (xx_set2 ls i v) := xx_okl_set (xx_okl_set (xx_okl_clr h) (fun w z => by cases z)) (fun w z => by cases z; exact hv)
theorem xx_loc_kp {i : Instr} {len q pc n : Nat} {sc : Bool} {ls ls' : xx_L} {st st' : List Value} {pc' : Nat} (hl : xx_okl n sc ls) (hs : xx_oks n sc st) (h : xx_loc i len q pc ls st = some (pc', ls', st')) : xx_okl n sc ls' ∧ xx_oks n sc st' := by
  cases i with
  | iconst n =>
    cases h
    exact ⟨hl, xx_oks_cons trivial hs⟩
  | bipush n =>
    cases h
    exact ⟨hl, xx_oks_cons trivial hs⟩
  | sipush n =>
    cases h
    exact ⟨hl, xx_oks_cons trivial hs⟩
  | ldc n =>
    cases h
    exact ⟨hl, xx_oks_cons trivial hs⟩
  | ldc2_w n =>
    cases h
    exact ⟨hl, xx_oks_cons trivial hs⟩
  | lconst n =>
    cases h
    exact ⟨hl, xx_oks_cons trivial hs⟩
  | iload k =>
    obtain ⟨x, h1, h2⟩ := xx_ldi_inv h
    cases h2
    exact ⟨hl, xx_oks_cons trivial hs⟩
  | iload_n k =>
    obtain ⟨x, h1, h2⟩ := xx_ldi_inv h
    cases h2
    exact ⟨hl, xx_oks_cons trivial hs⟩
  | lload k =>
    obtain ⟨x, h1, h2⟩ := xx_ldl_inv h
    cases h2
    exact ⟨hl, xx_oks_cons trivial hs⟩
  | lload_n k =>
    obtain ⟨x, h1, h2⟩ := xx_ldl_inv h
    cases h2
    exact ⟨hl, xx_oks_cons trivial hs⟩
  | aload k =>
    have h : (xx_lda ls k fun x => some (pc + len, ls, x :: st)) = some (pc', ls', st') := h
    obtain ⟨x, h1, -, h2⟩ := xx_lda_inv h
    cases h2
    exact ⟨hl, xx_oks_cons (hl x (List.mem_of_getElem? h1)) hs⟩
  | aload_n k =>
    have h : (xx_lda ls k.val fun x => some (pc + len, ls, x :: st)) = some (pc', ls', st') := h
    obtain ⟨x, h1, -, h2⟩ := xx_lda_inv h
    cases h2
    exact ⟨hl, xx_oks_cons (hl x (List.mem_of_getElem? h1)) hs⟩
  | istore k =>
    have h : xx_sti k pc len ls st = some (pc', ls', st') := h
    unfold xx_sti at h
    split at h
    · obtain ⟨x, r, rfl, h2⟩ := xx_pi_inv h
      cases h2
      exact ⟨xx_okl_st1 hl (hs _ List.mem_cons_self), xx_oks_tl hs⟩
    · cases h
  | istore_n k =>
    have h : xx_sti k.val pc len ls st = some (pc', ls', st') := h
    unfold xx_sti at h
    split at h
    · obtain ⟨x, r, rfl, h2⟩ := xx_pi_inv h
      cases h2
      exact ⟨xx_okl_st1 hl (hs _ List.mem_cons_self), xx_oks_tl hs⟩
    · cases h
  | lstore k =>
    have h : xx_stl k pc len ls st = some (pc', ls', st') := h
    unfold xx_stl at h
    split at h
    · obtain ⟨x, r, rfl, h2⟩ := xx_pl_inv h
      cases h2
      exact ⟨xx_okl_st2 hl (hs _ List.mem_cons_self), xx_oks_tl hs⟩
    · cases h
  | lstore_n k =>
    have h : xx_stl k.val pc len ls st = some (pc', ls', st') := h
    unfold xx_stl at h
    split at h
    · obtain ⟨x, r, rfl, h2⟩ := xx_pl_inv h
      cases h2
      exact ⟨xx_okl_st2 hl (hs _ List.mem_cons_self), xx_oks_tl hs⟩
    · cases h
  | astore k =>
    have h : xx_sta k pc len ls st = some (pc', ls', st') := h
    unfold xx_sta at h
    split at h
    · obtain ⟨x, r, rfl, h2⟩ := xx_pr_inv h
      cases h2
      exact ⟨xx_okl_st1 hl (hs _ List.mem_cons_self), xx_oks_tl hs⟩
    · cases h
  | astore_n k =>
    have h : xx_sta k.val pc len ls st = some (pc', ls', st') := h
    unfold xx_sta at h
    split at h
    · obtain ⟨x, r, rfl, h2⟩ := xx_pr_inv h
      cases h2
      exact ⟨xx_okl_st1 hl (hs _ List.mem_cons_self), xx_oks_tl hs⟩
    · cases h
  | iinc k n =>
    have h : (if k < ls.length then xx_ldi ls k fun x => some (pc + len, xx_set1 ls k (.int (x + Int32.ofInt n)), st) else none) = some (pc', ls', st') := h
    split at h
    · obtain ⟨x, h1, h2⟩ := xx_ldi_inv h
      cases h2
      exact ⟨xx_okl_st1 hl trivial, hs⟩
    · cases h
  | iadd =>
    obtain ⟨y, r, rfl, h2⟩ := xx_pi_inv h
    obtain ⟨x, r, rfl, h3⟩ := xx_pi_inv h2
    cases h3
    exact ⟨hl, xx_oks_cons trivial (xx_oks_tl (xx_oks_tl hs))⟩
  | isub =>
    obtain ⟨y, r, rfl, h2⟩ := xx_pi_inv h
    obtain ⟨x, r, rfl, h3⟩ := xx_pi_inv h2
    cases h3
    exact ⟨hl, xx_oks_cons trivial (xx_oks_tl (xx_oks_tl hs))⟩
  | imul =>
    obtain ⟨y, r, rfl, h2⟩ := xx_pi_inv h
    obtain ⟨x, r, rfl, h3⟩ := xx_pi_inv h2
    cases h3
    exact ⟨hl, xx_oks_cons trivial (xx_oks_tl (xx_oks_tl hs))⟩
  | iand =>
    obtain ⟨y, r, rfl, h2⟩ := xx_pi_inv h
    obtain ⟨x, r, rfl, h3⟩ := xx_pi_inv h2
    cases h3
    exact ⟨hl, xx_oks_cons trivial (xx_oks_tl (xx_oks_tl hs))⟩
  | ior =>
    obtain ⟨y, r, rfl, h2⟩ := xx_pi_inv h
    obtain ⟨x, r, rfl, h3⟩ := xx_pi_inv h2
    cases h3
    exact ⟨hl, xx_oks_cons trivial (xx_oks_tl (xx_oks_tl hs))⟩
  | ixor =>
    obtain ⟨y, r, rfl, h2⟩ := xx_pi_inv h
    obtain ⟨x, r, rfl, h3⟩ := xx_pi_inv h2
    cases h3
    exact ⟨hl, xx_oks_cons trivial (xx_oks_tl (xx_oks_tl hs))⟩
  | ishl =>
    obtain ⟨y, r, rfl, h2⟩ := xx_pi_inv h
    obtain ⟨x, r, rfl, h3⟩ := xx_pi_inv h2
    cases h3
    exact ⟨hl, xx_oks_cons trivial (xx_oks_tl (xx_oks_tl hs))⟩
  | ishr =>
    obtain ⟨y, r, rfl, h2⟩ := xx_pi_inv h
    obtain ⟨x, r, rfl, h3⟩ := xx_pi_inv h2
    cases h3
    exact ⟨hl, xx_oks_cons trivial (xx_oks_tl (xx_oks_tl hs))⟩
  | iushr =>
    obtain ⟨y, r, rfl, h2⟩ := xx_pi_inv h
    obtain ⟨x, r, rfl, h3⟩ := xx_pi_inv h2
    cases h3
    exact ⟨hl, xx_oks_cons trivial (xx_oks_tl (xx_oks_tl hs))⟩
  | ladd =>
    obtain ⟨y, r, rfl, h2⟩ := xx_pl_inv h
    obtain ⟨x, r, rfl, h3⟩ := xx_pl_inv h2
    cases h3
    exact ⟨hl, xx_oks_cons trivial (xx_oks_tl (xx_oks_tl hs))⟩
  | lsub =>
    obtain ⟨y, r, rfl, h2⟩ := xx_pl_inv h
    obtain ⟨x, r, rfl, h3⟩ := xx_pl_inv h2
    cases h3
    exact ⟨hl, xx_oks_cons trivial (xx_oks_tl (xx_oks_tl hs))⟩
  | lmul =>
    obtain ⟨y, r, rfl, h2⟩ := xx_pl_inv h
    obtain ⟨x, r, rfl, h3⟩ := xx_pl_inv h2
    cases h3
    exact ⟨hl, xx_oks_cons trivial (xx_oks_tl (xx_oks_tl hs))⟩
  | land =>
    obtain ⟨y, r, rfl, h2⟩ := xx_pl_inv h
    obtain ⟨x, r, rfl, h3⟩ := xx_pl_inv h2
    cases h3
    exact ⟨hl, xx_oks_cons trivial (xx_oks_tl (xx_oks_tl hs))⟩
  | lor =>
    obtain ⟨y, r, rfl, h2⟩ := xx_pl_inv h
    obtain ⟨x, r, rfl, h3⟩ := xx_pl_inv h2
    cases h3
    exact ⟨hl, xx_oks_cons trivial (xx_oks_tl (xx_oks_tl hs))⟩
  | lxor =>
    obtain ⟨y, r, rfl, h2⟩ := xx_pl_inv h
    obtain ⟨x, r, rfl, h3⟩ := xx_pl_inv h2
    cases h3
    exact ⟨hl, xx_oks_cons trivial (xx_oks_tl (xx_oks_tl hs))⟩
  | lcmp =>
    obtain ⟨y, r, rfl, h2⟩ := xx_pl_inv h
    obtain ⟨x, r, rfl, h3⟩ := xx_pl_inv h2
    cases h3
    exact ⟨hl, xx_oks_cons trivial (xx_oks_tl (xx_oks_tl hs))⟩
  | lshl =>
    obtain ⟨y, r, rfl, h2⟩ := xx_pi_inv h
    obtain ⟨x, r, rfl, h3⟩ := xx_pl_inv h2
    cases h3
    exact ⟨hl, xx_oks_cons trivial (xx_oks_tl (xx_oks_tl hs))⟩
  | lshr =>
    obtain ⟨y, r, rfl, h2⟩ := xx_pi_inv h
    obtain ⟨x, r, rfl, h3⟩ := xx_pl_inv h2
    cases h3
    exact ⟨hl, xx_oks_cons trivial (xx_oks_tl (xx_oks_tl hs))⟩
  | lushr =>
    obtain ⟨y, r, rfl, h2⟩ := xx_pi_inv h
    obtain ⟨x, r, rfl, h3⟩ := xx_pl_inv h2
    cases h3
    exact ⟨hl, xx_oks_cons trivial (xx_oks_tl (xx_oks_tl hs))⟩
  | idiv =>
    obtain ⟨y, r, rfl, h2⟩ := xx_pi_inv h
    obtain ⟨x, r, rfl, h3⟩ := xx_pi_inv h2
    split at h3
    · cases h3
    · cases h3
      exact ⟨hl, xx_oks_cons trivial (xx_oks_tl (xx_oks_tl hs))⟩
  | irem =>
    obtain ⟨y, r, rfl, h2⟩ := xx_pi_inv h
    obtain ⟨x, r, rfl, h3⟩ := xx_pi_inv h2
    split at h3
    · cases h3
    · cases h3
      exact ⟨hl, xx_oks_cons trivial (xx_oks_tl (xx_oks_tl hs))⟩
  | ldiv =>
    obtain ⟨y, r, rfl, h2⟩ := xx_pl_inv h
    obtain ⟨x, r, rfl, h3⟩ := xx_pl_inv h2
    split at h3
    · cases h3
    · cases h3
      exact ⟨hl, xx_oks_cons trivial (xx_oks_tl (xx_oks_tl hs))⟩
  | lrem =>
    obtain ⟨y, r, rfl, h2⟩ := xx_pl_inv h
    obtain ⟨x, r, rfl, h3⟩ := xx_pl_inv h2
    split at h3
    · cases h3
    · cases h3
      exact ⟨hl, xx_oks_cons trivial (xx_oks_tl (xx_oks_tl hs))⟩
  | ineg =>
    obtain ⟨x, r, rfl, h2⟩ := xx_pi_inv h
    cases h2
    exact ⟨hl, xx_oks_cons trivial (xx_oks_tl hs)⟩
  | lneg =>
    obtain ⟨x, r, rfl, h2⟩ := xx_pl_inv h
    cases h2
    exact ⟨hl, xx_oks_cons trivial (xx_oks_tl hs)⟩
  | i2l =>
    obtain ⟨x, r, rfl, h2⟩ := xx_pi_inv h
    cases h2
    exact ⟨hl, xx_oks_cons trivial (xx_oks_tl hs)⟩
  | l2i =>
    obtain ⟨x, r, rfl, h2⟩ := xx_pl_inv h
    cases h2
    exact ⟨hl, xx_oks_cons trivial (xx_oks_tl hs)⟩
  | i2b =>
    obtain ⟨x, r, rfl, h2⟩ := xx_pi_inv h
    cases h2
    exact ⟨hl, xx_oks_cons trivial (xx_oks_tl hs)⟩
  | i2c =>
    obtain ⟨x, r, rfl, h2⟩ := xx_pi_inv h
    cases h2
    exact ⟨hl, xx_oks_cons trivial (xx_oks_tl hs)⟩
  | dup =>
    obtain ⟨v, r, rfl, hc, h2⟩ := xx_pv_inv h
    cases h2
    exact ⟨hl, xx_oks_cons (hs _ List.mem_cons_self) hs⟩
  | pop =>
    obtain ⟨v, r, rfl, hc, h2⟩ := xx_pv_inv h
    cases h2
    exact ⟨hl, xx_oks_tl hs⟩
  | dup_x1 =>
    obtain ⟨v, r, rfl, hc, h2⟩ := xx_pv_inv h
    obtain ⟨u, r, rfl, hc, h3⟩ := xx_pv_inv h2
    cases h3
    exact ⟨hl, xx_oks_cons (hs _ List.mem_cons_self) (xx_oks_cons (hs _ (List.mem_cons_of_mem _ List.mem_cons_self)) (xx_oks_cons (hs _ List.mem_cons_self) (xx_oks_tl (xx_oks_tl hs))))⟩
  | dup2 =>
    obtain ⟨v, r, rfl, hc, h2⟩ := xx_pv_inv h
    obtain ⟨u, r, rfl, hc, h3⟩ := xx_pv_inv h2
    cases h3
    exact ⟨hl, xx_oks_cons (hs _ List.mem_cons_self) (xx_oks_cons (hs _ (List.mem_cons_of_mem _ List.mem_cons_self)) hs)⟩
  | goto o =>
    cases h
    exact ⟨hl, hs⟩
  | ifCond c o =>
    obtain ⟨x, r, rfl, h2⟩ := xx_pi_inv h
    cases h2
    exact ⟨hl, xx_oks_tl hs⟩
  | if_icmp c o =>
    obtain ⟨y, r, rfl, h2⟩ := xx_pi_inv h
    obtain ⟨x, r, rfl, h3⟩ := xx_pi_inv h2
    cases h3
    exact ⟨hl, xx_oks_tl (xx_oks_tl hs)⟩
  | tableswitch d lo hi os =>
    obtain ⟨x, r, rfl, h2⟩ := xx_pi_inv h
    split at h2
    · cases h2
      exact ⟨hl, xx_oks_tl hs⟩
    · split at h2
      · cases h2
        exact ⟨hl, xx_oks_tl hs⟩
      · cases h2
  | lookupswitch d ps =>
    obtain ⟨x, r, rfl, h2⟩ := xx_pi_inv h
    cases h2
    exact ⟨hl, xx_oks_tl hs⟩
  | _ => exact absurd h (by simp [xx_loc])
