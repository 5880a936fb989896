/-! ===== xx_: the machine does what xx_loc says ===== -/
theorem xx_off_ge {l : List (Int × Int)} {d k pc : Int} (h0 : 0 ≤ pc + d) (h : (l.all fun o => decide (0 ≤ pc + o.2)) = true) : 0 ≤ pc + Op.lookupswitch.offset l d k := by
  induction l with
  | nil => exact h0
  | cons a r ih =>
    obtain ⟨a, o⟩ := a
    simp only [List.all_cons, Bool.and_eq_true, decide_eq_true_eq] at h
    rw [Op.lookupswitch.offset_cons]
    split
    · exact h.1
    · exact ih h.2
section XL
variable {p : Program} {l : Launch} {e : Env} {R : Room} {s : State} {m : MethodId} {args : Array Value} {below : List Frame} {meth : Method} {c : Code} {H : Heap} {locs : List Loc} {cells slots : Nat} {Q : State → Prop}
variable {cc : ByteArray} {own : String} {Ts : List Cond} {nL : Nat} {b : xx_B} {as : List Nat}
set_option maxHeartbeats 4000000 in
theorem xx_loc_sound (hx : p.tables.exec = Jvm.exec) (hb : c.code = cc) (hown : s.vm.findClass own = some m.cls) (hts : ∀ w ∈ Ts, w.before args s = true) {i : Instr} {len q pc : Nat} (hr : xx_rowL cc own Ts i len q pc) {A : Array Slot} {ls ls' : xx_L} {st st' : List Value} {pc' : Nat} (hl : xx_has A nL b as ls) (h : xx_loc i len q pc ls st = some (pc', ls', st'))
    (kk : ∀ A' : Array Slot, xx_has A' nL b as ls' → W p l e R s m args below meth c H locs cells slots Q (F0 m pc' A' (st'.map (xx_v b as)))) : W p l e R s m args below meth c H locs cells slots Q (F0 m pc A (st.map (xx_v b as))) := by
  obtain ⟨hd, hr⟩ := hr
  cases i with
  | iconst n =>
    obtain ⟨rfl, hk⟩ := hr
    cases h
    exact lv_iconst hx hb hd hk (kk A hl)
  | bipush n =>
    obtain ⟨rfl, hk⟩ := hr
    cases h
    exact lv_bipush hx hb hd hk (kk A hl)
  | sipush n =>
    obtain ⟨rfl, hk⟩ := hr
    cases h
    exact lv_sipush hx hb hd hk (kk A hl)
  | ldc n =>
    obtain ⟨rfl, hk⟩ := hr
    cases h
    exact lv_ldc hx hb hown (hts _ hk) hd (kk A hl)
  | ldc2_w n =>
    obtain ⟨rfl, hk⟩ := hr
    cases h
    exact lv_ldc2 hx hb hown (hts _ hk) hd (kk A hl)
  | lconst n =>
    subst hr
    cases h
    exact lv_lconst hx hb hd rfl (kk A hl)
  | iload k =>
    subst hr
    obtain ⟨x, h1, h⟩ := xx_ldi_inv h
    cases h
    exact lv_iload hx hb hd (hl.2.2.2 _ _ h1) (kk A hl)
  | iload_n k =>
    subst hr
    obtain ⟨x, h1, h⟩ := xx_ldi_inv h
    cases h
    exact lv_iload_n hx hb hd rfl (hl.2.2.2 _ _ h1) (kk A hl)
  | lload k =>
    subst hr
    obtain ⟨x, h1, h⟩ := xx_ldl_inv h
    cases h
    exact lv_lload hx hb hd (hl.2.2.2 _ _ h1) (kk A hl)
  | lload_n k =>
    subst hr
    obtain ⟨x, h1, h⟩ := xx_ldl_inv h
    cases h
    exact lv_lload_n hx hb hd rfl (hl.2.2.2 _ _ h1) (kk A hl)
  | aload k =>
    subst hr
    have h : (xx_lda ls k fun x => some (pc + 2, ls, x :: st)) = some (pc', ls', st') := h
    obtain ⟨x, h1, ⟨a, rfl⟩ | ⟨a, rfl⟩, h⟩ := xx_lda_inv h
    · cases h
      exact lv_aload hx hb hd (hl.2.2.2 _ _ h1) (kk A hl)
    · cases h
      have h9 : A[k]? = some (.val (xx_bv (b a))) := hl.2.2.2 _ _ h1
      have k9 : W p l e R s m args below meth c H locs cells slots Q (F0 m (pc + 2) A (xx_bv (b a) :: st.map (xx_v b as))) := kk A hl
      cases hb9 : b a with
      | some c9 =>
        rw [hb9] at h9 k9
        exact lv_aload hx hb hd h9 k9
      | none =>
        rw [hb9] at h9 k9
        exact lv_aloadN hx hb hd h9 k9
  | aload_n k =>
    subst hr
    have h : (xx_lda ls k.val fun x => some (pc + 1, ls, x :: st)) = some (pc', ls', st') := h
    obtain ⟨x, h1, ⟨a, rfl⟩ | ⟨a, rfl⟩, h⟩ := xx_lda_inv h
    · cases h
      exact lv_aload_n hx hb hd rfl (hl.2.2.2 _ _ h1) (kk A hl)
    · cases h
      have h9 : A[k.val]? = some (.val (xx_bv (b a))) := hl.2.2.2 _ _ h1
      have k9 : W p l e R s m args below meth c H locs cells slots Q (F0 m (pc + 1) A (xx_bv (b a) :: st.map (xx_v b as))) := kk A hl
      cases hb9 : b a with
      | some c9 =>
        rw [hb9] at h9 k9
        exact lv_aload_n hx hb hd rfl h9 k9
      | none =>
        rw [hb9] at h9 k9
        exact lv_aload_nN hx hb hd rfl h9 k9
  | istore k =>
    subst hr
    have h : xx_sti k pc 2 ls st = some (pc', ls', st') := h
    unfold xx_sti at h
    split at h
    · rename_i hi
      obtain ⟨x, r, rfl, h⟩ := xx_pi_inv h
      cases h
      rw [hl.2.2.1] at hi
      exact lv_istore hx hb hd hl.lv hi rfl (fun A' hA => kk A' (hl.st1 hi hA))
    · cases h
  | istore_n k =>
    subst hr
    have h : xx_sti k.val pc 1 ls st = some (pc', ls', st') := h
    unfold xx_sti at h
    split at h
    · rename_i hi
      obtain ⟨x, r, rfl, h⟩ := xx_pi_inv h
      cases h
      rw [hl.2.2.1] at hi
      exact lv_istore_n hx hb hd rfl hl.lv hi rfl (fun A' hA => kk A' (hl.st1 hi hA))
    · cases h
  | lstore k =>
    subst hr
    have h : xx_stl k pc 2 ls st = some (pc', ls', st') := h
    unfold xx_stl at h
    split at h
    · rename_i hi
      obtain ⟨x, r, rfl, h⟩ := xx_pl_inv h
      cases h
      rw [hl.2.2.1] at hi
      exact lv_lstore hx hb hd hl.lv hi rfl (fun A' hA => kk A' (hl.st2 hi hA))
    · cases h
  | lstore_n k =>
    subst hr
    have h : xx_stl k.val pc 1 ls st = some (pc', ls', st') := h
    unfold xx_stl at h
    split at h
    · rename_i hi
      obtain ⟨x, r, rfl, h⟩ := xx_pl_inv h
      cases h
      rw [hl.2.2.1] at hi
      exact lv_lstore_n hx hb hd rfl hl.lv hi rfl (fun A' hA => kk A' (hl.st2 hi hA))
    · cases h
  | astore k =>
    subst hr
    have h : xx_sta k pc 2 ls st = some (pc', ls', st') := h
    unfold xx_sta at h
    split at h
    · rename_i hi
      obtain ⟨x, r, rfl, h⟩ := xx_pr_inv h
      cases h
      rw [hl.2.2.1] at hi
      exact lv_astore hx hb hd hl.lv hi rfl (fun A' hA => kk A' (hl.st1 hi hA))
    · cases h
  | astore_n k =>
    subst hr
    have h : xx_sta k.val pc 1 ls st = some (pc', ls', st') := h
    unfold xx_sta at h
    split at h
    · rename_i hi
      obtain ⟨x, r, rfl, h⟩ := xx_pr_inv h
      cases h
      rw [hl.2.2.1] at hi
      exact lv_astore_n hx hb hd rfl hl.lv hi rfl (fun A' hA => kk A' (hl.st1 hi hA))
    · cases h
  | iinc k n =>
    subst hr
    have h : (if k < ls.length then xx_ldi ls k fun x => some (pc + 3, xx_set1 ls k (.int (x + Int32.ofInt n)), st) else none) = some (pc', ls', st') := h
    split at h
    · rename_i hi
      obtain ⟨x, h1, h⟩ := xx_ldi_inv h
      cases h
      obtain ⟨k9, hk9⟩ := List.getElem?_of_mem (xx_lv_mem (b := b) (as := as) (ls := ls) (q := (k, .int x)).mpr ⟨.int x, h1, rfl⟩)
      rw [hl.2.2.1] at hi
      exact lv_iinc hx hb hd hl.lv hk9 rfl hi rfl (fun A' hA => kk A' (hl.st1 hi hA))
    · cases h
  | iadd =>
    subst hr
    obtain ⟨y, r, rfl, h⟩ := xx_pi_inv h
    obtain ⟨x, r, rfl, h⟩ := xx_pi_inv h
    cases h
    exact lv_iadd hx hb hd (kk A hl)
  | isub =>
    subst hr
    obtain ⟨y, r, rfl, h⟩ := xx_pi_inv h
    obtain ⟨x, r, rfl, h⟩ := xx_pi_inv h
    cases h
    exact lv_isub hx hb hd (kk A hl)
  | imul =>
    subst hr
    obtain ⟨y, r, rfl, h⟩ := xx_pi_inv h
    obtain ⟨x, r, rfl, h⟩ := xx_pi_inv h
    cases h
    exact lv_imul hx hb hd (kk A hl)
  | iand =>
    subst hr
    obtain ⟨y, r, rfl, h⟩ := xx_pi_inv h
    obtain ⟨x, r, rfl, h⟩ := xx_pi_inv h
    cases h
    exact lv_iand hx hb hd (kk A hl)
  | ior =>
    subst hr
    obtain ⟨y, r, rfl, h⟩ := xx_pi_inv h
    obtain ⟨x, r, rfl, h⟩ := xx_pi_inv h
    cases h
    exact lv_ior hx hb hd (kk A hl)
  | ixor =>
    subst hr
    obtain ⟨y, r, rfl, h⟩ := xx_pi_inv h
    obtain ⟨x, r, rfl, h⟩ := xx_pi_inv h
    cases h
    exact lv_ixor hx hb hd (kk A hl)
  | ishl =>
    subst hr
    obtain ⟨y, r, rfl, h⟩ := xx_pi_inv h
    obtain ⟨x, r, rfl, h⟩ := xx_pi_inv h
    cases h
    exact lv_ishl hx hb hd (kk A hl)
  | ishr =>
    subst hr
    obtain ⟨y, r, rfl, h⟩ := xx_pi_inv h
    obtain ⟨x, r, rfl, h⟩ := xx_pi_inv h
    cases h
    exact lv_ishr hx hb hd (kk A hl)
  | iushr =>
    subst hr
    obtain ⟨y, r, rfl, h⟩ := xx_pi_inv h
    obtain ⟨x, r, rfl, h⟩ := xx_pi_inv h
    cases h
    exact lv_iushr hx hb hd rfl (kk A hl)
  | idiv =>
    subst hr
    obtain ⟨y, r, rfl, h2⟩ := xx_pi_inv h
    obtain ⟨x, r, rfl, h3⟩ := xx_pi_inv h2
    split at h3
    · cases h3
    · rename_i hne
      cases h3
      exact lv_idiv hx hb hd hne (kk A hl)
  | irem =>
    subst hr
    obtain ⟨y, r, rfl, h2⟩ := xx_pi_inv h
    obtain ⟨x, r, rfl, h3⟩ := xx_pi_inv h2
    split at h3
    · cases h3
    · rename_i hne
      cases h3
      exact lv_irem hx hb hd hne (kk A hl)
  | ineg =>
    subst hr
    obtain ⟨x, r, rfl, h⟩ := xx_pi_inv h
    cases h
    exact lv_ineg hx hb hd (kk A hl)
  | lneg =>
    subst hr
    obtain ⟨x, r, rfl, h⟩ := xx_pl_inv h
    cases h
    exact lv_lneg hx hb hd (kk A hl)
  | ladd =>
    subst hr
    obtain ⟨y, r, rfl, h⟩ := xx_pl_inv h
    obtain ⟨x, r, rfl, h⟩ := xx_pl_inv h
    cases h
    exact lv_ladd hx hb hd (kk A hl)
  | lsub =>
    subst hr
    obtain ⟨y, r, rfl, h⟩ := xx_pl_inv h
    obtain ⟨x, r, rfl, h⟩ := xx_pl_inv h
    cases h
    exact lv_lsub hx hb hd (kk A hl)
  | lmul =>
    subst hr
    obtain ⟨y, r, rfl, h⟩ := xx_pl_inv h
    obtain ⟨x, r, rfl, h⟩ := xx_pl_inv h
    cases h
    exact lv_lmul hx hb hd (kk A hl)
  | land =>
    subst hr
    obtain ⟨y, r, rfl, h⟩ := xx_pl_inv h
    obtain ⟨x, r, rfl, h⟩ := xx_pl_inv h
    cases h
    exact lv_land hx hb hd (kk A hl)
  | lor =>
    subst hr
    obtain ⟨y, r, rfl, h⟩ := xx_pl_inv h
    obtain ⟨x, r, rfl, h⟩ := xx_pl_inv h
    cases h
    exact lv_lor hx hb hd (kk A hl)
  | lxor =>
    subst hr
    obtain ⟨y, r, rfl, h⟩ := xx_pl_inv h
    obtain ⟨x, r, rfl, h⟩ := xx_pl_inv h
    cases h
    exact lv_lxor hx hb hd (kk A hl)
  | ldiv =>
    subst hr
    obtain ⟨y, r, rfl, h2⟩ := xx_pl_inv h
    obtain ⟨x, r, rfl, h3⟩ := xx_pl_inv h2
    split at h3
    · cases h3
    · rename_i hne
      cases h3
      exact lv_ldiv hx hb hd hne (kk A hl)
  | lrem =>
    subst hr
    obtain ⟨y, r, rfl, h2⟩ := xx_pl_inv h
    obtain ⟨x, r, rfl, h3⟩ := xx_pl_inv h2
    split at h3
    · cases h3
    · rename_i hne
      cases h3
      exact lv_lrem hx hb hd hne (kk A hl)
  | lshl =>
    subst hr
    obtain ⟨y, r, rfl, h⟩ := xx_pi_inv h
    obtain ⟨x, r, rfl, h⟩ := xx_pl_inv h
    cases h
    exact lv_lshl hx hb hd rfl (kk A hl)
  | lshr =>
    subst hr
    obtain ⟨y, r, rfl, h⟩ := xx_pi_inv h
    obtain ⟨x, r, rfl, h⟩ := xx_pl_inv h
    cases h
    exact lv_lshr hx hb hd rfl (kk A hl)
  | lushr =>
    subst hr
    obtain ⟨y, r, rfl, h⟩ := xx_pi_inv h
    obtain ⟨x, r, rfl, h⟩ := xx_pl_inv h
    cases h
    exact lv_lushr hx hb hd rfl (kk A hl)
  | lcmp =>
    subst hr
    obtain ⟨y, r, rfl, h⟩ := xx_pl_inv h
    obtain ⟨x, r, rfl, h⟩ := xx_pl_inv h
    cases h
    exact W.lcmp hx hb hd (kk A hl)
  | i2l =>
    subst hr
    obtain ⟨x, r, rfl, h⟩ := xx_pi_inv h
    cases h
    exact lv_i2l hx hb hd rfl (kk A hl)
  | l2i =>
    subst hr
    obtain ⟨x, r, rfl, h⟩ := xx_pl_inv h
    cases h
    exact lv_l2i hx hb hd rfl (kk A hl)
  | i2b =>
    subst hr
    obtain ⟨x, r, rfl, h⟩ := xx_pi_inv h
    cases h
    exact lv_i2b hx hb hd rfl (kk A hl)
  | i2c =>
    subst hr
    obtain ⟨x, r, rfl, h⟩ := xx_pi_inv h
    cases h
    exact lv_i2c hx hb hd rfl (kk A hl)
  | dup =>
    subst hr
    obtain ⟨v, r, rfl, hc, h⟩ := xx_pv_inv h
    cases h
    exact lv_dup hx hb hd (by rw [xx_v_cat]; exact hc) (kk A hl)
  | pop =>
    subst hr
    obtain ⟨v, r, rfl, hc, h⟩ := xx_pv_inv h
    cases h
    exact lv_pop hx hb hd (by rw [xx_v_cat]; exact hc) (kk A hl)
  | dup_x1 =>
    subst hr
    obtain ⟨v, r, rfl, hc, h⟩ := xx_pv_inv h
    obtain ⟨w, r, rfl, hc2, h⟩ := xx_pv_inv h
    cases h
    exact lv_dup_x1 hx hb hd (by rw [xx_v_cat]; exact hc) (by rw [xx_v_cat]; exact hc2) (kk A hl)
  | dup2 =>
    subst hr
    obtain ⟨v, r, rfl, hc, h⟩ := xx_pv_inv h
    obtain ⟨w, r, rfl, hc2, h⟩ := xx_pv_inv h
    cases h
    exact lv_dup2_11 hx hb hd (by rw [xx_v_cat]; exact hc) (by rw [xx_v_cat]; exact hc2) (kk A hl)
  | goto o =>
    obtain ⟨rfl, ht⟩ := hr
    cases h
    exact lv_goto hx hb hd ht (kk A hl)
  | ifCond cnd o =>
    obtain ⟨rfl, ht⟩ := hr
    obtain ⟨x, r, rfl, h⟩ := xx_pi_inv h
    cases h
    cases cnd
    · refine lv_if_eq hx hb hd ht (fun z => ?_) (fun z => ?_)
      · have hk := kk A hl
        simp only [xx_if, z, decide_true, if_true, decide_not, decide_false, Bool.not_false, not_false_eq_true, not_true_eq_false, reduceIte] at hk
        exact hk
      · have hk := kk A hl
        simp only [xx_if, z, decide_false, Bool.false_eq_true, if_false, decide_not, decide_true, Bool.not_true, not_false_eq_true, not_true_eq_false, reduceIte] at hk
        exact hk
    · refine lv_if_ne hx hb hd ht (fun z => ?_) (fun z => ?_)
      · have hk := kk A hl
        simp only [xx_if, z, decide_true, if_true, decide_not, decide_false, Bool.not_false, not_false_eq_true, not_true_eq_false, reduceIte] at hk
        exact hk
      · have hk := kk A hl
        simp only [xx_if, z, decide_false, Bool.false_eq_true, if_false, decide_not, decide_true, Bool.not_true, not_false_eq_true, not_true_eq_false, reduceIte] at hk
        exact hk
    · refine lv_if_lt hx hb hd ht (fun z => ?_) (fun z => ?_)
      · have hk := kk A hl
        simp only [xx_if, z, decide_true, if_true, decide_not, decide_false, Bool.not_false, not_false_eq_true, not_true_eq_false, reduceIte] at hk
        exact hk
      · have hk := kk A hl
        simp only [xx_if, z, decide_false, Bool.false_eq_true, if_false, decide_not, decide_true, Bool.not_true, not_false_eq_true, not_true_eq_false, reduceIte] at hk
        exact hk
    · refine lv_if_ge hx hb hd ht (fun z => ?_) (fun z => ?_)
      · have hk := kk A hl
        simp only [xx_if, z, decide_true, if_true, decide_not, decide_false, Bool.not_false, not_false_eq_true, not_true_eq_false, reduceIte] at hk
        exact hk
      · have hk := kk A hl
        simp only [xx_if, z, decide_false, Bool.false_eq_true, if_false, decide_not, decide_true, Bool.not_true, not_false_eq_true, not_true_eq_false, reduceIte] at hk
        exact hk
    · refine lv_if_gt hx hb hd ht (fun z => ?_) (fun z => ?_)
      · have hk := kk A hl
        simp only [xx_if, z, decide_true, if_true, decide_not, decide_false, Bool.not_false, not_false_eq_true, not_true_eq_false, reduceIte] at hk
        exact hk
      · have hk := kk A hl
        simp only [xx_if, z, decide_false, Bool.false_eq_true, if_false, decide_not, decide_true, Bool.not_true, not_false_eq_true, not_true_eq_false, reduceIte] at hk
        exact hk
    · refine lv_if_le hx hb hd ht (fun z => ?_) (fun z => ?_)
      · have hk := kk A hl
        simp only [xx_if, z, decide_true, if_true, decide_not, decide_false, Bool.not_false, not_false_eq_true, not_true_eq_false, reduceIte] at hk
        exact hk
      · have hk := kk A hl
        simp only [xx_if, z, decide_false, Bool.false_eq_true, if_false, decide_not, decide_true, Bool.not_true, not_false_eq_true, not_true_eq_false, reduceIte] at hk
        exact hk
  | if_icmp cnd o =>
    obtain ⟨rfl, ht⟩ := hr
    obtain ⟨y, r, rfl, h⟩ := xx_pi_inv h
    obtain ⟨x, r, rfl, h⟩ := xx_pi_inv h
    cases h
    cases cnd
    · refine lv_icmp_eq hx hb hd ht (fun z => ?_) (fun z => ?_)
      · have hk := kk A hl
        rw [show xx_cmp .eq x y = true from decide_eq_true z] at hk
        exact hk
      · have hk := kk A hl
        rw [show xx_cmp .eq x y = false from decide_eq_false z] at hk
        exact hk
    · refine lv_icmp_ne hx hb hd ht (fun z => ?_) (fun z => ?_)
      · have hk := kk A hl
        rw [show xx_cmp .ne x y = true from decide_eq_true z] at hk
        exact hk
      · have hk := kk A hl
        rw [show xx_cmp .ne x y = false from decide_eq_false (fun n => n z)] at hk
        exact hk
    · refine lv_icmp_lt hx hb hd ht (fun z => ?_) (fun z => ?_)
      · have hk := kk A hl
        rw [show xx_cmp .lt x y = true from decide_eq_true z] at hk
        exact hk
      · have hk := kk A hl
        rw [show xx_cmp .lt x y = false from decide_eq_false z] at hk
        exact hk
    · refine lv_icmp_ge hx hb hd ht (fun z => ?_) (fun z => ?_)
      · have hk := kk A hl
        rw [show xx_cmp .ge x y = true from decide_eq_true z] at hk
        exact hk
      · have hk := kk A hl
        rw [show xx_cmp .ge x y = false from decide_eq_false z] at hk
        exact hk
    · refine lv_icmp_gt hx hb hd ht (fun z => ?_) (fun z => ?_)
      · have hk := kk A hl
        rw [show xx_cmp .gt x y = true from decide_eq_true z] at hk
        exact hk
      · have hk := kk A hl
        rw [show xx_cmp .gt x y = false from decide_eq_false z] at hk
        exact hk
    · refine lv_icmp_le hx hb hd ht (fun z => ?_) (fun z => ?_)
      · have hk := kk A hl
        rw [show xx_cmp .le x y = true from decide_eq_true z] at hk
        exact hk
      · have hk := kk A hl
        rw [show xx_cmp .le x y = false from decide_eq_false z] at hk
        exact hk
  | tableswitch d lo hi os =>
    obtain ⟨h1, h2⟩ := hr
    obtain ⟨x, r, rfl, h5⟩ := xx_pi_inv h
    split at h5
    · rename_i ho
      cases h5
      exact lv_tableOut hx hb hd ho (by omega) (kk A hl)
    · rename_i ho
      split at h5
      · rename_i o hoo
        cases h5
        have h3 := List.all_eq_true.mp h2 o (by
          rw [Array.mem_toList_iff]
          exact Array.mem_of_getElem? hoo)
        exact lv_tableIn hx hb hd (fun z => ho (Or.inl z)) (fun z => ho (Or.inr z)) hoo (by have := of_decide_eq_true h3; omega) (kk A hl)
      · cases h5
  | lookupswitch d ps =>
    obtain ⟨h1, h2, h3⟩ := hr
    obtain ⟨x, r, rfl, h⟩ := xx_pi_inv h
    cases h
    have h4 := xx_off_ge (k := x.toInt) h2 h3
    exact lv_lookup hx hb hd h1 rfl (by omega) (kk A hl)
  | _ => exact absurd h (by simp [xx_loc])
end XL
