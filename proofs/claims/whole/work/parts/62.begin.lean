/-! ===== xl_: the law's beginning: the two objects and the row are made, the loop's head is come to ===== -/
theorem xv_of_run {P : xx_P} : ∀ (f d m pc : Nat) (ls : xx_L) (st : List Value) (h : xx_H) (v : Option Value) (h' : xx_H), xx_run P f d m pc ls st h = some (v, h') → xv_X P d m pc ls st h (fun w k => w = v ∧ k = h')
  | 0, _, _, _, _, _, _, _, _, hr => by cases hr
  | f + 1, d, m, pc, ls, st, h, v, h', hr => by
    unfold xx_run at hr
    split at hr
    · cases hr
    · rename_i i len q nest he
      split at hr
      · rename_i pc1 ls1 st1 hloc
        exact xv_loc he hloc (xv_of_run f d m _ _ _ h v h' hr)
      · split at hr
        · rename_i st1 h1 hhp
          exact xv_hp he hhp (xv_of_run f d m _ _ _ h1 v h' hr)
        · split at hr
          · rename_i w hend
            cases hr
            exact xv_end he hend ⟨rfl, rfl⟩
          · split at hr
            · rename_i st1 h1 hprm
              split at hr
              · cases hr
              · rename_i hd0
                obtain ⟨de, rfl⟩ : ∃ de, d = de + 1 := ⟨d - 1, by omega⟩
                exact xv_prm he hprm (xv_of_run f (de + 1) m _ _ _ h1 v h' hr)
            · rename_i hprm
              split at hr
              · cases hr
              · rename_i dd
                split at hr
                · rename_i y as st1 hcall
                  split at hr
                  · rename_i u h1 hcr
                    exact xv_call he hprm hcall (xv_of_run f dd y 0 _ [] h u h1 hcr) (fun v1 k1 hk => by
                      obtain ⟨rfl, rfl⟩ := hk
                      exact xv_of_run f (dd + 1) m _ _ _ _ v h' hr)
                  · cases hr
                · cases hr
/-- DiagramOdds() on a fresh heap -/
theorem xl_X {xs : List Int32} : xv_M (xt_P xs) 6 119 [.ref 0] xc_x0 (fun w k => w = none ∧ k = xc_x) := by
  refine xv_of_run 3000 6 119 0 _ [] xc_x0 none xc_x (xv_ind (X := []) 3000 6 119 0 _ [] xc_x0 (none, xc_x) xc_X ?_ (fun w hw => by cases hw) ?_)
  · intro e he
    have he := List.mem_singleton.mp he
    subst he
    intro v hv
    simp only [List.mem_cons, List.not_mem_nil, or_false] at hv
    rcases hv with rfl | rfl | rfl | rfl | rfl | rfl | rfl | rfl | rfl | rfl | rfl <;> trivial
  · intro v hv
    have h1 := xx_ent_mem hv
    cases List.mem_singleton.mp h1
    show 0 < xc_x0.length
    decide
/-- the heap when the loop begins -/
def xl_h : xx_H := xc_x ++ (xc_ms 179 ++ [.inl (2, .inr (.inl [0]))])
def xl_l (i : Int32) : xx_L := [some (.retAddr 0), some (.ref 0), some (.ref 179), some (.ref 202), some (.int i), none, none]
theorem xl_xlen : xc_x.length = 179 := by decide +kernel
set_option maxRecDepth 100000 in
theorem xl_begin {xs : List Int32} : xv_T (xt_P xs) 7 xe_L 0 (xx_ent 7 [.retAddr 0]) [] [] (fun pc ls st h => pc = 23 ∧ ls = xl_l 0 ∧ st = [] ∧ h = xl_h) := by
  refine xv_hp (i := .new 8) (len := 3) (q := 7) (ns := false) rfl (st' := [.ref 0]) (h1 := xc_x0) rfl ?_
  refine xv_loc (i := .dup) (len := 1) (q := 0) (ns := false) rfl rfl ?_
  refine xv_cI (k := 27) (as := []) (a := 0) (c := 7) (rest := [.ref 0]) (len := 3) (q := 119) (ns := false) rfl rfl rfl (by decide) (by decide) rfl (show (1 : Nat) ≤ 1 by decide) (fs := [.null, .null, .null, .null, .null, .null, .int 0, .int 0, .int 0, .long 0, .long 0]) rfl (show (8 : Nat) ≠ 0 by decide) xl_X ?_
  rintro _ _ ⟨rfl, rfl⟩
  refine xv_loc (i := .astore_n 1) (len := 1) (q := 0) (ns := false) rfl (pc' := 8) (ls' := [some (.retAddr 0), some (.ref 0), none, none, none, none, none]) (st' := []) rfl ?_
  refine xv_hp (i := .new 28) (len := 3) (q := 8) (ns := false) rfl (st' := [.ref xc_x.length]) (h1 := xc_x ++ [xc_mo]) rfl ?_
  refine xv_loc (i := .dup) (len := 1) (q := 0) (ns := false) rfl (pc' := 12) (ls' := [some (.retAddr 0), some (.ref 0), none, none, none, none, none]) (st' := [.ref xc_x.length, .ref xc_x.length]) rfl ?_
  have hmo : (xc_x ++ [xc_mo])[xc_x.length]? = some xc_mo := by rw [List.getElem?_append_right (Nat.le_refl _), Nat.sub_self]; rfl
  refine xv_cI (k := 30) (as := []) (a := xc_x.length) (c := 8) (rest := [.ref xc_x.length]) (len := 3) (q := 160) (ns := false) rfl rfl rfl (by decide) (by simp [Value.category]) rfl (show (1 : Nat) ≤ 1 by decide) hmo (show (9 : Nat) ≠ 0 by decide) (xc_M (d := 5)) ?_
  rintro _ _ ⟨rfl, rfl⟩
  rw [xl_xlen]
  refine xv_loc (i := .astore_n 2) (len := 1) (q := 0) (ns := false) rfl (pc' := 16) (ls' := [some (.retAddr 0), some (.ref 0), some (.ref 179), none, none, none, none]) (st' := []) rfl ?_
  refine xv_loc (i := .iconst 1) (len := 1) (q := 0) (ns := false) rfl (pc' := 17) (ls' := [some (.retAddr 0), some (.ref 0), some (.ref 179), none, none, none, none]) (st' := [.int 1]) rfl ?_
  have hlen : (xc_x ++ xc_ms 179).length = 202 := by rw [List.length_append, xl_xlen]; rfl
  refine xv_hp (i := .newarray .long) (len := 2) (q := 0) (ns := false) rfl (st' := [.ref 202]) (h1 := xl_h) ?_ ?_
  · show (if (1 : Int32) < 0 ∨ 1000000 < (1 : Int32).toNatClampNeg then none else (xx_new .long (1 : Int32).toNatClampNeg).bind fun c => some ([Value.ref (xc_x ++ xc_ms 179).length], (xc_x ++ xc_ms 179) ++ [c])) = _
    rw [if_neg (by decide), hlen]
    show some ([Value.ref 202], (xc_x ++ xc_ms 179) ++ [.inl (2, .inr (.inl [0]))]) = _
    rw [List.append_assoc]
    rfl
  refine xv_loc (i := .astore_n 3) (len := 1) (q := 0) (ns := false) rfl (pc' := 20) (ls' := [some (.retAddr 0), some (.ref 0), some (.ref 179), some (.ref 202), none, none, none]) (st' := []) rfl ?_
  refine xv_loc (i := .iconst 0) (len := 1) (q := 0) (ns := false) rfl (pc' := 21) (ls' := [some (.retAddr 0), some (.ref 0), some (.ref 179), some (.ref 202), none, none, none]) (st' := [.int 0]) rfl ?_
  refine xv_loc (i := .istore 4) (len := 2) (q := 0) (ns := false) rfl (pc' := 23) (ls' := xl_l 0) (st' := []) rfl ?_
  exact xv_here ⟨rfl, rfl, rfl, rfl⟩
