/-! ===== xv_: a run without the script doesn't hang on the script ===== -/
theorem xx_hp_ind {M : Nat → xx_M} {F : Nat → List FieldType} {X Y : List Int32} {i : Instr} {q : Nat} {st : List Value} {h : xx_H} {z : List Value × xx_H} (hs : ∀ v ∈ st, xx_sc v = false) (hh : xx_hp (M, F, X) i q st h = some z) : xx_hp (M, F, Y) i q st h = some z := by
  cases i with
  | arraylength =>
    cases st with
    | nil => exact hh
    | cons v r =>
      cases v with
      | retAddr a =>
        cases a with
        | zero => exact absurd (hs _ List.mem_cons_self) (by simp [xx_sc])
        | succ a => exact hh
      | _ => exact hh
  | iaload =>
    cases st with
    | nil => exact hh
    | cons v r =>
      cases v with
      | int x =>
        cases r with
        | nil => exact hh
        | cons w r =>
          cases w with
          | retAddr a =>
            cases a with
            | zero => exact absurd (hs _ (List.mem_cons_of_mem _ List.mem_cons_self)) (by simp [xx_sc])
            | succ a => exact hh
          | _ => exact hh
      | _ => exact hh
  | _ => exact hh
theorem xx_sc_no {n : Nat} {v : Value} (h : xx_okv n false v) : xx_sc v = false := by
  cases v with
  | retAddr a =>
    cases a with
    | zero => exact absurd (h rfl) (by decide)
    | succ a => rfl
  | _ => rfl
theorem xv_ind {M : Nat → xx_M} {F : Nat → List FieldType} {X Y : List Int32} : ∀ (f d m pc : Nat) (ls : xx_L) (st : List Value) (h : xx_H) (r : Option Value × xx_H), xx_run (M, F, X) f d m pc ls st h = some r → xx_okh h → xx_oks h.length false st → xx_okl h.length false ls → xx_run (M, F, Y) f d m pc ls st h = some r
  | 0, _, _, _, _, _, _, _, hr, _, _, _ => by cases hr
  | f + 1, d, m, pc, ls, st, h, r, hr, ho, hs, hl => by
    unfold xx_run at hr ⊢
    split at hr
    · cases hr
    · rename_i i len q nest he
      have he2 : ((M, F, Y) : xx_P).1 m = ((M, F, X) : xx_P).1 m := rfl
      rw [he2, he]
      dsimp only
      split at hr
      · rename_i pc1 ls1 st1 hloc
        try rw [hloc]
        obtain ⟨g1, g2⟩ := xx_loc_kp hl hs hloc
        exact xv_ind f d m _ _ _ h r hr ho g2 g1
      · rename_i hloc
        try rw [hloc]
        try dsimp only
        split at hr
        · rename_i st1 h1 hhp
          rw [xx_hp_ind (Y := Y) (fun v hv => xx_sc_no (hs v hv)) hhp]
          obtain ⟨g1, g2, g3, g4⟩ := xx_hp_kp ho hs hhp
          exact xv_ind f d m _ _ _ h1 r hr g1 g2 (hl.mono g3)
        · rename_i hhp
          have hhp2 : xx_hp (M, F, Y) i q st h = none := by
            cases hz : xx_hp (M, F, Y) i q st h with
            | none => rfl
            | some z =>
              rw [xx_hp_ind (Y := X) (fun v hv => xx_sc_no (hs v hv)) hz] at hhp
              cases hhp
          rw [hhp2]
          try dsimp only
          split at hr
          · rename_i w hend
            try rw [hend]
            exact hr
          · rename_i hend
            try rw [hend]
            try dsimp only
            split at hr
            · rename_i st1 h1 hprm
              try rw [hprm]
              try dsimp only
              split at hr
              · cases hr
              · rename_i hd0
                rw [if_neg hd0]
                obtain ⟨g1, g2, g3, g4⟩ := xx_prm_kp ho hs hprm
                exact xv_ind f d m _ _ _ h1 r hr g1 g2 (hl.mono g3)
            · rename_i hprm
              try rw [hprm]
              try dsimp only
              split at hr
              · cases hr
              · rename_i dd
                try dsimp only
                split at hr
                · rename_i y as st1 hcall
                  have hcall2 : xx_call (M, F, Y) i q st h = some (y, as, st1) := hcall
                  rw [hcall2]
                  try dsimp only
                  split at hr
                  · rename_i u h1 hcr
                    obtain ⟨rfl, -, e1, -, -, e2, -, -⟩ := xx_call_inv hcall
                    have hs' : xx_oks h.length false st1 := fun w hw => hs w (by rw [e1]; exact List.mem_append_right _ hw)
                    have ha : ∀ w ∈ as, xx_okv h.length false w := fun w hw => xx_okv_ns (hs w (by rw [e1]; exact List.mem_append_left _ (List.mem_reverse.mpr hw))) (e2 w hw)
                    obtain ⟨g1, g2, g3, g4⟩ := xx_run_kp f dd _ 0 _ [] h u h1 false hcr ho (fun w hw => by cases hw) (fun w hw => ha w (xx_ent_mem hw))
                    have hs2 : xx_oks h1.length false (u.toList ++ st1) := fun w hw => by
                      rcases List.mem_append.mp hw with z | z
                      · cases u with
                        | none => cases z
                        | some u =>
                          cases List.mem_singleton.mp z
                          exact g4 _ rfl
                      · exact (hs' w z).mono g2
                    have hcr2 := xv_ind (Y := Y) f dd _ 0 _ [] h (u, h1) hcr ho (fun w hw => by cases hw) (fun w hw => ha w (xx_ent_mem hw))
                    have hcr3 : xx_run (M, F, Y) f dd y 0 (xx_ent (((M, F, Y) : xx_P).1 y).2.1 as) [] h = some (u, h1) := hcr2
                    rw [hcr3]
                    exact xv_ind f (dd + 1) m _ _ _ h1 r hr g1 hs2 (hl.mono g2)
                  · cases hr
                · cases hr
