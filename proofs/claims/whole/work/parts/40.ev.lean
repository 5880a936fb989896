/-! ===== xv_: runs without fuel ===== -/
theorem xv_mono {P : xx_P} : ∀ (f d m pc : Nat) (ls : xx_L) (st : List Value) (h : xx_H) (r : Option Value × xx_H), xx_run P f d m pc ls st h = some r → ∀ f' d', f ≤ f' → d ≤ d' → xx_run P f' d' m pc ls st h = some r
  | 0, _, _, _, _, _, _, _, hr, _, _, _, _ => by cases hr
  | f + 1, d, m, pc, ls, st, h, r, hr, f', d', hf, hd => by
    obtain ⟨g, rfl⟩ : ∃ g, f' = g + 1 := ⟨f' - 1, by omega⟩
    have hfg : f ≤ g := by omega
    unfold xx_run at hr ⊢
    split at hr
    · cases hr
    · rename_i i len q nest he
      try rw [he]
      try dsimp only
      split at hr
      · rename_i pc1 ls1 st1 hloc
        try rw [hloc]
        exact xv_mono f d m _ _ _ h r hr g d' hfg hd
      · rename_i hloc
        try rw [hloc]
        try dsimp only
        split at hr
        · rename_i st1 h1 hhp
          try rw [hhp]
          exact xv_mono f d m _ _ _ h1 r hr g d' hfg hd
        · rename_i hhp
          try rw [hhp]
          try dsimp only
          split at hr
          · rename_i w hend
            try rw [hend]
            exact hr
          · rename_i hend
            try rw [hend]
            try dsimp only
            split at hr
            · rename_i st1 h1 hprm
              try rw [hprm]
              try dsimp only
              split at hr
              · cases hr
              · rename_i hd0
                rw [if_neg (by omega)]
                exact xv_mono f d m _ _ _ h1 r hr g d' hfg hd
            · rename_i hprm
              try rw [hprm]
              try dsimp only
              split at hr
              · cases hr
              · rename_i dd
                obtain ⟨de, rfl⟩ : ∃ de, d' = de + 1 := ⟨d' - 1, by omega⟩
                try dsimp only
                split at hr
                · rename_i y as st1 hcall
                  try rw [hcall]
                  try dsimp only
                  split at hr
                  · rename_i u h1 hcr
                    rw [xv_mono f dd y 0 _ [] h (u, h1) hcr g de hfg (by omega)]
                    exact xv_mono f (dd + 1) m _ _ _ h1 r hr g (de + 1) hfg hd
                  · cases hr
                · cases hr
/-- n steps of the top frame -/
def xx_steps (P : xx_P) (f : Nat) : Nat → Nat → Nat → Nat → xx_L → List Value → xx_H → Option (Nat × xx_L × List Value × xx_H)
  | 0, _, _, pc, ls, st, h => some (pc, ls, st, h)
  | n + 1, d, m, pc, ls, st, h => match xx_one P f d m pc ls st h with
    | none => none
    | some (pc', ls', st', h') => xx_steps P f n d m pc' ls' st' h'
theorem xx_end_kd {i : Instr} {ret : Option FieldType} {st : List Value} {v : Option Value} (h : xx_end i ret st = some v) : xx_kd i = 2 := by
  rcases (xx_end_inv h).2 with ⟨_, _, rfl, _⟩ | ⟨_, rfl, _⟩ | ⟨_, _, rfl, _⟩ | ⟨rfl, _⟩ <;> rfl
theorem xx_call_kd {P : xx_P} {i : Instr} {q : Nat} {st : List Value} {h : xx_H} {z : Nat × List Value × List Value} (hh : xx_call P i q st h = some z) : xx_kd i = 3 := by
  obtain ⟨y, as, st'⟩ := z
  rcases (xx_call_inv hh).2.2.2.2.2.2.2 with ⟨_, rfl, _⟩ | ⟨_, _, _, _, _, _, _, ⟨rfl, _⟩ | ⟨rfl, _⟩⟩ | ⟨_, _, _, rfl, _⟩ <;> rfl
theorem xx_loc_no {i : Instr} {len q pc : Nat} {ls : xx_L} {st : List Value} (hk : xx_kd i ≠ 0) : xx_loc i len q pc ls st = none := by
  cases hz : xx_loc i len q pc ls st with
  | none => rfl
  | some z => exact absurd (xx_loc_kd hz) hk
theorem xx_hp_no {P : xx_P} {i : Instr} {q : Nat} {st : List Value} {h : xx_H} (hk : xx_kd i ≠ 1) : xx_hp P i q st h = none := by
  cases hz : xx_hp P i q st h with
  | none => rfl
  | some z => exact absurd (xx_hp_kd hz) hk
theorem xx_end_no {i : Instr} {ret : Option FieldType} {st : List Value} (hk : xx_kd i ≠ 2) : xx_end i ret st = none := by
  cases hz : xx_end i ret st with
  | none => rfl
  | some z => exact absurd (xx_end_kd hz) hk
theorem xx_one_mono {P : xx_P} {f f' d d' m pc : Nat} {ls : xx_L} {st : List Value} {h : xx_H} {z : Nat × xx_L × List Value × xx_H} (hr : xx_one P f d m pc ls st h = some z) (hf : f ≤ f') (hd : d ≤ d') : xx_one P f' d' m pc ls st h = some z := by
  unfold xx_one at hr ⊢
  split at hr
  · cases hr
  · rename_i i len q nest he
    try rw [he]
    try dsimp only
    split at hr
    · rename_i pc1 ls1 st1 hloc
      try rw [hloc]
      exact hr
    · rename_i hloc
      try rw [hloc]
      try dsimp only
      split at hr
      · rename_i st1 h1 hhp
        try rw [hhp]
        exact hr
      · rename_i hhp
        try rw [hhp]
        try dsimp only
        split at hr
        · rename_i st1 h1 hprm
          try rw [hprm]
          try dsimp only
          split at hr
          · cases hr
          · rename_i hd0
            rw [if_neg (by omega)]
            exact hr
        · rename_i hprm
          try rw [hprm]
          try dsimp only
          split at hr
          · cases hr
          · rename_i dd
            obtain ⟨de, rfl⟩ : ∃ de, d' = de + 1 := ⟨d' - 1, by omega⟩
            try dsimp only
            split at hr
            · rename_i y as st1 hcall
              try rw [hcall]
              try dsimp only
              split at hr
              · rename_i u h1 hcr
                rw [xv_mono f dd y 0 _ [] h (u, h1) hcr f' de hf (by omega)]
                exact hr
              · cases hr
            · cases hr
theorem xx_steps_mono {P : xx_P} {f f' : Nat} (hf : f ≤ f') : ∀ {n d d' m pc : Nat} {ls : xx_L} {st : List Value} {h : xx_H} {z : Nat × xx_L × List Value × xx_H}, xx_steps P f n d m pc ls st h = some z → d ≤ d' → xx_steps P f' n d' m pc ls st h = some z
  | 0, _, _, _, _, _, _, _, _, hr, _ => hr
  | n + 1, d, d', m, pc, ls, st, h, z, hr, hd => by
    unfold xx_steps at hr ⊢
    split at hr
    · cases hr
    · rename_i pc1 ls1 st1 h1 h1e
      rw [xx_one_mono h1e hf hd]
      exact xx_steps_mono hf hr hd
/-- a piece of a body comes from a place to another one, which satisfies K; d calls deep at most -/
def xv_T (P : xx_P) (d m pc : Nat) (ls : xx_L) (st : List Value) (h : xx_H) (K : Nat → xx_L → List Value → xx_H → Prop) : Prop := ∃ f n pc' ls' st' h', xx_steps P f n d m pc ls st h = some (pc', ls', st', h') ∧ K pc' ls' st' h'
/-- an end: the method hands v back, and Q -/
def xv_E (P : xx_P) (m : Nat) (Q : Option Value → xx_H → Prop) : Nat → xx_L → List Value → xx_H → Prop := fun pc _ st h => ∃ e v, (P.1 m).1 pc = some e ∧ xx_end e.1 (P.1 m).2.2.2.1 st = some v ∧ Q v h
/-- a method's body from a place on comes to its end, with a value and a heap that satisfy Q -/
abbrev xv_X (P : xx_P) (d m pc : Nat) (ls : xx_L) (st : List Value) (h : xx_H) (Q : Option Value → xx_H → Prop) : Prop := xv_T P d m pc ls st h (xv_E P m Q)
/-- a method on its arguments -/
def xv_M (P : xx_P) (d y : Nat) (as : List Value) (h : xx_H) (Q : Option Value → xx_H → Prop) : Prop := xv_X P d y 0 (xx_ent (P.1 y).2.1 as) [] h Q
theorem xx_one_run {P : xx_P} {f d m pc pc' : Nat} {ls ls' : xx_L} {st st' : List Value} {h h' : xx_H} {r : Option Value × xx_H} (h1 : xx_one P f d m pc ls st h = some (pc', ls', st', h')) (h2 : xx_run P f d m pc' ls' st' h' = some r) : xx_run P (f + 1) d m pc ls st h = some r := by
  unfold xx_one at h1
  unfold xx_run
  split at h1
  · cases h1
  · rename_i i len q nest he
    try rw [he]
    try dsimp only
    split at h1
    · rename_i pc1 ls1 st1 hloc
      try rw [hloc]
      cases h1
      exact h2
    · rename_i hloc
      try rw [hloc]
      try dsimp only
      split at h1
      · rename_i st1 hh1 hhp
        try rw [hhp]
        cases h1
        exact h2
      · rename_i hhp
        try rw [hhp]
        try dsimp only
        split at h1
        · rename_i st1 hh1 hprm
          rw [xx_end_no (by rw [xx_prm_kd hprm]; decide)]
          try dsimp only
          try rw [hprm]
          try dsimp only
          split at h1
          · cases h1
          · rename_i hd0
            rw [if_neg hd0]
            cases h1
            exact h2
        · rename_i hprm
          split at h1
          · cases h1
          · rename_i dd
            split at h1
            · rename_i y as st1 hcall
              rw [xx_end_no (by rw [xx_call_kd hcall]; decide)]
              try dsimp only
              try rw [hprm]
              try dsimp only
              try rw [hcall]
              try dsimp only
              split at h1
              · rename_i u hh1 hcr
                try rw [hcr]
                cases h1
                exact h2
              · cases h1
            · cases h1
theorem xx_steps_run {P : xx_P} {f : Nat} : ∀ {n d m pc pc' : Nat} {ls ls' : xx_L} {st st' : List Value} {h h' : xx_H} {e : xx_I} {v : Option Value}, xx_steps P f n d m pc ls st h = some (pc', ls', st', h') → (P.1 m).1 pc' = some e → xx_end e.1 (P.1 m).2.2.2.1 st' = some v → xx_run P (f + n + 1) d m pc ls st h = some (v, h')
  | 0, d, m, pc, pc', ls, ls', st, st', h, h', e, v, hr, he, hv => by
    cases hr
    have hk := xx_end_kd hv
    obtain ⟨i, len, q, ns⟩ := e
    unfold xx_run
    rw [he]
    dsimp only
    rw [xx_loc_no (by rw [hk]; decide)]
    dsimp only
    rw [xx_hp_no (by rw [hk]; decide)]
    dsimp only
    rw [hv]
  | n + 1, d, m, pc, pc', ls, ls', st, st', h, h', e, v, hr, he, hv => by
    unfold xx_steps at hr
    split at hr
    · cases hr
    · rename_i pc1 ls1 st1 h1 h1e
      exact xx_one_run (xx_one_mono h1e (by omega) (Nat.le_refl _)) (xx_steps_run hr he hv)
section XV
variable {P : xx_P} {d m pc : Nat} {ls : xx_L} {st : List Value} {h : xx_H} {Q : Option Value → xx_H → Prop} {K : Nat → xx_L → List Value → xx_H → Prop}
theorem xv_run (k : xv_X P d m pc ls st h Q) : ∃ f v h', xx_run P f d m pc ls st h = some (v, h') ∧ Q v h' := by
  obtain ⟨f, n, pc', ls', st', h', hr, e, v, he, hv, hq⟩ := k
  exact ⟨f + n + 1, v, h', xx_steps_run hr he hv, hq⟩
theorem xv_T.deeper {d' : Nat} (k : xv_T P d m pc ls st h K) (hd : d ≤ d') : xv_T P d' m pc ls st h K := by
  obtain ⟨f, n, pc', ls', st', h', hr, hq⟩ := k
  exact ⟨f, n, pc', ls', st', h', xx_steps_mono (Nat.le_refl _) hr hd, hq⟩
theorem xv_T.weaken {K' : Nat → xx_L → List Value → xx_H → Prop} (k : xv_T P d m pc ls st h K) (hq : ∀ pc ls st h', K pc ls st h' → K' pc ls st h') : xv_T P d m pc ls st h K' := by
  obtain ⟨f, n, pc', ls', st', h', hr, h1⟩ := k
  exact ⟨f, n, pc', ls', st', h', hr, hq _ _ _ _ h1⟩
theorem xv_X.weaken {Q' : Option Value → xx_H → Prop} (k : xv_X P d m pc ls st h Q) (hq : ∀ v h', Q v h' → Q' v h') : xv_X P d m pc ls st h Q' := xv_T.weaken k (fun _ _ _ _ ⟨e, v, he, hv, h1⟩ => ⟨e, v, he, hv, hq _ _ h1⟩)
theorem xv_M.weaken {y : Nat} {as : List Value} {Q' : Option Value → xx_H → Prop} (k : xv_M P d y as h Q) (hq : ∀ v h', Q v h' → Q' v h') : xv_M P d y as h Q' := xv_X.weaken k hq
theorem xv_M.deeper {d' y : Nat} {as : List Value} (k : xv_M P d y as h Q) (hd : d ≤ d') : xv_M P d' y as h Q := xv_T.deeper k hd
theorem xv_here (k : K pc ls st h) : xv_T P d m pc ls st h K := ⟨0, 0, pc, ls, st, h, rfl, k⟩
theorem xv_step {f pc' : Nat} {ls' : xx_L} {st' : List Value} {h1 : xx_H} (ho : xx_one P f d m pc ls st h = some (pc', ls', st', h1)) (k : xv_T P d m pc' ls' st' h1 K) : xv_T P d m pc ls st h K := by
  obtain ⟨g, n, pc2, ls2, st2, h2, hr, hq⟩ := k
  refine ⟨f + g, n + 1, pc2, ls2, st2, h2, ?_, hq⟩
  unfold xx_steps
  rw [xx_one_mono ho (Nat.le_add_right f g) (Nat.le_refl _)]
  exact xx_steps_mono (by omega) hr (Nat.le_refl _)
theorem xv_loc {i : Instr} {len q : Nat} {ns : Bool} {pc' : Nat} {ls' : xx_L} {st' : List Value} (he : (P.1 m).1 pc = some (i, len, q, ns)) (hl : xx_loc i len q pc ls st = some (pc', ls', st')) (k : xv_T P d m pc' ls' st' h K) : xv_T P d m pc ls st h K := by
  refine xv_step (f := 0) ?_ k
  unfold xx_one
  rw [he]
  dsimp only
  rw [hl]
theorem xv_hp {i : Instr} {len q : Nat} {ns : Bool} {st' : List Value} {h1 : xx_H} (he : (P.1 m).1 pc = some (i, len, q, ns)) (hl : xx_hp P i q st h = some (st', h1)) (k : xv_T P d m (pc + len) ls st' h1 K) : xv_T P d m pc ls st h K := by
  refine xv_step (f := 0) ?_ k
  unfold xx_one
  rw [he]
  dsimp only
  rw [xx_loc_no (by rw [xx_hp_kd hl]; decide)]
  dsimp only
  rw [hl]
theorem xv_end {i : Instr} {len q : Nat} {ns : Bool} {v : Option Value} (he : (P.1 m).1 pc = some (i, len, q, ns)) (hl : xx_end i (P.1 m).2.2.2.1 st = some v) (k : Q v h) : xv_X P d m pc ls st h Q := xv_here ⟨_, v, he, hl, k⟩
theorem xv_prm {i : Instr} {len q : Nat} {ns : Bool} {st' : List Value} {h1 : xx_H} (he : (P.1 m).1 pc = some (i, len, q, ns)) (hl : xx_prm i q st h = some (st', h1)) (k : xv_T P (d + 1) m (pc + len) ls st' h1 K) : xv_T P (d + 1) m pc ls st h K := by
  refine xv_step (f := 0) ?_ k
  have hk := xx_prm_kd hl
  unfold xx_one
  rw [he]
  dsimp only
  rw [xx_loc_no (by rw [hk]; decide)]
  dsimp only
  rw [xx_hp_no (by rw [hk]; decide)]
  dsimp only
  rw [hl]
  dsimp only
  rw [if_neg (Nat.succ_ne_zero d)]
theorem xv_call {i : Instr} {len q y : Nat} {ns : Bool} {as st' : List Value} {Q1 : Option Value → xx_H → Prop} (he : (P.1 m).1 pc = some (i, len, q, ns)) (hp : xx_prm i q st h = none) (hl : xx_call P i q st h = some (y, as, st')) (k1 : xv_M P d y as h Q1) (k : ∀ v h1, Q1 v h1 → xv_T P (d + 1) m (pc + len) ls (v.toList ++ st') h1 K) : xv_T P (d + 1) m pc ls st h K := by
  obtain ⟨f1, v1, h1, hr1, hq1⟩ := xv_run k1
  have hk := xx_call_kd hl
  refine xv_step (f := f1) ?_ (k v1 h1 hq1)
  unfold xx_one
  rw [he]
  dsimp only
  rw [xx_loc_no (by rw [hk]; decide)]
  dsimp only
  rw [xx_hp_no (by rw [hk]; decide)]
  dsimp only
  rw [hp]
  dsimp only
  rw [hl]
  dsimp only
  rw [hr1]
end XV
