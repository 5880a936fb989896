/-! ===== xv_: runs without fuel ===== -/
theorem xv_mono {P : xx_P} : ∀ (f d m pc : Nat) (ls : xx_L) (st : List Value) (h : xx_H) (r : Option Value × xx_H), xx_run P f d m pc ls st h = some r → ∀ f' d', f ≤ f' → d ≤ d' → xx_run P f' d' m pc ls st h = some r
  | 0, _, _, _, _, _, _, _, hr, _, _, _, _ => by cases hr
  | f + 1, d, m, pc, ls, st, h, r, hr, f', d', hf, hd => by
    obtain ⟨g, rfl⟩ : ∃ g, f' = g + 1 := ⟨f' - 1, by omega⟩
    have hfg : f ≤ g := by omega
    unfold xx_run at hr ⊢
    split at hr
    · cases hr
    · rename_i i len q nest he
      try rw [he]
      try dsimp only
      split at hr
      · rename_i pc1 ls1 st1 hloc
        try rw [hloc]
        exact xv_mono f d m _ _ _ h r hr g d' hfg hd
      · rename_i hloc
        try rw [hloc]
        try dsimp only
        split at hr
        · rename_i st1 h1 hhp
          try rw [hhp]
          exact xv_mono f d m _ _ _ h1 r hr g d' hfg hd
        · rename_i hhp
          try rw [hhp]
          try dsimp only
          split at hr
          · rename_i w hend
            try rw [hend]
            exact hr
          · rename_i hend
            try rw [hend]
            try dsimp only
            split at hr
            · rename_i st1 h1 hprm
              try rw [hprm]
              try dsimp only
              split at hr
              · cases hr
              · rename_i hd0
                rw [if_neg (by omega)]
                exact xv_mono f d m _ _ _ h1 r hr g d' hfg hd
            · rename_i hprm
              try rw [hprm]
              try dsimp only
              split at hr
              · cases hr
              · rename_i dd
                obtain ⟨de, rfl⟩ : ∃ de, d' = de + 1 := ⟨d' - 1, by omega⟩
                try dsimp only
                split at hr
                · rename_i y as st1 hcall
                  try rw [hcall]
                  try dsimp only
                  split at hr
                  · rename_i u h1 hcr
                    rw [xv_mono f dd y 0 _ [] h (u, h1) hcr g de hfg (by omega)]
                    exact xv_mono f (dd + 1) m _ _ _ h1 r hr g (de + 1) hfg hd
                  · cases hr
                · cases hr
/-- a method's body from a place on comes to its end, with a value and a heap that satisfy Q; d calls deep at most -/
def xv_X (P : xx_P) (d m pc : Nat) (ls : xx_L) (st : List Value) (h : xx_H) (Q : Option Value → xx_H → Prop) : Prop := ∃ f v h', xx_run P f d m pc ls st h = some (v, h') ∧ Q v h'
/-- a method on its arguments -/
def xv_M (P : xx_P) (d y : Nat) (as : List Value) (h : xx_H) (Q : Option Value → xx_H → Prop) : Prop := xv_X P d y 0 (xx_ent (P.1 y).2.1 as) [] h Q
/-- a piece of a body comes from one place to another, which satisfies Q -/
def xv_S (P : xx_P) (d m pc : Nat) (ls : xx_L) (st : List Value) (h : xx_H) (Q : Nat → xx_L → List Value → xx_H → Prop) : Prop := ∃ f n pc' ls' st' h', xx_seg P f (fun p => p == pc') n d m pc ls st h = some (pc', ls', st', h') ∧ Q pc' ls' st' h'
theorem xx_end_kd {i : Instr} {ret : Option FieldType} {st : List Value} {v : Option Value} (h : xx_end i ret st = some v) : xx_kd i = 2 := by
  rcases (xx_end_inv h).2 with ⟨_, _, rfl, _⟩ | ⟨_, rfl, _⟩ | ⟨_, _, rfl, _⟩ | ⟨rfl, _⟩ <;> rfl
theorem xx_call_kd {P : xx_P} {i : Instr} {q : Nat} {st : List Value} {h : xx_H} {z : Nat × List Value × List Value} (hh : xx_call P i q st h = some z) : xx_kd i = 3 := by
  obtain ⟨y, as, st'⟩ := z
  rcases (xx_call_inv hh).2.2.2.2.2.2.2 with ⟨_, rfl, _⟩ | ⟨_, _, _, _, _, _, _, ⟨rfl, _⟩ | ⟨rfl, _⟩⟩ <;> rfl
theorem xx_loc_no {i : Instr} {len q pc : Nat} {ls : xx_L} {st : List Value} (hk : xx_kd i ≠ 0) : xx_loc i len q pc ls st = none := by
  cases hz : xx_loc i len q pc ls st with
  | none => rfl
  | some z => exact absurd (xx_loc_kd hz) hk
theorem xx_hp_no {P : xx_P} {i : Instr} {q : Nat} {st : List Value} {h : xx_H} (hk : xx_kd i ≠ 1) : xx_hp P i q st h = none := by
  cases hz : xx_hp P i q st h with
  | none => rfl
  | some z => exact absurd (xx_hp_kd hz) hk
theorem xx_end_no {i : Instr} {ret : Option FieldType} {st : List Value} (hk : xx_kd i ≠ 2) : xx_end i ret st = none := by
  cases hz : xx_end i ret st with
  | none => rfl
  | some z => exact absurd (xx_end_kd hz) hk
section XV
variable {P : xx_P} {d m pc : Nat} {ls : xx_L} {st : List Value} {h : xx_H} {Q : Option Value → xx_H → Prop}
theorem xv_X.deeper {d' : Nat} (k : xv_X P d m pc ls st h Q) (hd : d ≤ d') : xv_X P d' m pc ls st h Q := by
  obtain ⟨f, v, h', hr, hq⟩ := k
  exact ⟨f, v, h', xv_mono f d m pc ls st h _ hr f d' (Nat.le_refl _) hd, hq⟩
theorem xv_X.weaken {Q' : Option Value → xx_H → Prop} (k : xv_X P d m pc ls st h Q) (hq : ∀ v h', Q v h' → Q' v h') : xv_X P d m pc ls st h Q' := by
  obtain ⟨f, v, h', hr, h1⟩ := k
  exact ⟨f, v, h', hr, hq v h' h1⟩
theorem xv_loc {i : Instr} {len q : Nat} {ns : Bool} {pc' : Nat} {ls' : xx_L} {st' : List Value} (he : (P.1 m).1 pc = some (i, len, q, ns)) (hl : xx_loc i len q pc ls st = some (pc', ls', st')) (k : xv_X P d m pc' ls' st' h Q) : xv_X P d m pc ls st h Q := by
  obtain ⟨f, v, h', hr, hq⟩ := k
  refine ⟨f + 1, v, h', ?_, hq⟩
  unfold xx_run
  rw [he]
  dsimp only
  rw [hl]
  exact hr
theorem xv_hp {i : Instr} {len q : Nat} {ns : Bool} {st' : List Value} {h1 : xx_H} (he : (P.1 m).1 pc = some (i, len, q, ns)) (hl : xx_hp P i q st h = some (st', h1)) (k : xv_X P d m (pc + len) ls st' h1 Q) : xv_X P d m pc ls st h Q := by
  obtain ⟨f, v, h', hr, hq⟩ := k
  have hk := xx_hp_kd hl
  refine ⟨f + 1, v, h', ?_, hq⟩
  unfold xx_run
  rw [he]
  dsimp only
  rw [xx_loc_no (by rw [hk]; decide)]
  dsimp only
  rw [hl]
  exact hr
theorem xv_end {i : Instr} {len q : Nat} {ns : Bool} {v : Option Value} (he : (P.1 m).1 pc = some (i, len, q, ns)) (hl : xx_end i (P.1 m).2.2.2.1 st = some v) (k : Q v h) : xv_X P d m pc ls st h Q := by
  have hk := xx_end_kd hl
  refine ⟨1, v, h, ?_, k⟩
  unfold xx_run
  rw [he]
  dsimp only
  rw [xx_loc_no (by rw [hk]; decide)]
  dsimp only
  rw [xx_hp_no (by rw [hk]; decide)]
  dsimp only
  rw [hl]
theorem xv_prm {i : Instr} {len q : Nat} {ns : Bool} {st' : List Value} {h1 : xx_H} (he : (P.1 m).1 pc = some (i, len, q, ns)) (hl : xx_prm i q st h = some (st', h1)) (k : xv_X P (d + 1) m (pc + len) ls st' h1 Q) : xv_X P (d + 1) m pc ls st h Q := by
  obtain ⟨f, v, h', hr, hq⟩ := k
  have hk := xx_prm_kd hl
  refine ⟨f + 1, v, h', ?_, hq⟩
  unfold xx_run
  rw [he]
  dsimp only
  rw [xx_loc_no (by rw [hk]; decide)]
  dsimp only
  rw [xx_hp_no (by rw [hk]; decide)]
  dsimp only
  rw [xx_end_no (by rw [hk]; decide)]
  dsimp only
  rw [hl]
  dsimp only
  rw [if_neg (Nat.succ_ne_zero d)]
  exact hr
theorem xv_call {i : Instr} {len q y : Nat} {ns : Bool} {as st' : List Value} {Q1 : Option Value → xx_H → Prop} (he : (P.1 m).1 pc = some (i, len, q, ns)) (hp : xx_prm i q st h = none) (hl : xx_call P i q st h = some (y, as, st')) (k1 : xv_M P d y as h Q1) (k : ∀ v h1, Q1 v h1 → xv_X P (d + 1) m (pc + len) ls (v.toList ++ st') h1 Q) : xv_X P (d + 1) m pc ls st h Q := by
  obtain ⟨f1, v1, h1, hr1, hq1⟩ := k1
  obtain ⟨f2, v, h', hr2, hq⟩ := k v1 h1 hq1
  have hk := xx_call_kd hl
  refine ⟨f1 + f2 + 1, v, h', ?_, hq⟩
  unfold xx_run
  rw [he]
  dsimp only
  rw [xx_loc_no (by rw [hk]; decide)]
  dsimp only
  rw [xx_hp_no (by rw [hk]; decide)]
  dsimp only
  rw [xx_end_no (by rw [hk]; decide)]
  dsimp only
  rw [hp]
  dsimp only
  rw [hl]
  dsimp only
  rw [xv_mono f1 d y 0 _ [] h _ hr1 (f1 + f2) d (by omega) (Nat.le_refl _)]
  exact xv_mono f2 (d + 1) m _ _ _ h1 _ hr2 (f1 + f2) (d + 1) (by omega) (Nat.le_refl _)
end XV
