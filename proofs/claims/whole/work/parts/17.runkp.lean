/-! ===== xx_: whole runs keep heaps well ===== -/
theorem xx_cpy_len {α : Type} {f g : List α} {sp dp n : Nat} (h1 : sp + n ≤ f.length) (h2 : dp + n ≤ g.length) : (xx_cpy f g sp dp n).length = g.length := by
  unfold xx_cpy
  simp only [List.length_append, List.length_take, List.length_drop]
  omega
theorem xx_ac_inv {st st' : List Value} {h h' : xx_H} (hh : xx_ac st h = some (st', h')) : ∃ n dp a sp a0, st = .int n :: .int dp :: .ref a :: .int sp :: .ref a0 :: st' ∧ ¬ n < 0 ∧ ¬ dp < 0 ∧ ¬ sp < 0 ∧ (st'.map Value.category).sum ≤ 8 ∧
    ((∃ f g, h[a0]? = some (.inl (0, .inl f)) ∧ h[a]? = some (.inl (0, .inl g)) ∧ sp.toNatClampNeg + n.toNatClampNeg ≤ f.length ∧ dp.toNatClampNeg + n.toNatClampNeg ≤ g.length ∧ h' = h.set a (.inl (0, .inl (xx_cpy f g sp.toNatClampNeg dp.toNatClampNeg n.toNatClampNeg)))) ∨
     (∃ f g, h[a0]? = some (.inl (2, .inr (.inl f))) ∧ h[a]? = some (.inl (2, .inr (.inl g))) ∧ sp.toNatClampNeg + n.toNatClampNeg ≤ f.length ∧ dp.toNatClampNeg + n.toNatClampNeg ≤ g.length ∧ h' = h.set a (.inl (2, .inr (.inl (xx_cpy f g sp.toNatClampNeg dp.toNatClampNeg n.toNatClampNeg))))) ∨
     (∃ f g, h[a0]? = some (.inl (3, .inl f)) ∧ h[a]? = some (.inl (3, .inl g)) ∧ sp.toNatClampNeg + n.toNatClampNeg ≤ f.length ∧ dp.toNatClampNeg + n.toNatClampNeg ≤ g.length ∧ (f.all fun x => fits .byte (.int x)) = true ∧ h' = h.set a (.inl (3, .inl (xx_cpy f g sp.toNatClampNeg dp.toNatClampNeg n.toNatClampNeg))))) := by
  unfold xx_ac at hh
  obtain ⟨n, r, rfl, h1⟩ := xx_pi_inv hh
  obtain ⟨dp, r, rfl, h2⟩ := xx_pi_inv h1
  obtain ⟨a, r, rfl, h3⟩ := xx_pr_inv h2
  obtain ⟨sp, r, rfl, h4⟩ := xx_pi_inv h3
  obtain ⟨a0, r, rfl, h5⟩ := xx_pr_inv h4
  split at h5
  · cases h5
  · rename_i hn
    obtain ⟨t0, c0, hg0, h6⟩ := xx_ar_inv h5
    obtain ⟨t, c, hg, h7⟩ := xx_ar_inv h6
    split at h7
    · rename_i ht
      obtain ⟨rfl, rfl⟩ := ht
      obtain ⟨f, rfl, h8⟩ := xx_int_inv h7
      obtain ⟨g, rfl, h9⟩ := xx_int_inv h8
      split at h9
      · rename_i hz
        cases h9
        exact ⟨n, dp, a, sp, a0, rfl, fun z => hn (Or.inl z), fun z => hn (Or.inr (Or.inl z)), fun z => hn (Or.inr (Or.inr (Or.inl z))), Nat.le_of_not_lt (fun z => hn (Or.inr (Or.inr (Or.inr z)))), Or.inl ⟨f, g, hg0, hg, hz.1, hz.2, rfl⟩⟩
      · cases h9
    · split at h7
      · rename_i ht
        obtain ⟨rfl, rfl⟩ := ht
        obtain ⟨f, rfl, h8⟩ := xx_lng_inv h7
        obtain ⟨g, rfl, h9⟩ := xx_lng_inv h8
        split at h9
        · rename_i hz
          cases h9
          exact ⟨n, dp, a, sp, a0, rfl, fun z => hn (Or.inl z), fun z => hn (Or.inr (Or.inl z)), fun z => hn (Or.inr (Or.inr (Or.inl z))), Nat.le_of_not_lt (fun z => hn (Or.inr (Or.inr (Or.inr z)))), Or.inr (Or.inl ⟨f, g, hg0, hg, hz.1, hz.2, rfl⟩)⟩
        · cases h9
      · split at h7
        · rename_i ht
          obtain ⟨rfl, rfl⟩ := ht
          obtain ⟨f, rfl, h8⟩ := xx_int_inv h7
          obtain ⟨g, rfl, h9⟩ := xx_int_inv h8
          split at h9
          · rename_i hz
            cases h9
            exact ⟨n, dp, a, sp, a0, rfl, fun z => hn (Or.inl z), fun z => hn (Or.inr (Or.inl z)), fun z => hn (Or.inr (Or.inr (Or.inl z))), Nat.le_of_not_lt (fun z => hn (Or.inr (Or.inr (Or.inr z)))), Or.inr (Or.inr ⟨f, g, hg0, hg, hz.1, hz.2.1, hz.2.2, rfl⟩)⟩
          · cases h9
        · cases h7
theorem xx_all_get {f : List Int32} {q : Int32 → Bool} (h : f.all q = true) {j : Nat} (hj : j < f.length) : q (f.getD j 0) = true := by
  rw [List.getD_eq_getElem?_getD, List.getElem?_eq_getElem hj]
  exact List.all_eq_true.mp h _ (List.getElem_mem hj)
theorem xx_prm_kp {i : Instr} {q : Nat} {sc : Bool} {st st' : List Value} {h h' : xx_H} (ho : xx_okh h) (hs : xx_oks h.length sc st) (hh : xx_prm i q st h = some (st', h')) : xx_kp sc h st' h' := by
  cases i with
  | invokespecial k =>
    have hh : (if q = 0 then xx_pr st fun _ r => if 8 < (r.map Value.category).sum then none else some (r, h) else none) = some (st', h') := hh
    split at hh
    · obtain ⟨a, r, rfl, h2⟩ := xx_pr_inv hh
      split at h2
      · cases h2
      · cases h2
        exact xx_kp_same ho (xx_oks_tl hs)
    · cases hh
  | invokestatic k =>
    have hh : (if q = 1 then xx_ac st h else none) = some (st', h') := hh
    split at hh
    · obtain ⟨n, dp, a, sp, a0, rfl, -, -, -, -, ⟨f, g, -, hg, z1, z2, rfl⟩ | ⟨f, g, -, hg, z1, z2, rfl⟩ | ⟨f, g, -, hg, z1, z2, -, rfl⟩⟩ := xx_ac_inv hh
      · exact xx_kp_set ho (xx_oks_tl (xx_oks_tl (xx_oks_tl (xx_oks_tl (xx_oks_tl hs))))) hg trivial (xx_cpy_len z1 z2)
      · exact xx_kp_set ho (xx_oks_tl (xx_oks_tl (xx_oks_tl (xx_oks_tl (xx_oks_tl hs))))) hg trivial (xx_cpy_len z1 z2)
      · exact xx_kp_set ho (xx_oks_tl (xx_oks_tl (xx_oks_tl (xx_oks_tl (xx_oks_tl hs))))) hg trivial (xx_cpy_len z1 z2)
    · cases hh
  | _ => exact absurd hh (by simp [xx_prm])
/-- what a call is -/
theorem xx_call_inv {P : xx_P} {i : Instr} {q y : Nat} {st st' : List Value} {h : xx_H} {as : List Value} (hh : xx_call P i q st h = some (y, as, st')) : y = q ∧ 10 ≤ q ∧ st = as.reverse ++ st' ∧ as.length = (P.1 q).2.2.1 ∧ (st'.map Value.category).sum ≤ 8 ∧ (∀ v ∈ as, xx_sc v = false) ∧ (xx_flat as).length ≤ (P.1 q).2.1 ∧
    ((∃ k, i = .invokestatic k ∧ (P.1 q).2.2.2.2 = 0) ∨ (∃ k a as9 c fs, as = .ref a :: as9 ∧ h[a]? = some (.inr (c, fs)) ∧ ((i = .invokevirtual k ∧ (P.1 q).2.2.2.2 = c + 1) ∨ (i = .invokespecial k ∧ (P.1 q).2.2.2.2 ≠ 0))) ∨ (∃ k as9, as = .retAddr 3 :: as9 ∧ i = .invokevirtual k ∧ (P.1 q).2.2.2.2 = 64)) := by
  unfold xx_call at hh
  split at hh
  · cases hh
  · rename_i hn
    have n1 : 10 ≤ q := Nat.le_of_not_lt (fun z => hn (Or.inl z))
    have n2 : (P.1 q).2.2.1 ≤ st.length := Nat.le_of_not_lt (fun z => hn (Or.inr (Or.inl z)))
    have n3 : ((st.drop (P.1 q).2.2.1).map Value.category).sum ≤ 8 := Nat.le_of_not_lt (fun z => hn (Or.inr (Or.inr (Or.inl z))))
    have n4 : ∀ v ∈ st.take (P.1 q).2.2.1, xx_sc v = false := fun v hv => by
      cases hz : xx_sc v with
      | false => rfl
      | true => exact absurd (List.any_eq_true.mpr ⟨v, hv, hz⟩) (fun z => hn (Or.inr (Or.inr (Or.inr (Or.inl z)))))
    have fl : ∀ l : List Value, (xx_flat l.reverse).length = (xx_flat l).length := fun l => by
      unfold xx_flat
      rw [List.length_flatMap, List.length_flatMap, List.map_reverse, List.sum_reverse]
    have n5 : (xx_flat (st.take (P.1 q).2.2.1)).length ≤ (P.1 q).2.1 := Nat.le_of_not_lt (fun z => hn (Or.inr (Or.inr (Or.inr (Or.inr z)))))
    have e1 : st = (st.take (P.1 q).2.2.1).reverse.reverse ++ st.drop (P.1 q).2.2.1 := by rw [List.reverse_reverse, List.take_append_drop]
    have e2 : (st.take (P.1 q).2.2.1).reverse.length = (P.1 q).2.2.1 := by rw [List.length_reverse, List.length_take]; omega
    have e3 : ∀ v ∈ (st.take (P.1 q).2.2.1).reverse, xx_sc v = false := fun v hv => n4 v (List.mem_reverse.mp hv)
    have e4 : (xx_flat (st.take (P.1 q).2.2.1).reverse).length ≤ (P.1 q).2.1 := by rw [fl]; exact n5
    split at hh
    · split at hh
      · rename_i hz
        cases hh
        exact ⟨rfl, n1, e1, e2, n3, e3, e4, Or.inl ⟨_, rfl, hz⟩⟩
      · cases hh
    · split at hh
      · rename_i a as9 ha
        obtain ⟨c, fs, hg, h3⟩ := xx_ob_inv hh
        split at h3
        · rename_i hz
          cases h3
          rw [ha] at e1 e2 e3 e4
          exact ⟨rfl, n1, e1, e2, n3, e3, e4, Or.inr (Or.inl ⟨_, a, as9, c, fs, rfl, hg, Or.inl ⟨rfl, hz⟩⟩)⟩
        · cases h3
      · rename_i k9 as9 ha
        split at hh
        · rename_i hz
          obtain ⟨rfl, hz⟩ := hz
          cases hh
          rw [ha] at e1 e2 e3 e4
          exact ⟨rfl, n1, e1, e2, n3, e3, e4, Or.inr (Or.inr ⟨_, as9, rfl, rfl, hz⟩)⟩
        · cases hh
      · cases hh
    · split at hh
      · rename_i a as9 ha
        obtain ⟨c, fs, hg, h3⟩ := xx_ob_inv hh
        split at h3
        · cases h3
        · rename_i hz
          cases h3
          rw [ha] at e1 e2 e3 e4
          exact ⟨rfl, n1, e1, e2, n3, e3, e4, Or.inr (Or.inl ⟨_, a, as9, c, fs, rfl, hg, Or.inr ⟨rfl, hz⟩⟩)⟩
      · cases hh
    · cases hh
theorem xx_okv_ns {n : Nat} {sc : Bool} {v : Value} (h : xx_okv n sc v) (hs : xx_sc v = false) : xx_okv n false v := by
  cases v <;> first | exact h | exact fun z => by subst z; cases hs
theorem xx_flat_mem {as : List Value} {v : Value} (h : some v ∈ xx_flat as) : v ∈ as := by
  unfold xx_flat at h
  obtain ⟨w, hw, hv⟩ := List.mem_flatMap.mp h
  split at hv
  · rcases List.mem_cons.mp hv with z | z
    · cases z; exact hw
    · cases List.mem_singleton.mp z
  · cases List.mem_singleton.mp hv
    exact hw
theorem xx_ent_mem {n : Nat} {as : List Value} {v : Value} (h : some v ∈ xx_ent n as) : v ∈ as := by
  unfold xx_ent at h
  rcases List.mem_append.mp h with h | h
  · exact xx_flat_mem h
  · cases (List.mem_replicate.mp h).2
theorem xx_end_inv {i : Instr} {ret : Option FieldType} {st : List Value} {v : Option Value} (h : xx_end i ret st = some v) : st = v.toList ∧ ((∃ x ty, i = .ireturn ∧ v = some (.int x) ∧ ret = some ty ∧ xx_fit ty (.int x) = true) ∨ (∃ x, i = .lreturn ∧ v = some (.long x) ∧ ret = some .long) ∨ (∃ x ty, i = .areturn ∧ v = some (.ref x) ∧ ret = some ty ∧ xx_fit ty (.ref x) = true) ∨ (i = .return_ ∧ v = none ∧ ret = none)) := by
  cases i with
  | ireturn =>
    unfold xx_end at h
    dsimp only at h
    split at h
    · split at h
      · rename_i x hz
        cases h
        obtain ⟨ty, h1, h2⟩ := xx_any hz
        exact ⟨rfl, Or.inl ⟨x, ty, rfl, rfl, h1, (Bool.and_eq_true _ _ ▸ h2).2⟩⟩
      · cases h
    · cases h
  | lreturn =>
    unfold xx_end at h
    dsimp only at h
    split at h
    · split at h
      · rename_i x hz
        cases h
        exact ⟨rfl, Or.inr (Or.inl ⟨x, rfl, rfl, hz⟩)⟩
      · cases h
    · cases h
  | areturn =>
    unfold xx_end at h
    dsimp only at h
    split at h
    · split at h
      · rename_i x hz
        cases h
        obtain ⟨ty, h1, h2⟩ := xx_any hz
        exact ⟨rfl, Or.inr (Or.inr (Or.inl ⟨x, ty, rfl, rfl, h1, h2⟩))⟩
      · cases h
    · cases h
  | return_ =>
    unfold xx_end at h
    dsimp only at h
    split at h
    · split at h
      · rename_i hz
        cases h
        exact ⟨rfl, Or.inr (Or.inr (Or.inr ⟨rfl, rfl, hz⟩))⟩
      · cases h
    · cases h
  | _ => exact absurd h (by simp [xx_end])
/-- a run keeps the heap well, and only lets it grow -/
theorem xx_run_kp {P : xx_P} : ∀ (f d m pc : Nat) (ls : xx_L) (st : List Value) (h : xx_H) (v : Option Value) (h' : xx_H) (sc : Bool), xx_run P f d m pc ls st h = some (v, h') → xx_okh h → xx_oks h.length sc st → xx_okl h.length sc ls → xx_okh h' ∧ h.length ≤ h'.length ∧ xx_sz h ≤ xx_sz h' ∧ ∀ w, v = some w → xx_okv h'.length false w
  | 0, _, _, _, _, _, _, _, _, _, hr, _, _, _ => by cases hr
  | f + 1, d, m, pc, ls, st, h, v, h', sc, hr, ho, hs, hl => by
    unfold xx_run at hr
    split at hr
    · cases hr
    · rename_i i len q nest he
      split at hr
      · rename_i pc' ls' st' hloc
        obtain ⟨g1, g2⟩ := xx_loc_kp hl hs hloc
        exact xx_run_kp f d m pc' ls' st' h v h' sc hr ho g2 g1
      · split at hr
        · rename_i st' h1 hhp
          obtain ⟨g1, g2, g3, g4⟩ := xx_hp_kp ho hs hhp
          obtain ⟨k1, k2, k3, k4⟩ := xx_run_kp f d m _ ls st' h1 v h' sc hr g1 g2 (hl.mono g3)
          exact ⟨k1, Nat.le_trans g3 k2, Nat.le_trans g4 k3, k4⟩
        · split at hr
          · rename_i w hend
            cases hr
            obtain ⟨rfl, hz⟩ := xx_end_inv hend
            refine ⟨ho, Nat.le_refl _, Nat.le_refl _, fun w hw => ?_⟩
            subst hw
            rcases hz with ⟨x, ty, -, h2, -⟩ | ⟨x, -, h2, -⟩ | ⟨x, ty, -, h2, -⟩ | ⟨-, h2, -⟩
            · cases h2; trivial
            · cases h2; trivial
            · cases h2; exact hs _ List.mem_cons_self
            · cases h2
          · split at hr
            · rename_i st' h1 hprm
              split at hr
              · cases hr
              · obtain ⟨g1, g2, g3, g4⟩ := xx_prm_kp ho hs hprm
                obtain ⟨k1, k2, k3, k4⟩ := xx_run_kp f d m _ ls st' h1 v h' sc hr g1 g2 (hl.mono g3)
                exact ⟨k1, Nat.le_trans g3 k2, Nat.le_trans g4 k3, k4⟩
            · split at hr
              · cases hr
              · rename_i d'
                split at hr
                · rename_i y as st' hcall
                  split at hr
                  · rename_i u h1 hrun
                    obtain ⟨rfl, -, e1, -, -, e2, -, -⟩ := xx_call_inv hcall
                    have hs' : xx_oks h.length sc st' := fun w hw => hs w (by rw [e1]; exact List.mem_append_right _ hw)
                    have ha : ∀ w ∈ as, xx_okv h.length false w := fun w hw => xx_okv_ns (hs w (by rw [e1]; exact List.mem_append_left _ (List.mem_reverse.mpr hw))) (e2 w hw)
                    obtain ⟨g1, g2, g3, g4⟩ := xx_run_kp f d' _ 0 _ [] h u h1 false hrun ho (fun w hw => by cases hw) (fun w hw => ha w (xx_ent_mem hw))
                    have hs2 : xx_oks h1.length sc (u.toList ++ st') := fun w hw => by
                      rcases List.mem_append.mp hw with z | z
                      · cases u with
                        | none => cases z
                        | some u =>
                          cases List.mem_singleton.mp z
                          exact xx_okv.sc (g4 _ rfl)
                      · exact (hs' w z).mono g2
                    obtain ⟨k1, k2, k3, k4⟩ := xx_run_kp f _ m _ ls _ h1 v h' sc hr g1 hs2 (hl.mono g2)
                    exact ⟨k1, Nat.le_trans g2 k2, Nat.le_trans g3 k3, k4⟩
                  · cases hr
                · cases hr
