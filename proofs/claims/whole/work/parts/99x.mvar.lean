/-! ===== the reference's reading: variable ===== -/
theorem rc_35 {k : Nat} (h : k ≤ 265) : rc k = 35 ↔ k = 35 := by
  unfold rc
  repeat' split
  all_goals omega
theorem rc_2 {k : Nat} (h : k ≤ 265) (h2 : k ≠ 2) : rc k = 2 ↔ k = 259 := by
  unfold rc
  repeat' split
  all_goals omega
theorem rc_b {k : Nat} (h : k ≤ 265) : 0 ≤ rc k ∧ rc k ≤ 265 := by
  unfold rc
  repeat' split
  all_goals omega
theorem tk_big {y : Nat → Nat} {s i : Nat} : tk y s i ≠ 2 := by
  unfold tk tK wK
  repeat' split
  all_goals first | omega | (rename_i q; have := of_decide_eq_true q; omega)
section MY
variable {X : List Int32} {S : ST} {y : Nat → Nat} {s i n : Nat} {sz : Nat → Nat}
theorem mX_bd {k : Nat} {p : Int} {q : Nat} (ht : mt S y s) (h14 : SI S 179 14 = 0) (hk : 1 ≤ k ∧ k ≤ 5) (hp : p = ((q : Nat) : Int)) {a : Nat} (ha : a ≤ s) (h23 : SI S 179 23 = ((a : Nat) : Int)) : mX (bdS S 0 ((k : Nat) : Int) p) y s k q ∧ frJ S (bdS S 0 ((k : Nat) : Int) p) := by
  subst hp
  exact ⟨⟨mt_fr ht frJ_bd, (bd_14 h14).trans (if_pos rfl), hk, bd_28.trans (if_pos rfl), a, ha, (bdS_f (by decide)).trans h23⟩, frJ_bd⟩
theorem vM_fr {S' : ST} (h : vM S n sz) (f : frJ S S') : vM S' n sz := by
  unfold vM at *
  rw [f.2.2.1 180 (by decide), f.2.2.1 181 (by decide), f.2.2.2.1 1 (by decide) (by decide) (by decide) (by decide) (by decide) (by decide), f.2.2.2.1 4 (by decide) (by decide) (by decide) (by decide) (by decide) (by decide)]
  exact h

theorem m_variable {C : Nat → Int64} (hv : vM S n sz) (h : mA S y s i) (hi : i ≤ nT y s) (hag : agC C y s) : sM X 3 206 [.ref 179] S (fun r S' => ∃ z : Int, r = some (.int (iI z)) ∧ frJ S S' ∧ (((pVar (tk y s) C n i).1 = 0 ∧ z = (pVar (tk y s) C n i).2.2 ∧ mA S' y s (i + 1)) ∨ ((pVar (tk y s) C n i).1 ≠ 0 ∧ mX S' y s (pVar (tk y s) C n i).1 (tA y s (pVar (tk y s) C n i).2.1)))) := by
  have hk0 : tk y s i ≤ 265 := tK_lt _
  have hk1 : tk y s (i + 1) ≤ 265 := tK_lt _
  have hr0 := rc_b hk0
  have hr1 := rc_b hk1
  have hnT := nT_ok y s
  unfold pVar
  by_cases q1 : tk y s i = 35
  · rw [if_neg (fun z => z q1)]
    have hilt : i < nT y s := by
      refine Classical.byContradiction fun c => ?_
      have h9 : i = nT y s := by omega
      rw [← h9] at hnT
      omega
    have e1 : rc (tk y s i) = 35 := (rc_35 hk0).mpr q1
    by_cases q2 : tk y s (i + 1) = 259
    · rw [if_neg (fun z => z q2)]
      have e2 : rc (tk y s (i + 1)) = 2 := (rc_2 hk1 tk_big).mpr q2
      have hcr := cI_rg (C (i + 1))
      by_cases q3 : 0 ≤ cI (C (i + 1)) ∧ cI (C (i + 1)) < n
      · rw [if_neg (fun z => z q3)]
        refine sIni (ls := [some (.ref 179)]) rfl ?_
        refine sL (pc' := 1) (i := .aload_n 0) rfl rfl ?_
        refine sGi (p := 4) rfl rfl (sk_179 _) rfl rfl rfl h.2.2.2.1 ?_
        refine sKb (p := 6) rfl rfl ?_
        refine sIc_eq (p := 9) rfl rfl ⟨by omega, by omega⟩ ⟨by omega, by omega⟩ (fun c1 => ?_) (fun c1 => ?_)
        · have c1 := c1
          refine sL (pc' := 21) (i := .aload_n 0) rfl rfl ?_
          refine sCvQ (p := 24) (as := []) rfl rfl rfl rfl (by decide) (Nat.le_of_ble_eq_true rfl) rfl (Nat.le_of_ble_eq_true rfl) (sk_179 _) rfl (by omega) (m_nextA h) ?_
          rintro _ S1 ⟨rfl, hf1, hN1⟩
          have hv1 := vM_fr hv hf1
          have hA1 : mA S1 y s (i + 1) := by
            rcases hN1 with ⟨_, q⟩ | ⟨q, _⟩
            · exact q
            · omega
          have hnum : SI S1 179 27 = cI (C (i + 1)) := by rw [hag (i + 1) (by omega) (Or.inr q2)]; exact hA1.2.2.2.2.2.2.2 q2
          refine sL (pc' := 25) (i := .aload_n 0) rfl rfl ?_
          refine sGi (p := 28) rfl rfl (sk_179 _) rfl rfl rfl hA1.2.1 ?_
          refine sIf_ne (p := 31) rfl rfl ⟨by omega, by omega⟩ (fun c2 => ?_) (fun c2 => ?_)
          · exact absurd c2 (by decide)
          · have c2 := c2
            refine sL (pc' := 32) (i := .aload_n 0) rfl rfl ?_
            refine sGi (p := 35) rfl rfl (sk_179 _) rfl rfl rfl hA1.2.2.2.1 ?_
            refine sKi (p := 36) rfl rfl ?_
            refine sIc_eq (p := 39) rfl rfl ⟨by omega, by omega⟩ ⟨by omega, by omega⟩ (fun c3 => ?_) (fun c3 => ?_)
            · have c3 := c3
              refine sL (pc' := 49) (i := .aload_n 0) rfl rfl ?_
              refine sGi (p := 52) rfl rfl (sk_179 _) rfl rfl rfl hA1.2.1 ?_
              refine sIf_ne (p := 55) rfl rfl ⟨by omega, by omega⟩ (fun c4 => ?_) (fun c4 => ?_)
              · exact absurd c4 (by decide)
              · have c4 := c4
                refine sL (pc' := 56) (i := .aload_n 0) rfl rfl ?_
                refine sL (pc' := 57) (i := .aload_n 0) rfl rfl ?_
                refine sGi (p := 60) rfl rfl (sk_179 _) rfl rfl rfl hnum ?_
                refine sCv (p := 63) (as := [_]) rfl rfl rfl rfl (by decide) (Nat.le_of_ble_eq_true rfl) rfl (Nat.le_of_ble_eq_true rfl) (sk_179 _) rfl (by omega) (m_isVariable hcr hv1) ?_
                refine sBn (p := 66) rfl rfl (fun c5 => ?_) (fun c5 => ?_)
                · have c5 := c5
                  have c5 := of_decide_eq_true c5
                  refine sL (pc' := 76) (i := .aload_n 0) rfl rfl ?_
                  refine sGi (p := 79) rfl rfl (sk_179 _) rfl rfl rfl hnum ?_
                  refine sEn (i := .ireturn) rfl (rfl) ?_
                  exact ⟨_, rfl, hf1, Or.inl ⟨rfl, rfl, hA1⟩⟩
                · have c5 := c5
                  have c5 := of_decide_eq_false c5
                  exact absurd q3 (by assumption)
            · exfalso; omega
        · exfalso; omega
      · rw [if_pos q3]
        refine sIni (ls := [some (.ref 179)]) rfl ?_
        refine sL (pc' := 1) (i := .aload_n 0) rfl rfl ?_
        refine sGi (p := 4) rfl rfl (sk_179 _) rfl rfl rfl h.2.2.2.1 ?_
        refine sKb (p := 6) rfl rfl ?_
        refine sIc_eq (p := 9) rfl rfl ⟨by omega, by omega⟩ ⟨by omega, by omega⟩ (fun c1 => ?_) (fun c1 => ?_)
        · have c1 := c1
          refine sL (pc' := 21) (i := .aload_n 0) rfl rfl ?_
          refine sCvQ (p := 24) (as := []) rfl rfl rfl rfl (by decide) (Nat.le_of_ble_eq_true rfl) rfl (Nat.le_of_ble_eq_true rfl) (sk_179 _) rfl (by omega) (m_nextA h) ?_
          rintro _ S1 ⟨rfl, hf1, hN1⟩
          have hv1 := vM_fr hv hf1
          have hA1 : mA S1 y s (i + 1) := by
            rcases hN1 with ⟨_, q⟩ | ⟨q, _⟩
            · exact q
            · omega
          have hnum : SI S1 179 27 = cI (C (i + 1)) := by rw [hag (i + 1) (by omega) (Or.inr q2)]; exact hA1.2.2.2.2.2.2.2 q2
          refine sL (pc' := 25) (i := .aload_n 0) rfl rfl ?_
          refine sGi (p := 28) rfl rfl (sk_179 _) rfl rfl rfl hA1.2.1 ?_
          refine sIf_ne (p := 31) rfl rfl ⟨by omega, by omega⟩ (fun c2 => ?_) (fun c2 => ?_)
          · exact absurd c2 (by decide)
          · have c2 := c2
            refine sL (pc' := 32) (i := .aload_n 0) rfl rfl ?_
            refine sGi (p := 35) rfl rfl (sk_179 _) rfl rfl rfl hA1.2.2.2.1 ?_
            refine sKi (p := 36) rfl rfl ?_
            refine sIc_eq (p := 39) rfl rfl ⟨by omega, by omega⟩ ⟨by omega, by omega⟩ (fun c3 => ?_) (fun c3 => ?_)
            · have c3 := c3
              refine sL (pc' := 49) (i := .aload_n 0) rfl rfl ?_
              refine sGi (p := 52) rfl rfl (sk_179 _) rfl rfl rfl hA1.2.1 ?_
              refine sIf_ne (p := 55) rfl rfl ⟨by omega, by omega⟩ (fun c4 => ?_) (fun c4 => ?_)
              · exact absurd c4 (by decide)
              · have c4 := c4
                refine sL (pc' := 56) (i := .aload_n 0) rfl rfl ?_
                refine sL (pc' := 57) (i := .aload_n 0) rfl rfl ?_
                refine sGi (p := 60) rfl rfl (sk_179 _) rfl rfl rfl hnum ?_
                refine sCv (p := 63) (as := [_]) rfl rfl rfl rfl (by decide) (Nat.le_of_ble_eq_true rfl) rfl (Nat.le_of_ble_eq_true rfl) (sk_179 _) rfl (by omega) (m_isVariable hcr hv1) ?_
                refine sBn (p := 66) rfl rfl (fun c5 => ?_) (fun c5 => ?_)
                · have c5 := c5
                  have c5 := of_decide_eq_true c5
                  exact absurd (by assumption) q3
                · have c5 := c5
                  have c5 := of_decide_eq_false c5
                  refine sL (pc' := 67) (i := .aload_n 0) rfl rfl ?_
                  refine sKi (p := 68) rfl rfl ?_
                  refine sL (pc' := 69) (i := .aload_n 0) rfl rfl ?_
                  refine sGi (p := 72) rfl rfl (sk_179 _) rfl rfl rfl hA1.2.2.2.2.1 ?_
                  refine sCv (p := 75) (as := [_, _]) rfl rfl rfl rfl (by decide) (Nat.le_of_ble_eq_true rfl) rfl (Nat.le_of_ble_eq_true rfl) (sk_179 _) rfl (by omega) (m_bad (kz := 0) hA1.2.1 ⟨by decide, by decide⟩) ?_
                  refine sL (pc' := 76) (i := .aload_n 0) rfl rfl ?_
                  refine sGi (p := 79) rfl rfl (sk_179 _) rfl rfl rfl ((bdS_f (by decide)).trans hnum) ?_
                  refine sEn (i := .ireturn) rfl (rfl) ?_
                  have hb := mX_bd (k := 3) (q := tA y s (i + 1)) hA1.1 hA1.2.1 ⟨by decide, by decide⟩ rfl (tP_le (i + 1 + 1)) hA1.2.2.1
                  exact ⟨_, rfl, frJ_trans hf1 hb.2, Or.inr ⟨(show (3 : Nat) ≠ 0 by decide), hb.1⟩⟩
            · exfalso; omega
        · exfalso; omega
    · rw [if_pos q2]
      have e2 : rc (tk y s (i + 1)) ≠ 2 := fun z => q2 ((rc_2 hk1 tk_big).mp z)
      by_cases q4 : tk y s (i + 1) = 265
      · rw [show rf (tk y s) 2 (i + 1) = 1 from if_pos ⟨rfl, q4⟩]
        refine sIni (ls := [some (.ref 179)]) rfl ?_
        refine sL (pc' := 1) (i := .aload_n 0) rfl rfl ?_
        refine sGi (p := 4) rfl rfl (sk_179 _) rfl rfl rfl h.2.2.2.1 ?_
        refine sKb (p := 6) rfl rfl ?_
        refine sIc_eq (p := 9) rfl rfl ⟨by omega, by omega⟩ ⟨by omega, by omega⟩ (fun c1 => ?_) (fun c1 => ?_)
        · have c1 := c1
          refine sL (pc' := 21) (i := .aload_n 0) rfl rfl ?_
          refine sCvQ (p := 24) (as := []) rfl rfl rfl rfl (by decide) (Nat.le_of_ble_eq_true rfl) rfl (Nat.le_of_ble_eq_true rfl) (sk_179 _) rfl (by omega) (m_nextA h) ?_
          rintro _ S1 ⟨rfl, hf1, hN1⟩
          have hv1 := vM_fr hv hf1
          have hX1 : mX S1 y s 1 (tA y s (i + 1)) := by
            rcases hN1 with ⟨q, _⟩ | ⟨_, q⟩
            · exact absurd q4 q
            · exact q
          obtain ⟨zn, hnum⟩ : ∃ zn, SI S1 179 27 = zn := ⟨_, rfl⟩
          refine sL (pc' := 25) (i := .aload_n 0) rfl rfl ?_
          refine sGi (p := 28) rfl rfl (sk_179 _) rfl rfl rfl hX1.2.1 ?_
          refine sIf_ne (p := 31) rfl rfl ⟨by omega, by omega⟩ (fun c2 => ?_) (fun c2 => ?_)
          · have c2 := c2
            refine sL (pc' := 49) (i := .aload_n 0) rfl rfl ?_
            refine sGi (p := 52) rfl rfl (sk_179 _) rfl rfl rfl hX1.2.1 ?_
            refine sIf_ne (p := 55) rfl rfl ⟨by omega, by omega⟩ (fun c3 => ?_) (fun c3 => ?_)
            · have c3 := c3
              refine sL (pc' := 76) (i := .aload_n 0) rfl rfl ?_
              refine sGi (p := 79) rfl rfl (sk_179 _) rfl rfl rfl hnum ?_
              refine sEn (i := .ireturn) rfl (rfl) ?_
              exact ⟨_, rfl, hf1, Or.inr ⟨(show (1 : Nat) ≠ 0 by decide), hX1⟩⟩
            · exact absurd c3 (by decide)
          · exact absurd c2 (by decide)
        · exfalso; omega
      · rw [show rf (tk y s) 2 (i + 1) = 2 from if_neg (fun z => q4 z.2)]
        refine sIni (ls := [some (.ref 179)]) rfl ?_
        refine sL (pc' := 1) (i := .aload_n 0) rfl rfl ?_
        refine sGi (p := 4) rfl rfl (sk_179 _) rfl rfl rfl h.2.2.2.1 ?_
        refine sKb (p := 6) rfl rfl ?_
        refine sIc_eq (p := 9) rfl rfl ⟨by omega, by omega⟩ ⟨by omega, by omega⟩ (fun c1 => ?_) (fun c1 => ?_)
        · have c1 := c1
          refine sL (pc' := 21) (i := .aload_n 0) rfl rfl ?_
          refine sCvQ (p := 24) (as := []) rfl rfl rfl rfl (by decide) (Nat.le_of_ble_eq_true rfl) rfl (Nat.le_of_ble_eq_true rfl) (sk_179 _) rfl (by omega) (m_nextA h) ?_
          rintro _ S1 ⟨rfl, hf1, hN1⟩
          have hv1 := vM_fr hv hf1
          have hA1 : mA S1 y s (i + 1) := by
            rcases hN1 with ⟨_, q⟩ | ⟨q, _⟩
            · exact q
            · exact absurd q q4
          obtain ⟨zn, hnum⟩ : ∃ zn, SI S1 179 27 = zn := ⟨_, rfl⟩
          refine sL (pc' := 25) (i := .aload_n 0) rfl rfl ?_
          refine sGi (p := 28) rfl rfl (sk_179 _) rfl rfl rfl hA1.2.1 ?_
          refine sIf_ne (p := 31) rfl rfl ⟨by omega, by omega⟩ (fun c2 => ?_) (fun c2 => ?_)
          · exact absurd c2 (by decide)
          · have c2 := c2
            refine sL (pc' := 32) (i := .aload_n 0) rfl rfl ?_
            refine sGi (p := 35) rfl rfl (sk_179 _) rfl rfl rfl hA1.2.2.2.1 ?_
            refine sKi (p := 36) rfl rfl ?_
            refine sIc_eq (p := 39) rfl rfl ⟨by omega, by omega⟩ ⟨by omega, by omega⟩ (fun c3 => ?_) (fun c3 => ?_)
            · exfalso; omega
            · have c3 := c3
              refine sL (pc' := 40) (i := .aload_n 0) rfl rfl ?_
              refine sKi (p := 41) rfl rfl ?_
              refine sL (pc' := 42) (i := .aload_n 0) rfl rfl ?_
              refine sGi (p := 45) rfl rfl (sk_179 _) rfl rfl rfl hA1.2.2.2.2.1 ?_
              refine sCv (p := 48) (as := [_, _]) rfl rfl rfl rfl (by decide) (Nat.le_of_ble_eq_true rfl) rfl (Nat.le_of_ble_eq_true rfl) (sk_179 _) rfl (by omega) (m_bad (kz := 0) hA1.2.1 ⟨by decide, by decide⟩) ?_
              refine sL (pc' := 49) (i := .aload_n 0) rfl rfl ?_
              refine sGi (p := 52) rfl rfl (sk_179 _) rfl rfl rfl ((bd_14 hA1.2.1).trans (if_pos rfl)) ?_
              refine sIf_ne (p := 55) rfl rfl ⟨by omega, by omega⟩ (fun c4 => ?_) (fun c4 => ?_)
              · have c4 := c4
                refine sL (pc' := 76) (i := .aload_n 0) rfl rfl ?_
                refine sGi (p := 79) rfl rfl (sk_179 _) rfl rfl rfl ((bdS_f (by decide)).trans hnum) ?_
                refine sEn (i := .ireturn) rfl (rfl) ?_
                have hb := mX_bd (k := 2) (q := tA y s (i + 1)) hA1.1 hA1.2.1 ⟨by decide, by decide⟩ rfl (tP_le (i + 1 + 1)) hA1.2.2.1
                exact ⟨_, rfl, frJ_trans hf1 hb.2, Or.inr ⟨(show (2 : Nat) ≠ 0 by decide), hb.1⟩⟩
              · exact absurd c4 (by decide)
        · exfalso; omega
  · rw [if_pos q1, show rf (tk y s) 2 i = 2 from if_neg (fun z => h.2.2.2.2.2.1 z.2)]
    have e1 : rc (tk y s i) ≠ 35 := fun z => q1 ((rc_35 hk0).mp z)
    refine sIni (ls := [some (.ref 179)]) rfl ?_
    refine sL (pc' := 1) (i := .aload_n 0) rfl rfl ?_
    refine sGi (p := 4) rfl rfl (sk_179 _) rfl rfl rfl h.2.2.2.1 ?_
    refine sKb (p := 6) rfl rfl ?_
    refine sIc_eq (p := 9) rfl rfl ⟨by omega, by omega⟩ ⟨by omega, by omega⟩ (fun c1 => ?_) (fun c1 => ?_)
    · exfalso; omega
    · have c1 := c1
      refine sL (pc' := 10) (i := .aload_n 0) rfl rfl ?_
      refine sKi (p := 11) rfl rfl ?_
      refine sL (pc' := 12) (i := .aload_n 0) rfl rfl ?_
      refine sGi (p := 15) rfl rfl (sk_179 _) rfl rfl rfl h.2.2.2.2.1 ?_
      refine sCv (p := 18) (as := [_, _]) rfl rfl rfl rfl (by decide) (Nat.le_of_ble_eq_true rfl) rfl (Nat.le_of_ble_eq_true rfl) (sk_179 _) rfl (by omega) (m_bad (kz := 0) h.2.1 ⟨by decide, by decide⟩) ?_
      refine sKi (p := 19) rfl rfl ?_
      refine sEn (i := .ireturn) rfl (rfl) ?_
      have hb := mX_bd (k := 2) (q := tA y s i) h.1 h.2.1 ⟨by decide, by decide⟩ rfl (tP_le (i + 1)) h.2.2.1
      exact ⟨_, rfl, hb.2, Or.inr ⟨(show (2 : Nat) ≠ 0 by decide), hb.1⟩⟩
end MY
