/-! ===== the reference's reading: value, as a whole ===== -/
def vlR (K : Nat → Nat) (C : Nat → Int64) (n : Nat) (sz : Nat → Nat) (v i : Nat) : Nat × Nat × (Nat → Bool) := if K (i + 2) = 61 then ((pVal K C sz v (i + 2 + 1)).1, (pVal K C sz v (i + 2 + 1)).2.1, atm n sz ((v : Nat) : Int) (pVal K C sz v (i + 2 + 1)).2.2) else if sz v ≠ 2 then (4, i, fun _ => false) else (0, i + 2, atm n sz ((v : Nat) : Int) 1)
def lfQ (n : Nat) (y : Nat → Nat) (s : Nat) (W : List (Int × Int)) (V : List (Nat → Bool)) (R : Nat × Nat × (Nat → Bool)) (S S' : ST) : Prop := frK S S' ∧ ((R.1 = 0 ∧ mG S' y s R.2.1 ∧ mS n S' W (R.2.2 :: V)) ∨ (R.1 ≠ 0 ∧ mX S' y s R.1 (tA y s R.2.1)))
section MC
variable {X : List Int32} {S : ST} {y : Nat → Nat} {s i n : Nat} {sz : Nat → Nat} {W : List (Int × Int)} {V : List (Nat → Bool)}
theorem m_value {C : Nat → Int64} {v : Nat} (hv : vM S n sz) (h : mA S y s (i + 1)) (hi : i + 1 < nT y s) (hag : agC C y s) (hvn : v < n) (hm : mS n S W V) (hb : V.length + 1 ≤ 220) : sM X 3 207 [.ref 179, .int (iI ((v : Nat) : Int)), .int (iI ((tA y s i : Nat) : Int))] S (fun r S' => r = none ∧ lfQ n y s W V (vlR (tk y s) C n sz v i) S S') := by
  have hs := h.1.1
  have hnT := nT_ok y s
  have hsv := hv.1.2.1 v hvn
  have hn10 := hv.1.1
  have ha1 := (tA_ok (y := y) (s := s) (i + 2)).2
  have hbA1 := bA_b (y := y) (s := s) h.1.2.1 (tA y s (i + 2))
  have hbA2 := bA_b (y := y) (s := s) h.1.2.1 (tA y s (i + 2) + 1)
  have hf1 : frJ S (wI S 179 23 ((tA y s (i + 2) : Nat) : Int)) := frJ_w (Or.inr (Or.inl rfl))
  have hm1 := mS_J hm hf1
  have hv1 := vM_fr hv hf1
  have ht1 := mt_fr h.1 hf1
  have h141 : SI (wI S 179 23 ((tA y s (i + 2) : Nat) : Int)) 179 14 = 0 := (rI_nj (by decide)).trans h.2.1
  have h231 : SI (wI S 179 23 ((tA y s (i + 2) : Nat) : Int)) 179 23 = ((tA y s (i + 2) : Nat) : Int) := rI_at
  have hG1 : mG (wI S 179 23 ((tA y s (i + 2) : Nat) : Int)) y s (i + 2) := ⟨ht1, h141, _, ha1, h231, rE_idem (tP_le _)⟩
  generalize hS1 : wI S 179 23 ((tA y s (i + 2) : Nat) : Int) = S1 at *
  have hsk : sM X 1 195 [.ref 179] S (sV none S1) := by
    rw [← hS1]
    exact m_skipA h
  have hk3 : tk y s (i + 2 + 1) ≤ 265 := tK_lt _
  have hr3 := rc_b hk3
  unfold vlR
  by_cases q1 : tk y s (i + 2) = 61
  · rw [if_pos q1]
    have q1' := tK_61.mp q1
    unfold pVal
    by_cases q2 : tk y s (i + 2 + 1) = 259
    · rw [if_neg (fun z => z q2)]
      have e3 : rc (tk y s (i + 2 + 1)) = 2 := (rc_2 hk3 tk_big).mpr q2
      have hi3 : i + 2 < nT y s := Classical.byContradiction fun c => by
        have h9 : i + 2 = nT y s := by omega
        rw [← h9] at hnT
        omega
      have hcn : 0 ≤ cI (C (i + 2 + 1)) := by
        rw [hag (i + 2 + 1) (by omega) (Or.inr q2)]
        exact tK_D3 q2
      have hcr := cI_rg (C (i + 2 + 1))
      have hc1 := hcr.1
      have hc2 := hcr.2
      by_cases q3 : 0 ≤ cI (C (i + 2 + 1)) ∧ cI (C (i + 2 + 1)) < sz v
      · rw [if_neg (fun z => z q3)]
        refine sIni (ls := [some (.ref 179), some (.int (iI ((v : Nat) : Int))), some (.int (iI ((tA y s i : Nat) : Int))), none, none, none]) rfl ?_
        refine sL (pc' := 1) (i := .aload_n 0) rfl rfl ?_
        refine sCv (p := 4) (as := []) rfl rfl rfl rfl (by decide) (Nat.le_of_ble_eq_true rfl) rfl (Nat.le_of_ble_eq_true rfl) (sk_179 _) rfl (by omega) (hsk) ?_
        refine sL (pc' := 5) (i := .aload_n 0) rfl rfl ?_
        refine sL (pc' := 6) (i := .aload_n 0) rfl rfl ?_
        refine sGi (p := 9) rfl rfl (sk_179 _) rfl rfl rfl h231 ?_
        refine sCv (p := 12) (as := [_]) rfl rfl rfl rfl (by decide) (Nat.le_of_ble_eq_true rfl) rfl (Nat.le_of_ble_eq_true rfl) (sk_179 _) rfl (by omega) (m_look (p := tA y s (i + 2)) ht1 (by omega)) ?_
        refine sKb (p := 14) rfl rfl ?_
        refine sIc_ne (p := 17) rfl rfl ⟨by omega, by omega⟩ ⟨by omega, by omega⟩ (fun c1 => ?_) (fun c1 => ?_)
        · exfalso; omega
        · have c1 := c1
          refine sL (pc' := 18) (i := .aload_n 0) rfl rfl ?_
          refine sL (pc' := 19) (i := .aload_n 0) rfl rfl ?_
          refine sGi (p := 22) rfl rfl (sk_179 _) rfl rfl rfl h231 ?_
          refine sKi (p := 23) rfl rfl ?_
          refine sAd (p := 24) rfl rfl ?_
          refine sCv (p := 27) (as := [_]) rfl rfl rfl rfl (by decide) (Nat.le_of_ble_eq_true rfl) rfl (Nat.le_of_ble_eq_true rfl) (sk_179 _) rfl (by omega) (m_look (p := (tA y s (i + 2)) + 1) ht1 (by omega)) ?_
          refine sKb (p := 29) rfl rfl ?_
          refine sIc_eq (p := 32) rfl rfl ⟨by omega, by omega⟩ ⟨by omega, by omega⟩ (fun c2 => ?_) (fun c2 => ?_)
          · exfalso; omega
          · have c2 := c2
            refine sKi (p := 33) rfl rfl ?_
            refine sL (i := .goto 4) rfl rfl ?_
            refine sL (pc' := 38) (i := .istore_n 3) (ls' := [some (.ref 179), some (.int (iI ((v : Nat) : Int))), some (.int (iI ((tA y s i : Nat) : Int))), some (.int (iI 1)), none, none]) rfl rfl ?_
            refine sKi (p := 39) rfl rfl ?_
            refine sL (pc' := 41) (i := .istore 4) (ls' := [some (.ref 179), some (.int (iI ((v : Nat) : Int))), some (.int (iI ((tA y s i : Nat) : Int))), some (.int (iI 1)), some (.int (iI 1)), none]) rfl rfl ?_
            refine sL (pc' := 42) (i := .iload_n 3) rfl rfl ?_
            refine sIf_ne (p := 45) rfl rfl ⟨by omega, by omega⟩ (fun c3 => ?_) (fun c3 => ?_)
            · have c3 := c3
              refine sL (pc' := 65) (i := .aload_n 0) rfl rfl ?_
              refine sCvQ (p := 68) (as := []) rfl rfl rfl rfl (by decide) (Nat.le_of_ble_eq_true rfl) rfl (Nat.le_of_ble_eq_true rfl) (sk_179 _) rfl (by omega) (m_nextG hG1) ?_
              rintro _ S2 ⟨rfl, hf2, hN2⟩
              have hA2 : mA S2 y s (i + 2) := by
                rcases hN2 with ⟨_, q⟩ | ⟨q, _⟩
                · exact q
                · omega
              refine sL (pc' := 69) (i := .aload_n 0) rfl rfl ?_
              refine sCvQ (p := 72) (as := []) rfl rfl rfl rfl (by decide) (Nat.le_of_ble_eq_true rfl) rfl (Nat.le_of_ble_eq_true rfl) (sk_179 _) rfl (by omega) (m_nextA hA2) ?_
              rintro _ S3 ⟨rfl, hf3, hN3⟩
              have hf13 := frJ_trans hf1 (frJ_trans hf2 hf3)
              have hv3 := vM_fr hv hf13
              have hm3 := mS_J hm hf13
              have hA3 : mA S3 y s (i + 2 + 1) := by
                rcases hN3 with ⟨_, q⟩ | ⟨q, _⟩
                · exact q
                · exact absurd q (by omega)
              have hnum : SI S3 179 27 = cI (C (i + 2 + 1)) := by rw [hag (i + 2 + 1) (by omega) (Or.inr q2)]; exact hA3.2.2.2.2.2.2.2 q2
              refine sL (pc' := 73) (i := .aload_n 0) rfl rfl ?_
              refine sGi (p := 76) rfl rfl (sk_179 _) rfl rfl rfl hA3.2.1 ?_
              refine sIf_ne (p := 79) rfl rfl ⟨by omega, by omega⟩ (fun c4 => ?_) (fun c4 => ?_)
              · exact absurd c4 (by decide)
              · have c4 := c4
                refine sL (pc' := 80) (i := .aload_n 0) rfl rfl ?_
                refine sGi (p := 83) rfl rfl (sk_179 _) rfl rfl rfl hA3.2.2.2.1 ?_
                refine sKi (p := 84) rfl rfl ?_
                refine sIc_eq (p := 87) rfl rfl ⟨by omega, by omega⟩ ⟨by omega, by omega⟩ (fun c5 => ?_) (fun c5 => ?_)
                · have c5 := c5
                  refine sL (pc' := 97) (i := .aload_n 0) rfl rfl ?_
                  refine sGi (p := 100) rfl rfl (sk_179 _) rfl rfl rfl hA3.2.1 ?_
                  refine sIf_ne (p := 103) rfl rfl ⟨by omega, by omega⟩ (fun c6 => ?_) (fun c6 => ?_)
                  · exact absurd c6 (by decide)
                  · have c6 := c6
                    refine sL (pc' := 104) (i := .aload_n 0) rfl rfl ?_
                    refine sGi (p := 107) rfl rfl (sk_179 _) rfl rfl rfl hnum ?_
                    refine sL (pc' := 108) (i := .aload_n 0) rfl rfl ?_
                    refine sGc (p := 111) rfl rfl (sk_179 _) rfl rfl rfl ?_
                    refine sL (pc' := 112) (i := .iload_n 1) rfl rfl ?_
                    refine sAi (p := 113) (i := v) rfl rfl (sk_180 _) (by omega) ⟨by omega, by omega⟩ (hv3.2.2.2.1 v hvn) ?_
                    refine sIc_lt (p := 116) rfl rfl ⟨by omega, by omega⟩ ⟨by omega, by omega⟩ (fun c7 => ?_) (fun c7 => ?_)
                    · have c7 := c7
                      refine sL (pc' := 126) (i := .aload_n 0) rfl rfl ?_
                      refine sGi (p := 129) rfl rfl (sk_179 _) rfl rfl rfl hnum ?_
                      refine sL (pc' := 131) (i := .istore 4) (ls' := [some (.ref 179), some (.int (iI ((v : Nat) : Int))), some (.int (iI ((tA y s i : Nat) : Int))), some (.int (iI 1)), some (.int (iI (cI (C (i + 2 + 1))))), none]) rfl rfl ?_
                      refine sL (pc' := 132) (i := .aload_n 0) rfl rfl ?_
                      refine sGi (p := 135) rfl rfl (sk_179 _) rfl rfl rfl hA3.2.1 ?_
                      refine sIf_eq (p := 138) rfl rfl ⟨by omega, by omega⟩ (fun c8 => ?_) (fun c8 => ?_)
                      · have c8 := c8
                        refine sT.deeper (d := 1) (vl_tl hv3 hvn hm3 hb hcr ?_) (by decide)
                        intro S' hp hm'
                        exact ⟨rfl, frK_trans (frK_J hf13) (frK_P hp), Or.inl ⟨rfl, mG_P (mG_A hA3) hp, hm'⟩⟩
                      · exact absurd c8 (by decide)
                    · exfalso; omega
                · exfalso; omega
            · exact absurd c3 (by decide)
      · rw [if_pos q3]
        refine sIni (ls := [some (.ref 179), some (.int (iI ((v : Nat) : Int))), some (.int (iI ((tA y s i : Nat) : Int))), none, none, none]) rfl ?_
        refine sL (pc' := 1) (i := .aload_n 0) rfl rfl ?_
        refine sCv (p := 4) (as := []) rfl rfl rfl rfl (by decide) (Nat.le_of_ble_eq_true rfl) rfl (Nat.le_of_ble_eq_true rfl) (sk_179 _) rfl (by omega) (hsk) ?_
        refine sL (pc' := 5) (i := .aload_n 0) rfl rfl ?_
        refine sL (pc' := 6) (i := .aload_n 0) rfl rfl ?_
        refine sGi (p := 9) rfl rfl (sk_179 _) rfl rfl rfl h231 ?_
        refine sCv (p := 12) (as := [_]) rfl rfl rfl rfl (by decide) (Nat.le_of_ble_eq_true rfl) rfl (Nat.le_of_ble_eq_true rfl) (sk_179 _) rfl (by omega) (m_look (p := tA y s (i + 2)) ht1 (by omega)) ?_
        refine sKb (p := 14) rfl rfl ?_
        refine sIc_ne (p := 17) rfl rfl ⟨by omega, by omega⟩ ⟨by omega, by omega⟩ (fun c1 => ?_) (fun c1 => ?_)
        · exfalso; omega
        · have c1 := c1
          refine sL (pc' := 18) (i := .aload_n 0) rfl rfl ?_
          refine sL (pc' := 19) (i := .aload_n 0) rfl rfl ?_
          refine sGi (p := 22) rfl rfl (sk_179 _) rfl rfl rfl h231 ?_
          refine sKi (p := 23) rfl rfl ?_
          refine sAd (p := 24) rfl rfl ?_
          refine sCv (p := 27) (as := [_]) rfl rfl rfl rfl (by decide) (Nat.le_of_ble_eq_true rfl) rfl (Nat.le_of_ble_eq_true rfl) (sk_179 _) rfl (by omega) (m_look (p := (tA y s (i + 2)) + 1) ht1 (by omega)) ?_
          refine sKb (p := 29) rfl rfl ?_
          refine sIc_eq (p := 32) rfl rfl ⟨by omega, by omega⟩ ⟨by omega, by omega⟩ (fun c2 => ?_) (fun c2 => ?_)
          · exfalso; omega
          · have c2 := c2
            refine sKi (p := 33) rfl rfl ?_
            refine sL (i := .goto 4) rfl rfl ?_
            refine sL (pc' := 38) (i := .istore_n 3) (ls' := [some (.ref 179), some (.int (iI ((v : Nat) : Int))), some (.int (iI ((tA y s i : Nat) : Int))), some (.int (iI 1)), none, none]) rfl rfl ?_
            refine sKi (p := 39) rfl rfl ?_
            refine sL (pc' := 41) (i := .istore 4) (ls' := [some (.ref 179), some (.int (iI ((v : Nat) : Int))), some (.int (iI ((tA y s i : Nat) : Int))), some (.int (iI 1)), some (.int (iI 1)), none]) rfl rfl ?_
            refine sL (pc' := 42) (i := .iload_n 3) rfl rfl ?_
            refine sIf_ne (p := 45) rfl rfl ⟨by omega, by omega⟩ (fun c3 => ?_) (fun c3 => ?_)
            · have c3 := c3
              refine sL (pc' := 65) (i := .aload_n 0) rfl rfl ?_
              refine sCvQ (p := 68) (as := []) rfl rfl rfl rfl (by decide) (Nat.le_of_ble_eq_true rfl) rfl (Nat.le_of_ble_eq_true rfl) (sk_179 _) rfl (by omega) (m_nextG hG1) ?_
              rintro _ S2 ⟨rfl, hf2, hN2⟩
              have hA2 : mA S2 y s (i + 2) := by
                rcases hN2 with ⟨_, q⟩ | ⟨q, _⟩
                · exact q
                · omega
              refine sL (pc' := 69) (i := .aload_n 0) rfl rfl ?_
              refine sCvQ (p := 72) (as := []) rfl rfl rfl rfl (by decide) (Nat.le_of_ble_eq_true rfl) rfl (Nat.le_of_ble_eq_true rfl) (sk_179 _) rfl (by omega) (m_nextA hA2) ?_
              rintro _ S3 ⟨rfl, hf3, hN3⟩
              have hf13 := frJ_trans hf1 (frJ_trans hf2 hf3)
              have hv3 := vM_fr hv hf13
              have hm3 := mS_J hm hf13
              have hA3 : mA S3 y s (i + 2 + 1) := by
                rcases hN3 with ⟨_, q⟩ | ⟨q, _⟩
                · exact q
                · exact absurd q (by omega)
              have hnum : SI S3 179 27 = cI (C (i + 2 + 1)) := by rw [hag (i + 2 + 1) (by omega) (Or.inr q2)]; exact hA3.2.2.2.2.2.2.2 q2
              refine sL (pc' := 73) (i := .aload_n 0) rfl rfl ?_
              refine sGi (p := 76) rfl rfl (sk_179 _) rfl rfl rfl hA3.2.1 ?_
              refine sIf_ne (p := 79) rfl rfl ⟨by omega, by omega⟩ (fun c4 => ?_) (fun c4 => ?_)
              · exact absurd c4 (by decide)
              · have c4 := c4
                refine sL (pc' := 80) (i := .aload_n 0) rfl rfl ?_
                refine sGi (p := 83) rfl rfl (sk_179 _) rfl rfl rfl hA3.2.2.2.1 ?_
                refine sKi (p := 84) rfl rfl ?_
                refine sIc_eq (p := 87) rfl rfl ⟨by omega, by omega⟩ ⟨by omega, by omega⟩ (fun c5 => ?_) (fun c5 => ?_)
                · have c5 := c5
                  refine sL (pc' := 97) (i := .aload_n 0) rfl rfl ?_
                  refine sGi (p := 100) rfl rfl (sk_179 _) rfl rfl rfl hA3.2.1 ?_
                  refine sIf_ne (p := 103) rfl rfl ⟨by omega, by omega⟩ (fun c6 => ?_) (fun c6 => ?_)
                  · exact absurd c6 (by decide)
                  · have c6 := c6
                    refine sL (pc' := 104) (i := .aload_n 0) rfl rfl ?_
                    refine sGi (p := 107) rfl rfl (sk_179 _) rfl rfl rfl hnum ?_
                    refine sL (pc' := 108) (i := .aload_n 0) rfl rfl ?_
                    refine sGc (p := 111) rfl rfl (sk_179 _) rfl rfl rfl ?_
                    refine sL (pc' := 112) (i := .iload_n 1) rfl rfl ?_
                    refine sAi (p := 113) (i := v) rfl rfl (sk_180 _) (by omega) ⟨by omega, by omega⟩ (hv3.2.2.2.1 v hvn) ?_
                    refine sIc_lt (p := 116) rfl rfl ⟨by omega, by omega⟩ ⟨by omega, by omega⟩ (fun c7 => ?_) (fun c7 => ?_)
                    · exfalso; omega
                    · have c7 := c7
                      refine sL (pc' := 117) (i := .aload_n 0) rfl rfl ?_
                      refine sKi (p := 118) rfl rfl ?_
                      refine sL (pc' := 119) (i := .aload_n 0) rfl rfl ?_
                      refine sGi (p := 122) rfl rfl (sk_179 _) rfl rfl rfl hA3.2.2.2.2.1 ?_
                      refine sCv (p := 125) (as := [_, _]) rfl rfl rfl rfl (by decide) (Nat.le_of_ble_eq_true rfl) rfl (Nat.le_of_ble_eq_true rfl) (sk_179 _) rfl (by omega) (m_bad (kz := 0) hA3.2.1 ⟨by decide, by decide⟩) ?_
                      refine sL (pc' := 126) (i := .aload_n 0) rfl rfl ?_
                      refine sGi (p := 129) rfl rfl (sk_179 _) rfl rfl rfl ((bdS_f (by decide)).trans hnum) ?_
                      refine sL (pc' := 131) (i := .istore 4) (ls' := [some (.ref 179), some (.int (iI ((v : Nat) : Int))), some (.int (iI ((tA y s i : Nat) : Int))), some (.int (iI 1)), some (.int (iI (cI (C (i + 2 + 1))))), none]) rfl rfl ?_
                      refine sL (pc' := 132) (i := .aload_n 0) rfl rfl ?_
                      refine sGi (p := 135) rfl rfl (sk_179 _) rfl rfl rfl ((bd_14 hA3.2.1).trans (if_pos rfl)) ?_
                      refine sIf_eq (p := 138) rfl rfl ⟨by omega, by omega⟩ (fun c8 => ?_) (fun c8 => ?_)
                      · exact absurd c8 (by decide)
                      · have c8 := c8
                        refine sEn (i := .return_) rfl (rfl) ?_
                        have hbd := mX_bd (k := 4) (q := tA y s (i + 2 + 1)) hA3.1 hA3.2.1 ⟨by decide, by decide⟩ rfl (tP_le (i + 2 + 1 + 1)) hA3.2.2.1
                        exact ⟨rfl, frK_trans (frK_J hf13) (frK_J hbd.2), Or.inr ⟨(show (4 : Nat) ≠ 0 by decide), hbd.1⟩⟩
                · exfalso; omega
            · exact absurd c3 (by decide)
    · rw [if_pos q2]
      have e3 : rc (tk y s (i + 2 + 1)) ≠ 2 := fun z => q2 ((rc_2 hk3 tk_big).mp z)
      by_cases q4 : tk y s (i + 2 + 1) = 265
      · rw [show rf (tk y s) 2 (i + 2 + 1) = 1 from if_pos ⟨rfl, q4⟩]
        refine sIni (ls := [some (.ref 179), some (.int (iI ((v : Nat) : Int))), some (.int (iI ((tA y s i : Nat) : Int))), none, none, none]) rfl ?_
        refine sL (pc' := 1) (i := .aload_n 0) rfl rfl ?_
        refine sCv (p := 4) (as := []) rfl rfl rfl rfl (by decide) (Nat.le_of_ble_eq_true rfl) rfl (Nat.le_of_ble_eq_true rfl) (sk_179 _) rfl (by omega) (hsk) ?_
        refine sL (pc' := 5) (i := .aload_n 0) rfl rfl ?_
        refine sL (pc' := 6) (i := .aload_n 0) rfl rfl ?_
        refine sGi (p := 9) rfl rfl (sk_179 _) rfl rfl rfl h231 ?_
        refine sCv (p := 12) (as := [_]) rfl rfl rfl rfl (by decide) (Nat.le_of_ble_eq_true rfl) rfl (Nat.le_of_ble_eq_true rfl) (sk_179 _) rfl (by omega) (m_look (p := tA y s (i + 2)) ht1 (by omega)) ?_
        refine sKb (p := 14) rfl rfl ?_
        refine sIc_ne (p := 17) rfl rfl ⟨by omega, by omega⟩ ⟨by omega, by omega⟩ (fun c1 => ?_) (fun c1 => ?_)
        · exfalso; omega
        · have c1 := c1
          refine sL (pc' := 18) (i := .aload_n 0) rfl rfl ?_
          refine sL (pc' := 19) (i := .aload_n 0) rfl rfl ?_
          refine sGi (p := 22) rfl rfl (sk_179 _) rfl rfl rfl h231 ?_
          refine sKi (p := 23) rfl rfl ?_
          refine sAd (p := 24) rfl rfl ?_
          refine sCv (p := 27) (as := [_]) rfl rfl rfl rfl (by decide) (Nat.le_of_ble_eq_true rfl) rfl (Nat.le_of_ble_eq_true rfl) (sk_179 _) rfl (by omega) (m_look (p := (tA y s (i + 2)) + 1) ht1 (by omega)) ?_
          refine sKb (p := 29) rfl rfl ?_
          refine sIc_eq (p := 32) rfl rfl ⟨by omega, by omega⟩ ⟨by omega, by omega⟩ (fun c2 => ?_) (fun c2 => ?_)
          · exfalso; omega
          · have c2 := c2
            refine sKi (p := 33) rfl rfl ?_
            refine sL (i := .goto 4) rfl rfl ?_
            refine sL (pc' := 38) (i := .istore_n 3) (ls' := [some (.ref 179), some (.int (iI ((v : Nat) : Int))), some (.int (iI ((tA y s i : Nat) : Int))), some (.int (iI 1)), none, none]) rfl rfl ?_
            refine sKi (p := 39) rfl rfl ?_
            refine sL (pc' := 41) (i := .istore 4) (ls' := [some (.ref 179), some (.int (iI ((v : Nat) : Int))), some (.int (iI ((tA y s i : Nat) : Int))), some (.int (iI 1)), some (.int (iI 1)), none]) rfl rfl ?_
            refine sL (pc' := 42) (i := .iload_n 3) rfl rfl ?_
            refine sIf_ne (p := 45) rfl rfl ⟨by omega, by omega⟩ (fun c3 => ?_) (fun c3 => ?_)
            · have c3 := c3
              refine sL (pc' := 65) (i := .aload_n 0) rfl rfl ?_
              refine sCvQ (p := 68) (as := []) rfl rfl rfl rfl (by decide) (Nat.le_of_ble_eq_true rfl) rfl (Nat.le_of_ble_eq_true rfl) (sk_179 _) rfl (by omega) (m_nextG hG1) ?_
              rintro _ S2 ⟨rfl, hf2, hN2⟩
              have hA2 : mA S2 y s (i + 2) := by
                rcases hN2 with ⟨_, q⟩ | ⟨q, _⟩
                · exact q
                · omega
              refine sL (pc' := 69) (i := .aload_n 0) rfl rfl ?_
              refine sCvQ (p := 72) (as := []) rfl rfl rfl rfl (by decide) (Nat.le_of_ble_eq_true rfl) rfl (Nat.le_of_ble_eq_true rfl) (sk_179 _) rfl (by omega) (m_nextA hA2) ?_
              rintro _ S3 ⟨rfl, hf3, hN3⟩
              have hf13 := frJ_trans hf1 (frJ_trans hf2 hf3)
              have hv3 := vM_fr hv hf13
              have hm3 := mS_J hm hf13
              have hX3 : mX S3 y s 1 (tA y s (i + 2 + 1)) := by
                rcases hN3 with ⟨q, _⟩ | ⟨_, q⟩
                · exact absurd q4 q
                · exact q
              obtain ⟨zn, hnum⟩ : ∃ zn, SI S3 179 27 = zn := ⟨_, rfl⟩
              refine sL (pc' := 73) (i := .aload_n 0) rfl rfl ?_
              refine sGi (p := 76) rfl rfl (sk_179 _) rfl rfl rfl hX3.2.1 ?_
              refine sIf_ne (p := 79) rfl rfl ⟨by omega, by omega⟩ (fun c4 => ?_) (fun c4 => ?_)
              · have c4 := c4
                refine sL (pc' := 97) (i := .aload_n 0) rfl rfl ?_
                refine sGi (p := 100) rfl rfl (sk_179 _) rfl rfl rfl hX3.2.1 ?_
                refine sIf_ne (p := 103) rfl rfl ⟨by omega, by omega⟩ (fun c5 => ?_) (fun c5 => ?_)
                · have c5 := c5
                  refine sL (pc' := 126) (i := .aload_n 0) rfl rfl ?_
                  refine sGi (p := 129) rfl rfl (sk_179 _) rfl rfl rfl hnum ?_
                  refine sL (pc' := 131) (i := .istore 4) (ls' := [some (.ref 179), some (.int (iI ((v : Nat) : Int))), some (.int (iI ((tA y s i : Nat) : Int))), some (.int (iI 1)), some (.int (iI zn)), none]) rfl rfl ?_
                  refine sL (pc' := 132) (i := .aload_n 0) rfl rfl ?_
                  refine sGi (p := 135) rfl rfl (sk_179 _) rfl rfl rfl hX3.2.1 ?_
                  refine sIf_eq (p := 138) rfl rfl ⟨by omega, by omega⟩ (fun c6 => ?_) (fun c6 => ?_)
                  · exact absurd c6 (by decide)
                  · have c6 := c6
                    refine sEn (i := .return_) rfl (rfl) ?_
                    exact ⟨rfl, frK_J hf13, Or.inr ⟨(show (1 : Nat) ≠ 0 by decide), hX3⟩⟩
                · exact absurd c5 (by decide)
              · exact absurd c4 (by decide)
            · exact absurd c3 (by decide)
      · rw [show rf (tk y s) 2 (i + 2 + 1) = 2 from if_neg (fun z => q4 z.2)]
        refine sIni (ls := [some (.ref 179), some (.int (iI ((v : Nat) : Int))), some (.int (iI ((tA y s i : Nat) : Int))), none, none, none]) rfl ?_
        refine sL (pc' := 1) (i := .aload_n 0) rfl rfl ?_
        refine sCv (p := 4) (as := []) rfl rfl rfl rfl (by decide) (Nat.le_of_ble_eq_true rfl) rfl (Nat.le_of_ble_eq_true rfl) (sk_179 _) rfl (by omega) (hsk) ?_
        refine sL (pc' := 5) (i := .aload_n 0) rfl rfl ?_
        refine sL (pc' := 6) (i := .aload_n 0) rfl rfl ?_
        refine sGi (p := 9) rfl rfl (sk_179 _) rfl rfl rfl h231 ?_
        refine sCv (p := 12) (as := [_]) rfl rfl rfl rfl (by decide) (Nat.le_of_ble_eq_true rfl) rfl (Nat.le_of_ble_eq_true rfl) (sk_179 _) rfl (by omega) (m_look (p := tA y s (i + 2)) ht1 (by omega)) ?_
        refine sKb (p := 14) rfl rfl ?_
        refine sIc_ne (p := 17) rfl rfl ⟨by omega, by omega⟩ ⟨by omega, by omega⟩ (fun c1 => ?_) (fun c1 => ?_)
        · exfalso; omega
        · have c1 := c1
          refine sL (pc' := 18) (i := .aload_n 0) rfl rfl ?_
          refine sL (pc' := 19) (i := .aload_n 0) rfl rfl ?_
          refine sGi (p := 22) rfl rfl (sk_179 _) rfl rfl rfl h231 ?_
          refine sKi (p := 23) rfl rfl ?_
          refine sAd (p := 24) rfl rfl ?_
          refine sCv (p := 27) (as := [_]) rfl rfl rfl rfl (by decide) (Nat.le_of_ble_eq_true rfl) rfl (Nat.le_of_ble_eq_true rfl) (sk_179 _) rfl (by omega) (m_look (p := (tA y s (i + 2)) + 1) ht1 (by omega)) ?_
          refine sKb (p := 29) rfl rfl ?_
          refine sIc_eq (p := 32) rfl rfl ⟨by omega, by omega⟩ ⟨by omega, by omega⟩ (fun c2 => ?_) (fun c2 => ?_)
          · exfalso; omega
          · have c2 := c2
            refine sKi (p := 33) rfl rfl ?_
            refine sL (i := .goto 4) rfl rfl ?_
            refine sL (pc' := 38) (i := .istore_n 3) (ls' := [some (.ref 179), some (.int (iI ((v : Nat) : Int))), some (.int (iI ((tA y s i : Nat) : Int))), some (.int (iI 1)), none, none]) rfl rfl ?_
            refine sKi (p := 39) rfl rfl ?_
            refine sL (pc' := 41) (i := .istore 4) (ls' := [some (.ref 179), some (.int (iI ((v : Nat) : Int))), some (.int (iI ((tA y s i : Nat) : Int))), some (.int (iI 1)), some (.int (iI 1)), none]) rfl rfl ?_
            refine sL (pc' := 42) (i := .iload_n 3) rfl rfl ?_
            refine sIf_ne (p := 45) rfl rfl ⟨by omega, by omega⟩ (fun c3 => ?_) (fun c3 => ?_)
            · have c3 := c3
              refine sL (pc' := 65) (i := .aload_n 0) rfl rfl ?_
              refine sCvQ (p := 68) (as := []) rfl rfl rfl rfl (by decide) (Nat.le_of_ble_eq_true rfl) rfl (Nat.le_of_ble_eq_true rfl) (sk_179 _) rfl (by omega) (m_nextG hG1) ?_
              rintro _ S2 ⟨rfl, hf2, hN2⟩
              have hA2 : mA S2 y s (i + 2) := by
                rcases hN2 with ⟨_, q⟩ | ⟨q, _⟩
                · exact q
                · omega
              refine sL (pc' := 69) (i := .aload_n 0) rfl rfl ?_
              refine sCvQ (p := 72) (as := []) rfl rfl rfl rfl (by decide) (Nat.le_of_ble_eq_true rfl) rfl (Nat.le_of_ble_eq_true rfl) (sk_179 _) rfl (by omega) (m_nextA hA2) ?_
              rintro _ S3 ⟨rfl, hf3, hN3⟩
              have hf13 := frJ_trans hf1 (frJ_trans hf2 hf3)
              have hv3 := vM_fr hv hf13
              have hm3 := mS_J hm hf13
              have hA3 : mA S3 y s (i + 2 + 1) := by
                rcases hN3 with ⟨_, q⟩ | ⟨q, _⟩
                · exact q
                · exact absurd q q4
              obtain ⟨zn, hnum⟩ : ∃ zn, SI S3 179 27 = zn := ⟨_, rfl⟩
              refine sL (pc' := 73) (i := .aload_n 0) rfl rfl ?_
              refine sGi (p := 76) rfl rfl (sk_179 _) rfl rfl rfl hA3.2.1 ?_
              refine sIf_ne (p := 79) rfl rfl ⟨by omega, by omega⟩ (fun c4 => ?_) (fun c4 => ?_)
              · exact absurd c4 (by decide)
              · have c4 := c4
                refine sL (pc' := 80) (i := .aload_n 0) rfl rfl ?_
                refine sGi (p := 83) rfl rfl (sk_179 _) rfl rfl rfl hA3.2.2.2.1 ?_
                refine sKi (p := 84) rfl rfl ?_
                refine sIc_eq (p := 87) rfl rfl ⟨by omega, by omega⟩ ⟨by omega, by omega⟩ (fun c5 => ?_) (fun c5 => ?_)
                · exfalso; omega
                · have c5 := c5
                  refine sL (pc' := 88) (i := .aload_n 0) rfl rfl ?_
                  refine sKi (p := 89) rfl rfl ?_
                  refine sL (pc' := 90) (i := .aload_n 0) rfl rfl ?_
                  refine sGi (p := 93) rfl rfl (sk_179 _) rfl rfl rfl hA3.2.2.2.2.1 ?_
                  refine sCv (p := 96) (as := [_, _]) rfl rfl rfl rfl (by decide) (Nat.le_of_ble_eq_true rfl) rfl (Nat.le_of_ble_eq_true rfl) (sk_179 _) rfl (by omega) (m_bad (kz := 0) hA3.2.1 ⟨by decide, by decide⟩) ?_
                  refine sL (pc' := 97) (i := .aload_n 0) rfl rfl ?_
                  refine sGi (p := 100) rfl rfl (sk_179 _) rfl rfl rfl ((bd_14 hA3.2.1).trans (if_pos rfl)) ?_
                  refine sIf_ne (p := 103) rfl rfl ⟨by omega, by omega⟩ (fun c6 => ?_) (fun c6 => ?_)
                  · have c6 := c6
                    refine sL (pc' := 126) (i := .aload_n 0) rfl rfl ?_
                    refine sGi (p := 129) rfl rfl (sk_179 _) rfl rfl rfl ((bdS_f (by decide)).trans hnum) ?_
                    refine sL (pc' := 131) (i := .istore 4) (ls' := [some (.ref 179), some (.int (iI ((v : Nat) : Int))), some (.int (iI ((tA y s i : Nat) : Int))), some (.int (iI 1)), some (.int (iI zn)), none]) rfl rfl ?_
                    refine sL (pc' := 132) (i := .aload_n 0) rfl rfl ?_
                    refine sGi (p := 135) rfl rfl (sk_179 _) rfl rfl rfl ((bd_14 hA3.2.1).trans (if_pos rfl)) ?_
                    refine sIf_eq (p := 138) rfl rfl ⟨by omega, by omega⟩ (fun c7 => ?_) (fun c7 => ?_)
                    · exact absurd c7 (by decide)
                    · have c7 := c7
                      refine sEn (i := .return_) rfl (rfl) ?_
                      have hbd := mX_bd (k := 2) (q := tA y s (i + 2 + 1)) hA3.1 hA3.2.1 ⟨by decide, by decide⟩ rfl (tP_le (i + 2 + 1 + 1)) hA3.2.2.1
                      exact ⟨rfl, frK_trans (frK_J hf13) (frK_J hbd.2), Or.inr ⟨(show (2 : Nat) ≠ 0 by decide), hbd.1⟩⟩
                  · exact absurd c6 (by decide)
            · exact absurd c3 (by decide)
  · rw [if_neg q1]
    have q1' : ¬ (bA y s (tA y s (i + 2)) = 61 ∧ bA y s (tA y s (i + 2) + 1) ≠ 62) := fun z => q1 (tK_61.mpr z)
    by_cases q2 : sz v = 2
    · rw [if_neg (fun z => z q2)]
      refine sIni (ls := [some (.ref 179), some (.int (iI ((v : Nat) : Int))), some (.int (iI ((tA y s i : Nat) : Int))), none, none, none]) rfl ?_
      refine sL (pc' := 1) (i := .aload_n 0) rfl rfl ?_
      refine sCv (p := 4) (as := []) rfl rfl rfl rfl (by decide) (Nat.le_of_ble_eq_true rfl) rfl (Nat.le_of_ble_eq_true rfl) (sk_179 _) rfl (by omega) (hsk) ?_
      refine sL (pc' := 5) (i := .aload_n 0) rfl rfl ?_
      refine sL (pc' := 6) (i := .aload_n 0) rfl rfl ?_
      refine sGi (p := 9) rfl rfl (sk_179 _) rfl rfl rfl h231 ?_
      refine sCv (p := 12) (as := [_]) rfl rfl rfl rfl (by decide) (Nat.le_of_ble_eq_true rfl) rfl (Nat.le_of_ble_eq_true rfl) (sk_179 _) rfl (by omega) (m_look (p := tA y s (i + 2)) ht1 (by omega)) ?_
      refine sKb (p := 14) rfl rfl ?_
      refine sIc_ne (p := 17) rfl rfl ⟨by omega, by omega⟩ ⟨by omega, by omega⟩ (fun c1 => ?_) (fun c1 => ?_)
      · have c1 := c1
        refine sKi (p := 37) rfl rfl ?_
        refine sL (pc' := 38) (i := .istore_n 3) (ls' := [some (.ref 179), some (.int (iI ((v : Nat) : Int))), some (.int (iI ((tA y s i : Nat) : Int))), some (.int (iI 0)), none, none]) rfl rfl ?_
        refine sKi (p := 39) rfl rfl ?_
        refine sL (pc' := 41) (i := .istore 4) (ls' := [some (.ref 179), some (.int (iI ((v : Nat) : Int))), some (.int (iI ((tA y s i : Nat) : Int))), some (.int (iI 0)), some (.int (iI 1)), none]) rfl rfl ?_
        refine sL (pc' := 42) (i := .iload_n 3) rfl rfl ?_
        refine sIf_ne (p := 45) rfl rfl ⟨by omega, by omega⟩ (fun c2 => ?_) (fun c2 => ?_)
        · exact absurd c2 (by decide)
        · have c2 := c2
          refine sL (pc' := 46) (i := .aload_n 0) rfl rfl ?_
          refine sGc (p := 49) rfl rfl (sk_179 _) rfl rfl rfl ?_
          refine sL (pc' := 50) (i := .iload_n 1) rfl rfl ?_
          refine sAi (p := 51) (i := v) rfl rfl (sk_180 _) (by omega) ⟨by omega, by omega⟩ (hv1.2.2.2.1 v hvn) ?_
          refine sKi (p := 52) rfl rfl ?_
          refine sIc_eq (p := 55) rfl rfl ⟨by omega, by omega⟩ ⟨by omega, by omega⟩ (fun c3 => ?_) (fun c3 => ?_)
          · have c3 := c3
            refine sL (pc' := 132) (i := .aload_n 0) rfl rfl ?_
            refine sGi (p := 135) rfl rfl (sk_179 _) rfl rfl rfl h141 ?_
            refine sIf_eq (p := 138) rfl rfl ⟨by omega, by omega⟩ (fun c4 => ?_) (fun c4 => ?_)
            · have c4 := c4
              refine sT.deeper (d := 1) (vl_tl hv1 hvn hm1 hb ⟨by decide, by decide⟩ ?_) (by decide)
              intro S' hp hm'
              exact ⟨rfl, frK_trans (frK_J hf1) (frK_P hp), Or.inl ⟨rfl, mG_P hG1 hp, hm'⟩⟩
            · exact absurd c4 (by decide)
          · exfalso; omega
      · have c1 := c1
        refine sL (pc' := 18) (i := .aload_n 0) rfl rfl ?_
        refine sL (pc' := 19) (i := .aload_n 0) rfl rfl ?_
        refine sGi (p := 22) rfl rfl (sk_179 _) rfl rfl rfl h231 ?_
        refine sKi (p := 23) rfl rfl ?_
        refine sAd (p := 24) rfl rfl ?_
        refine sCv (p := 27) (as := [_]) rfl rfl rfl rfl (by decide) (Nat.le_of_ble_eq_true rfl) rfl (Nat.le_of_ble_eq_true rfl) (sk_179 _) rfl (by omega) (m_look (p := (tA y s (i + 2)) + 1) ht1 (by omega)) ?_
        refine sKb (p := 29) rfl rfl ?_
        refine sIc_eq (p := 32) rfl rfl ⟨by omega, by omega⟩ ⟨by omega, by omega⟩ (fun c5 => ?_) (fun c5 => ?_)
        · have c5 := c5
          refine sKi (p := 37) rfl rfl ?_
          refine sL (pc' := 38) (i := .istore_n 3) (ls' := [some (.ref 179), some (.int (iI ((v : Nat) : Int))), some (.int (iI ((tA y s i : Nat) : Int))), some (.int (iI 0)), none, none]) rfl rfl ?_
          refine sKi (p := 39) rfl rfl ?_
          refine sL (pc' := 41) (i := .istore 4) (ls' := [some (.ref 179), some (.int (iI ((v : Nat) : Int))), some (.int (iI ((tA y s i : Nat) : Int))), some (.int (iI 0)), some (.int (iI 1)), none]) rfl rfl ?_
          refine sL (pc' := 42) (i := .iload_n 3) rfl rfl ?_
          refine sIf_ne (p := 45) rfl rfl ⟨by omega, by omega⟩ (fun c6 => ?_) (fun c6 => ?_)
          · exact absurd c6 (by decide)
          · have c6 := c6
            refine sL (pc' := 46) (i := .aload_n 0) rfl rfl ?_
            refine sGc (p := 49) rfl rfl (sk_179 _) rfl rfl rfl ?_
            refine sL (pc' := 50) (i := .iload_n 1) rfl rfl ?_
            refine sAi (p := 51) (i := v) rfl rfl (sk_180 _) (by omega) ⟨by omega, by omega⟩ (hv1.2.2.2.1 v hvn) ?_
            refine sKi (p := 52) rfl rfl ?_
            refine sIc_eq (p := 55) rfl rfl ⟨by omega, by omega⟩ ⟨by omega, by omega⟩ (fun c7 => ?_) (fun c7 => ?_)
            · have c7 := c7
              refine sL (pc' := 132) (i := .aload_n 0) rfl rfl ?_
              refine sGi (p := 135) rfl rfl (sk_179 _) rfl rfl rfl h141 ?_
              refine sIf_eq (p := 138) rfl rfl ⟨by omega, by omega⟩ (fun c8 => ?_) (fun c8 => ?_)
              · have c8 := c8
                refine sT.deeper (d := 1) (vl_tl hv1 hvn hm1 hb ⟨by decide, by decide⟩ ?_) (by decide)
                intro S' hp hm'
                exact ⟨rfl, frK_trans (frK_J hf1) (frK_P hp), Or.inl ⟨rfl, mG_P hG1 hp, hm'⟩⟩
              · exact absurd c8 (by decide)
            · exfalso; omega
        · exfalso; omega
    · rw [if_pos q2]
      refine sIni (ls := [some (.ref 179), some (.int (iI ((v : Nat) : Int))), some (.int (iI ((tA y s i : Nat) : Int))), none, none, none]) rfl ?_
      refine sL (pc' := 1) (i := .aload_n 0) rfl rfl ?_
      refine sCv (p := 4) (as := []) rfl rfl rfl rfl (by decide) (Nat.le_of_ble_eq_true rfl) rfl (Nat.le_of_ble_eq_true rfl) (sk_179 _) rfl (by omega) (hsk) ?_
      refine sL (pc' := 5) (i := .aload_n 0) rfl rfl ?_
      refine sL (pc' := 6) (i := .aload_n 0) rfl rfl ?_
      refine sGi (p := 9) rfl rfl (sk_179 _) rfl rfl rfl h231 ?_
      refine sCv (p := 12) (as := [_]) rfl rfl rfl rfl (by decide) (Nat.le_of_ble_eq_true rfl) rfl (Nat.le_of_ble_eq_true rfl) (sk_179 _) rfl (by omega) (m_look (p := tA y s (i + 2)) ht1 (by omega)) ?_
      refine sKb (p := 14) rfl rfl ?_
      refine sIc_ne (p := 17) rfl rfl ⟨by omega, by omega⟩ ⟨by omega, by omega⟩ (fun c1 => ?_) (fun c1 => ?_)
      · have c1 := c1
        refine sKi (p := 37) rfl rfl ?_
        refine sL (pc' := 38) (i := .istore_n 3) (ls' := [some (.ref 179), some (.int (iI ((v : Nat) : Int))), some (.int (iI ((tA y s i : Nat) : Int))), some (.int (iI 0)), none, none]) rfl rfl ?_
        refine sKi (p := 39) rfl rfl ?_
        refine sL (pc' := 41) (i := .istore 4) (ls' := [some (.ref 179), some (.int (iI ((v : Nat) : Int))), some (.int (iI ((tA y s i : Nat) : Int))), some (.int (iI 0)), some (.int (iI 1)), none]) rfl rfl ?_
        refine sL (pc' := 42) (i := .iload_n 3) rfl rfl ?_
        refine sIf_ne (p := 45) rfl rfl ⟨by omega, by omega⟩ (fun c2 => ?_) (fun c2 => ?_)
        · exact absurd c2 (by decide)
        · have c2 := c2
          refine sL (pc' := 46) (i := .aload_n 0) rfl rfl ?_
          refine sGc (p := 49) rfl rfl (sk_179 _) rfl rfl rfl ?_
          refine sL (pc' := 50) (i := .iload_n 1) rfl rfl ?_
          refine sAi (p := 51) (i := v) rfl rfl (sk_180 _) (by omega) ⟨by omega, by omega⟩ (hv1.2.2.2.1 v hvn) ?_
          refine sKi (p := 52) rfl rfl ?_
          refine sIc_eq (p := 55) rfl rfl ⟨by omega, by omega⟩ ⟨by omega, by omega⟩ (fun c3 => ?_) (fun c3 => ?_)
          · exfalso; omega
          · have c3 := c3
            refine sL (pc' := 56) (i := .aload_n 0) rfl rfl ?_
            refine sKi (p := 57) rfl rfl ?_
            refine sL (pc' := 58) (i := .iload_n 2) rfl rfl ?_
            refine sCv (p := 61) (as := [_, _]) rfl rfl rfl rfl (by decide) (Nat.le_of_ble_eq_true rfl) rfl (Nat.le_of_ble_eq_true rfl) (sk_179 _) rfl (by omega) (m_bad (kz := 0) h141 ⟨by decide, by decide⟩) ?_
            refine sL (i := .goto 70) rfl rfl ?_
            refine sL (pc' := 132) (i := .aload_n 0) rfl rfl ?_
            refine sGi (p := 135) rfl rfl (sk_179 _) rfl rfl rfl ((bd_14 h141).trans (if_pos rfl)) ?_
            refine sIf_eq (p := 138) rfl rfl ⟨by omega, by omega⟩ (fun c4 => ?_) (fun c4 => ?_)
            · exact absurd c4 (by decide)
            · have c4 := c4
              refine sEn (i := .return_) rfl (rfl) ?_
              have hbd := mX_bd (k := 4) (q := tA y s i) ht1 h141 ⟨by decide, by decide⟩ rfl ha1 h231
              exact ⟨rfl, frK_trans (frK_J hf1) (frK_J hbd.2), Or.inr ⟨(show (4 : Nat) ≠ 0 by decide), hbd.1⟩⟩
      · have c1 := c1
        refine sL (pc' := 18) (i := .aload_n 0) rfl rfl ?_
        refine sL (pc' := 19) (i := .aload_n 0) rfl rfl ?_
        refine sGi (p := 22) rfl rfl (sk_179 _) rfl rfl rfl h231 ?_
        refine sKi (p := 23) rfl rfl ?_
        refine sAd (p := 24) rfl rfl ?_
        refine sCv (p := 27) (as := [_]) rfl rfl rfl rfl (by decide) (Nat.le_of_ble_eq_true rfl) rfl (Nat.le_of_ble_eq_true rfl) (sk_179 _) rfl (by omega) (m_look (p := (tA y s (i + 2)) + 1) ht1 (by omega)) ?_
        refine sKb (p := 29) rfl rfl ?_
        refine sIc_eq (p := 32) rfl rfl ⟨by omega, by omega⟩ ⟨by omega, by omega⟩ (fun c5 => ?_) (fun c5 => ?_)
        · have c5 := c5
          refine sKi (p := 37) rfl rfl ?_
          refine sL (pc' := 38) (i := .istore_n 3) (ls' := [some (.ref 179), some (.int (iI ((v : Nat) : Int))), some (.int (iI ((tA y s i : Nat) : Int))), some (.int (iI 0)), none, none]) rfl rfl ?_
          refine sKi (p := 39) rfl rfl ?_
          refine sL (pc' := 41) (i := .istore 4) (ls' := [some (.ref 179), some (.int (iI ((v : Nat) : Int))), some (.int (iI ((tA y s i : Nat) : Int))), some (.int (iI 0)), some (.int (iI 1)), none]) rfl rfl ?_
          refine sL (pc' := 42) (i := .iload_n 3) rfl rfl ?_
          refine sIf_ne (p := 45) rfl rfl ⟨by omega, by omega⟩ (fun c6 => ?_) (fun c6 => ?_)
          · exact absurd c6 (by decide)
          · have c6 := c6
            refine sL (pc' := 46) (i := .aload_n 0) rfl rfl ?_
            refine sGc (p := 49) rfl rfl (sk_179 _) rfl rfl rfl ?_
            refine sL (pc' := 50) (i := .iload_n 1) rfl rfl ?_
            refine sAi (p := 51) (i := v) rfl rfl (sk_180 _) (by omega) ⟨by omega, by omega⟩ (hv1.2.2.2.1 v hvn) ?_
            refine sKi (p := 52) rfl rfl ?_
            refine sIc_eq (p := 55) rfl rfl ⟨by omega, by omega⟩ ⟨by omega, by omega⟩ (fun c7 => ?_) (fun c7 => ?_)
            · exfalso; omega
            · have c7 := c7
              refine sL (pc' := 56) (i := .aload_n 0) rfl rfl ?_
              refine sKi (p := 57) rfl rfl ?_
              refine sL (pc' := 58) (i := .iload_n 2) rfl rfl ?_
              refine sCv (p := 61) (as := [_, _]) rfl rfl rfl rfl (by decide) (Nat.le_of_ble_eq_true rfl) rfl (Nat.le_of_ble_eq_true rfl) (sk_179 _) rfl (by omega) (m_bad (kz := 0) h141 ⟨by decide, by decide⟩) ?_
              refine sL (i := .goto 70) rfl rfl ?_
              refine sL (pc' := 132) (i := .aload_n 0) rfl rfl ?_
              refine sGi (p := 135) rfl rfl (sk_179 _) rfl rfl rfl ((bd_14 h141).trans (if_pos rfl)) ?_
              refine sIf_eq (p := 138) rfl rfl ⟨by omega, by omega⟩ (fun c8 => ?_) (fun c8 => ?_)
              · exact absurd c8 (by decide)
              · have c8 := c8
                refine sEn (i := .return_) rfl (rfl) ?_
                have hbd := mX_bd (k := 4) (q := tA y s i) ht1 h141 ⟨by decide, by decide⟩ rfl ha1 h231
                exact ⟨rfl, frK_trans (frK_J hf1) (frK_J hbd.2), Or.inr ⟨(show (4 : Nat) ≠ 0 by decide), hbd.1⟩⟩
        · exfalso; omega
end MC
