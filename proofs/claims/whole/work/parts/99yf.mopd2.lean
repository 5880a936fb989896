/-! ===== the reference's reading: operand, lists and leaves ===== -/
section MF
variable {X : List Int32} {S : ST} {y : Nat → Nat} {s i n : Nat} {sz : Nat → Nat} {W : List (Int × Int)} {V : List (Nat → Bool)} {C : Nat → Int64}

theorem m_op_some (hv : vM S n sz) (h : mA S y s i) (q : tk y s i = 262) (hi : i ≤ nT y s) (hag : agC C y s) (hm : mS n S W V) (hl : W.length ≤ i) (hd : dpW W < 20) : sM X 4 208 [.ref 179] S (fun r S' => r = some (.int (iI (bI false))) ∧ frK S S' ∧ (((pVs (tk y s) C n (i + 1) (nVs (tk y s) C n (i + 1))).1 = 0 ∧ tk y s (pVs (tk y s) C n (i + 1) (nVs (tk y s) C n (i + 1))).2.1 = 46 ∧ mN S' y s ((pVs (tk y s) C n (i + 1) (nVs (tk y s) C n (i + 1))).2.1 + 1) ∧ mS n S' (vsL (tk y s) C n (i + 1) 301 W (nVs (tk y s) C n (i + 1) + 1)) V) ∨ (∃ k j, qlB (tk y s) C n (i + 1) k j ∧ mX S' y s k (tA y s j)))) := by
  have h20 : dpW W ≤ 20 := by omega
  have hd : ¬ dpW W = 20 := by omega
  have hr0 := rc_b (k := tk y s i) (tK_lt _)
  have e1 : rc (tk y s i) = 5 := by rw [q]; rfl
  have hs := h.1.1
  have hnT := (nT_ok y s).1
  have hi1 := nT_lt hi (by omega) (by omega)
  have hp : frP S (pshS (wI S 179 34 (((dpW W : Nat) : Int) + 1)) W.length 303 0) := frP_trans (frP_w (Or.inr (Or.inr rfl))) frP_psh
  have hm1 : mS n (pshS (wI S 179 34 (((dpW W : Nat) : Int) + 1)) W.length 303 0) ((303, 0) :: W) V := mS_psh (e := (303, 0)) hm (Or.inr (Or.inl rfl)) (by omega) (rI_at.trans ((show ((dpW ((303, 0) :: W) : Nat) : Int) = ((dpW W : Nat) : Int) + 1 from by show (((if (303 : Int) = 300 ∨ (303 : Int) = 303 ∨ (303 : Int) = 40 then 1 else 0) + dpW W : Nat) : Int) = _; rw [if_pos (by decide)]; omega)).symm) (rI_nj (by decide)) rfl rfl rfl
  refine sIni (ls := [some (.ref 179), none, none]) rfl ?_
  refine sL (pc' := 1) (i := .aload_n 0) rfl rfl ?_
  refine sGi (p := 4) rfl rfl (sk_179 _) rfl rfl rfl h.2.2.2.1 ?_
  refine sKb (p := 6) rfl rfl ?_
  refine sIc_ne (p := 9) rfl rfl ⟨by omega, by omega⟩ ⟨by omega, by omega⟩ (fun c1 => ?_) (fun c1 => ?_)
  · have c1 := c1
    refine sL (pc' := 28) (i := .aload_n 0) rfl rfl ?_
    refine sGi (p := 31) rfl rfl (sk_179 _) rfl rfl rfl h.2.2.2.1 ?_
    refine sKb (p := 33) rfl rfl ?_
    refine sIc_ne (p := 36) rfl rfl ⟨by omega, by omega⟩ ⟨by omega, by omega⟩ (fun c2 => ?_) (fun c2 => ?_)
    · have c2 := c2
      refine sL (pc' := 54) (i := .aload_n 0) rfl rfl ?_
      refine sGi (p := 57) rfl rfl (sk_179 _) rfl rfl rfl h.2.2.2.1 ?_
      refine sKi (p := 58) rfl rfl ?_
      refine sIc_eq (p := 61) rfl rfl ⟨by omega, by omega⟩ ⟨by omega, by omega⟩ (fun c3 => ?_) (fun c3 => ?_)
      · have c3 := c3
        refine sL (pc' := 71) (i := .aload_n 0) rfl rfl ?_
        refine sGi (p := 74) rfl rfl (sk_179 _) rfl rfl rfl h.2.2.2.1 ?_
        refine sKi (p := 75) rfl rfl ?_
        refine sIc_ne (p := 78) rfl rfl ⟨by omega, by omega⟩ ⟨by omega, by omega⟩ (fun c4 => ?_) (fun c4 => ?_)
        · exfalso; omega
        · have c4 := c4
          refine sKs (p := 81) rfl rfl ?_
          refine sL (i := .goto 6) rfl rfl ?_
          refine sL (pc' := 88) (i := .istore_n 1) (ls' := [some (.ref 179), some (.int (iI 301)), none]) rfl rfl ?_
          refine sL (pc' := 89) (i := .aload_n 0) rfl rfl ?_
          refine sCv (p := 92) (as := []) rfl rfl rfl rfl (by decide) (Nat.le_of_ble_eq_true rfl) rfl (Nat.le_of_ble_eq_true rfl) (sk_179 _) rfl (by omega) (m_deeper (kz := 0) (st := tA y s i) (d := dpW W) hm.1.2.2 h20 h.2.2.2.2.1 h.2.1 ⟨by decide, by decide⟩) ?_
          rw [if_neg hd]
          refine sL (pc' := 93) (i := .aload_n 0) rfl rfl ?_
          refine sKs (p := 96) rfl rfl ?_
          refine sKi (p := 97) rfl rfl ?_
          refine sCv (p := 100) (as := [_, _]) rfl rfl rfl rfl (by decide) (Nat.le_of_ble_eq_true rfl) rfl (Nat.le_of_ble_eq_true rfl) (sk_179 _) rfl (by omega) (m_push (w := W.length) (x := 303) (v := 0) (((rI_nj (by decide)).trans hm.1.1)) (by omega)) ?_
          refine ql_hd (how := 301) (S0 := S) (i0 := i + 1) (W := W) (V := V) (sz := sz) hs hag (Or.inl rfl) hi1 (by omega) ?_ ?_ _ 0 (Nat.zero_add _) _ (frK_P hp) (vM_P hv hp) (mG_A (mA_P h hp)) hm1
          · intro h1 h2 S' h3 h4 h5
            exact ⟨rfl, h3, Or.inl ⟨h1, h2, h4, h5⟩⟩
          · intro k j S' h1 h2 h3
            exact ⟨rfl, h2, Or.inr ⟨k, j, h1, h3⟩⟩
      · exfalso; omega
    · exfalso; omega
  · exfalso; omega
theorem m_op_some_d (hv : vM S n sz) (h : mA S y s i) (q : tk y s i = 262) (hm : mS n S W V) (hl : W.length < 420) (hd : dpW W = 20) : sM X 3 208 [.ref 179] S (fun r S' => r = some (.int (iI (bI false))) ∧ frK S S' ∧ mX S' y s 5 (tA y s i)) := by
  have h20 : dpW W ≤ 20 := by omega
  have hr0 := rc_b (k := tk y s i) (tK_lt _)
  have e1 : rc (tk y s i) = 5 := by rw [q]; rfl
  have hb := mX_bd (k := 5) (q := tA y s i) h.1 h.2.1 ⟨by decide, by decide⟩ rfl (tP_le (i + 1)) h.2.2.1
  have h33d : SI (wI (bdS S 0 5 ((tA y s i : Nat) : Int)) 179 34 (((dpW W : Nat) : Int) + 1)) 179 33 = ((W.length : Nat) : Int) := (rI_nj (by decide)).trans ((bdS_f (by decide)).trans hm.1.1)
  have hp : frP (bdS S 0 5 ((tA y s i : Nat) : Int)) (pshS (wI (bdS S 0 5 ((tA y s i : Nat) : Int)) 179 34 (((dpW W : Nat) : Int) + 1)) W.length 303 0) := frP_trans (frP_w (Or.inr (Or.inr rfl))) frP_psh
  refine sIni (ls := [some (.ref 179), none, none]) rfl ?_
  refine sL (pc' := 1) (i := .aload_n 0) rfl rfl ?_
  refine sGi (p := 4) rfl rfl (sk_179 _) rfl rfl rfl h.2.2.2.1 ?_
  refine sKb (p := 6) rfl rfl ?_
  refine sIc_ne (p := 9) rfl rfl ⟨by omega, by omega⟩ ⟨by omega, by omega⟩ (fun c1 => ?_) (fun c1 => ?_)
  · have c1 := c1
    refine sL (pc' := 28) (i := .aload_n 0) rfl rfl ?_
    refine sGi (p := 31) rfl rfl (sk_179 _) rfl rfl rfl h.2.2.2.1 ?_
    refine sKb (p := 33) rfl rfl ?_
    refine sIc_ne (p := 36) rfl rfl ⟨by omega, by omega⟩ ⟨by omega, by omega⟩ (fun c2 => ?_) (fun c2 => ?_)
    · have c2 := c2
      refine sL (pc' := 54) (i := .aload_n 0) rfl rfl ?_
      refine sGi (p := 57) rfl rfl (sk_179 _) rfl rfl rfl h.2.2.2.1 ?_
      refine sKi (p := 58) rfl rfl ?_
      refine sIc_eq (p := 61) rfl rfl ⟨by omega, by omega⟩ ⟨by omega, by omega⟩ (fun c3 => ?_) (fun c3 => ?_)
      · have c3 := c3
        refine sL (pc' := 71) (i := .aload_n 0) rfl rfl ?_
        refine sGi (p := 74) rfl rfl (sk_179 _) rfl rfl rfl h.2.2.2.1 ?_
        refine sKi (p := 75) rfl rfl ?_
        refine sIc_ne (p := 78) rfl rfl ⟨by omega, by omega⟩ ⟨by omega, by omega⟩ (fun c4 => ?_) (fun c4 => ?_)
        · exfalso; omega
        · have c4 := c4
          refine sKs (p := 81) rfl rfl ?_
          refine sL (i := .goto 6) rfl rfl ?_
          refine sL (pc' := 88) (i := .istore_n 1) (ls' := [some (.ref 179), some (.int (iI 301)), none]) rfl rfl ?_
          refine sL (pc' := 89) (i := .aload_n 0) rfl rfl ?_
          refine sCv (p := 92) (as := []) rfl rfl rfl rfl (by decide) (Nat.le_of_ble_eq_true rfl) rfl (Nat.le_of_ble_eq_true rfl) (sk_179 _) rfl (by omega) (m_deeper (kz := 0) (st := tA y s i) (d := dpW W) hm.1.2.2 h20 h.2.2.2.2.1 h.2.1 ⟨by decide, by decide⟩) ?_
          rw [if_pos hd]
          refine sL (pc' := 93) (i := .aload_n 0) rfl rfl ?_
          refine sKs (p := 96) rfl rfl ?_
          refine sKi (p := 97) rfl rfl ?_
          refine sCv (p := 100) (as := [_, _]) rfl rfl rfl rfl (by decide) (Nat.le_of_ble_eq_true rfl) rfl (Nat.le_of_ble_eq_true rfl) (sk_179 _) rfl (by omega) (m_push (w := W.length) (x := 303) (v := 0) (h33d) (by omega)) ?_
          refine sL (pc' := 101) (i := .aload_n 0) rfl rfl ?_
          refine sCvQ (p := 104) (as := []) rfl rfl rfl rfl (by decide) (Nat.le_of_ble_eq_true rfl) rfl (Nat.le_of_ble_eq_true rfl) (sk_179 _) rfl (by omega) (m_nextX (mX_P hb.1 hp)) ?_
          rintro _ S' ⟨rfl, hf', hN'⟩
          refine sL (pc' := 105) (i := .aload_n 0) rfl rfl ?_
          refine sGi (p := 108) rfl rfl (sk_179 _) rfl rfl rfl hN'.2.1 ?_
          refine sIf_ne (p := 111) rfl rfl ⟨by omega, by omega⟩ (fun c5 => ?_) (fun c5 => ?_)
          · have c5 := c5
            refine sL (pc' := 121) (i := .aload_n 0) rfl rfl ?_
            refine sGi (p := 124) rfl rfl (sk_179 _) rfl rfl rfl hN'.2.1 ?_
            refine sIf_ne (p := 127) rfl rfl ⟨by omega, by omega⟩ (fun c6 => ?_) (fun c6 => ?_)
            · have c6 := c6
              refine sL (pc' := 132) (i := .aload_n 0) rfl rfl ?_
              refine sGi (p := 135) rfl rfl (sk_179 _) rfl rfl rfl hN'.2.1 ?_
              refine sIf_ne (p := 138) rfl rfl ⟨by omega, by omega⟩ (fun c7 => ?_) (fun c7 => ?_)
              · have c7 := c7
                refine sL (pc' := 148) (i := .aload_n 0) rfl rfl ?_
                refine sGi (p := 151) rfl rfl (sk_179 _) rfl rfl rfl hN'.2.1 ?_
                refine sIf_ne (p := 154) rfl rfl ⟨by omega, by omega⟩ (fun c8 => ?_) (fun c8 => ?_)
                · have c8 := c8
                  refine sL (pc' := 173) (i := .aload_n 0) rfl rfl ?_
                  refine sGi (p := 176) rfl rfl (sk_179 _) rfl rfl rfl hN'.2.1 ?_
                  refine sIf_ne (p := 179) rfl rfl ⟨by omega, by omega⟩ (fun c9 => ?_) (fun c9 => ?_)
                  · have c9 := c9
                    refine sKi (p := 184) rfl rfl ?_
                    refine sEn (i := .ireturn) rfl (rfl) ?_
                    exact ⟨rfl, frK_trans (frK_J hb.2) (frK_trans (frK_P hp) (frK_J hf')), hN'⟩
                  · exact absurd c9 (by decide)
                · exact absurd c8 (by decide)
              · exact absurd c7 (by decide)
            · exact absurd c6 (by decide)
          · exact absurd c5 (by decide)
      · exfalso; omega
    · exfalso; omega
  · exfalso; omega
theorem m_op_all (hv : vM S n sz) (h : mA S y s i) (q : tk y s i = 263) (hi : i ≤ nT y s) (hag : agC C y s) (hm : mS n S W V) (hl : W.length ≤ i) (hd : dpW W < 20) : sM X 4 208 [.ref 179] S (fun r S' => r = some (.int (iI (bI false))) ∧ frK S S' ∧ (((pVs (tk y s) C n (i + 1) (nVs (tk y s) C n (i + 1))).1 = 0 ∧ tk y s (pVs (tk y s) C n (i + 1) (nVs (tk y s) C n (i + 1))).2.1 = 46 ∧ mN S' y s ((pVs (tk y s) C n (i + 1) (nVs (tk y s) C n (i + 1))).2.1 + 1) ∧ mS n S' (vsL (tk y s) C n (i + 1) 302 W (nVs (tk y s) C n (i + 1) + 1)) V) ∨ (∃ k j, qlB (tk y s) C n (i + 1) k j ∧ mX S' y s k (tA y s j)))) := by
  have h20 : dpW W ≤ 20 := by omega
  have hd : ¬ dpW W = 20 := by omega
  have hr0 := rc_b (k := tk y s i) (tK_lt _)
  have e1 : rc (tk y s i) = 6 := by rw [q]; rfl
  have hs := h.1.1
  have hnT := (nT_ok y s).1
  have hi1 := nT_lt hi (by omega) (by omega)
  have hp : frP S (pshS (wI S 179 34 (((dpW W : Nat) : Int) + 1)) W.length 303 0) := frP_trans (frP_w (Or.inr (Or.inr rfl))) frP_psh
  have hm1 : mS n (pshS (wI S 179 34 (((dpW W : Nat) : Int) + 1)) W.length 303 0) ((303, 0) :: W) V := mS_psh (e := (303, 0)) hm (Or.inr (Or.inl rfl)) (by omega) (rI_at.trans ((show ((dpW ((303, 0) :: W) : Nat) : Int) = ((dpW W : Nat) : Int) + 1 from by show (((if (303 : Int) = 300 ∨ (303 : Int) = 303 ∨ (303 : Int) = 40 then 1 else 0) + dpW W : Nat) : Int) = _; rw [if_pos (by decide)]; omega)).symm) (rI_nj (by decide)) rfl rfl rfl
  refine sIni (ls := [some (.ref 179), none, none]) rfl ?_
  refine sL (pc' := 1) (i := .aload_n 0) rfl rfl ?_
  refine sGi (p := 4) rfl rfl (sk_179 _) rfl rfl rfl h.2.2.2.1 ?_
  refine sKb (p := 6) rfl rfl ?_
  refine sIc_ne (p := 9) rfl rfl ⟨by omega, by omega⟩ ⟨by omega, by omega⟩ (fun c1 => ?_) (fun c1 => ?_)
  · have c1 := c1
    refine sL (pc' := 28) (i := .aload_n 0) rfl rfl ?_
    refine sGi (p := 31) rfl rfl (sk_179 _) rfl rfl rfl h.2.2.2.1 ?_
    refine sKb (p := 33) rfl rfl ?_
    refine sIc_ne (p := 36) rfl rfl ⟨by omega, by omega⟩ ⟨by omega, by omega⟩ (fun c2 => ?_) (fun c2 => ?_)
    · have c2 := c2
      refine sL (pc' := 54) (i := .aload_n 0) rfl rfl ?_
      refine sGi (p := 57) rfl rfl (sk_179 _) rfl rfl rfl h.2.2.2.1 ?_
      refine sKi (p := 58) rfl rfl ?_
      refine sIc_eq (p := 61) rfl rfl ⟨by omega, by omega⟩ ⟨by omega, by omega⟩ (fun c3 => ?_) (fun c3 => ?_)
      · exfalso; omega
      · have c3 := c3
        refine sL (pc' := 62) (i := .aload_n 0) rfl rfl ?_
        refine sGi (p := 65) rfl rfl (sk_179 _) rfl rfl rfl h.2.2.2.1 ?_
        refine sKb (p := 67) rfl rfl ?_
        refine sIc_ne (p := 70) rfl rfl ⟨by omega, by omega⟩ ⟨by omega, by omega⟩ (fun c4 => ?_) (fun c4 => ?_)
        · exfalso; omega
        · have c4 := c4
          refine sL (pc' := 71) (i := .aload_n 0) rfl rfl ?_
          refine sGi (p := 74) rfl rfl (sk_179 _) rfl rfl rfl h.2.2.2.1 ?_
          refine sKi (p := 75) rfl rfl ?_
          refine sIc_ne (p := 78) rfl rfl ⟨by omega, by omega⟩ ⟨by omega, by omega⟩ (fun c5 => ?_) (fun c5 => ?_)
          · have c5 := c5
            refine sKs (p := 87) rfl rfl ?_
            refine sL (pc' := 88) (i := .istore_n 1) (ls' := [some (.ref 179), some (.int (iI 302)), none]) rfl rfl ?_
            refine sL (pc' := 89) (i := .aload_n 0) rfl rfl ?_
            refine sCv (p := 92) (as := []) rfl rfl rfl rfl (by decide) (Nat.le_of_ble_eq_true rfl) rfl (Nat.le_of_ble_eq_true rfl) (sk_179 _) rfl (by omega) (m_deeper (kz := 0) (st := tA y s i) (d := dpW W) hm.1.2.2 h20 h.2.2.2.2.1 h.2.1 ⟨by decide, by decide⟩) ?_
            rw [if_neg hd]
            refine sL (pc' := 93) (i := .aload_n 0) rfl rfl ?_
            refine sKs (p := 96) rfl rfl ?_
            refine sKi (p := 97) rfl rfl ?_
            refine sCv (p := 100) (as := [_, _]) rfl rfl rfl rfl (by decide) (Nat.le_of_ble_eq_true rfl) rfl (Nat.le_of_ble_eq_true rfl) (sk_179 _) rfl (by omega) (m_push (w := W.length) (x := 303) (v := 0) (((rI_nj (by decide)).trans hm.1.1)) (by omega)) ?_
            refine ql_hd (how := 302) (S0 := S) (i0 := i + 1) (W := W) (V := V) (sz := sz) hs hag (Or.inr rfl) hi1 (by omega) ?_ ?_ _ 0 (Nat.zero_add _) _ (frK_P hp) (vM_P hv hp) (mG_A (mA_P h hp)) hm1
            · intro h1 h2 S' h3 h4 h5
              exact ⟨rfl, h3, Or.inl ⟨h1, h2, h4, h5⟩⟩
            · intro k j S' h1 h2 h3
              exact ⟨rfl, h2, Or.inr ⟨k, j, h1, h3⟩⟩
          · exfalso; omega
    · exfalso; omega
  · exfalso; omega
theorem m_op_all_d (hv : vM S n sz) (h : mA S y s i) (q : tk y s i = 263) (hm : mS n S W V) (hl : W.length < 420) (hd : dpW W = 20) : sM X 3 208 [.ref 179] S (fun r S' => r = some (.int (iI (bI false))) ∧ frK S S' ∧ mX S' y s 5 (tA y s i)) := by
  have h20 : dpW W ≤ 20 := by omega
  have hr0 := rc_b (k := tk y s i) (tK_lt _)
  have e1 : rc (tk y s i) = 6 := by rw [q]; rfl
  have hb := mX_bd (k := 5) (q := tA y s i) h.1 h.2.1 ⟨by decide, by decide⟩ rfl (tP_le (i + 1)) h.2.2.1
  have h33d : SI (wI (bdS S 0 5 ((tA y s i : Nat) : Int)) 179 34 (((dpW W : Nat) : Int) + 1)) 179 33 = ((W.length : Nat) : Int) := (rI_nj (by decide)).trans ((bdS_f (by decide)).trans hm.1.1)
  have hp : frP (bdS S 0 5 ((tA y s i : Nat) : Int)) (pshS (wI (bdS S 0 5 ((tA y s i : Nat) : Int)) 179 34 (((dpW W : Nat) : Int) + 1)) W.length 303 0) := frP_trans (frP_w (Or.inr (Or.inr rfl))) frP_psh
  refine sIni (ls := [some (.ref 179), none, none]) rfl ?_
  refine sL (pc' := 1) (i := .aload_n 0) rfl rfl ?_
  refine sGi (p := 4) rfl rfl (sk_179 _) rfl rfl rfl h.2.2.2.1 ?_
  refine sKb (p := 6) rfl rfl ?_
  refine sIc_ne (p := 9) rfl rfl ⟨by omega, by omega⟩ ⟨by omega, by omega⟩ (fun c1 => ?_) (fun c1 => ?_)
  · have c1 := c1
    refine sL (pc' := 28) (i := .aload_n 0) rfl rfl ?_
    refine sGi (p := 31) rfl rfl (sk_179 _) rfl rfl rfl h.2.2.2.1 ?_
    refine sKb (p := 33) rfl rfl ?_
    refine sIc_ne (p := 36) rfl rfl ⟨by omega, by omega⟩ ⟨by omega, by omega⟩ (fun c2 => ?_) (fun c2 => ?_)
    · have c2 := c2
      refine sL (pc' := 54) (i := .aload_n 0) rfl rfl ?_
      refine sGi (p := 57) rfl rfl (sk_179 _) rfl rfl rfl h.2.2.2.1 ?_
      refine sKi (p := 58) rfl rfl ?_
      refine sIc_eq (p := 61) rfl rfl ⟨by omega, by omega⟩ ⟨by omega, by omega⟩ (fun c3 => ?_) (fun c3 => ?_)
      · exfalso; omega
      · have c3 := c3
        refine sL (pc' := 62) (i := .aload_n 0) rfl rfl ?_
        refine sGi (p := 65) rfl rfl (sk_179 _) rfl rfl rfl h.2.2.2.1 ?_
        refine sKb (p := 67) rfl rfl ?_
        refine sIc_ne (p := 70) rfl rfl ⟨by omega, by omega⟩ ⟨by omega, by omega⟩ (fun c4 => ?_) (fun c4 => ?_)
        · exfalso; omega
        · have c4 := c4
          refine sL (pc' := 71) (i := .aload_n 0) rfl rfl ?_
          refine sGi (p := 74) rfl rfl (sk_179 _) rfl rfl rfl h.2.2.2.1 ?_
          refine sKi (p := 75) rfl rfl ?_
          refine sIc_ne (p := 78) rfl rfl ⟨by omega, by omega⟩ ⟨by omega, by omega⟩ (fun c5 => ?_) (fun c5 => ?_)
          · have c5 := c5
            refine sKs (p := 87) rfl rfl ?_
            refine sL (pc' := 88) (i := .istore_n 1) (ls' := [some (.ref 179), some (.int (iI 302)), none]) rfl rfl ?_
            refine sL (pc' := 89) (i := .aload_n 0) rfl rfl ?_
            refine sCv (p := 92) (as := []) rfl rfl rfl rfl (by decide) (Nat.le_of_ble_eq_true rfl) rfl (Nat.le_of_ble_eq_true rfl) (sk_179 _) rfl (by omega) (m_deeper (kz := 0) (st := tA y s i) (d := dpW W) hm.1.2.2 h20 h.2.2.2.2.1 h.2.1 ⟨by decide, by decide⟩) ?_
            rw [if_pos hd]
            refine sL (pc' := 93) (i := .aload_n 0) rfl rfl ?_
            refine sKs (p := 96) rfl rfl ?_
            refine sKi (p := 97) rfl rfl ?_
            refine sCv (p := 100) (as := [_, _]) rfl rfl rfl rfl (by decide) (Nat.le_of_ble_eq_true rfl) rfl (Nat.le_of_ble_eq_true rfl) (sk_179 _) rfl (by omega) (m_push (w := W.length) (x := 303) (v := 0) (h33d) (by omega)) ?_
            refine sL (pc' := 101) (i := .aload_n 0) rfl rfl ?_
            refine sCvQ (p := 104) (as := []) rfl rfl rfl rfl (by decide) (Nat.le_of_ble_eq_true rfl) rfl (Nat.le_of_ble_eq_true rfl) (sk_179 _) rfl (by omega) (m_nextX (mX_P hb.1 hp)) ?_
            rintro _ S' ⟨rfl, hf', hN'⟩
            refine sL (pc' := 105) (i := .aload_n 0) rfl rfl ?_
            refine sGi (p := 108) rfl rfl (sk_179 _) rfl rfl rfl hN'.2.1 ?_
            refine sIf_ne (p := 111) rfl rfl ⟨by omega, by omega⟩ (fun c6 => ?_) (fun c6 => ?_)
            · have c6 := c6
              refine sL (pc' := 121) (i := .aload_n 0) rfl rfl ?_
              refine sGi (p := 124) rfl rfl (sk_179 _) rfl rfl rfl hN'.2.1 ?_
              refine sIf_ne (p := 127) rfl rfl ⟨by omega, by omega⟩ (fun c7 => ?_) (fun c7 => ?_)
              · have c7 := c7
                refine sL (pc' := 132) (i := .aload_n 0) rfl rfl ?_
                refine sGi (p := 135) rfl rfl (sk_179 _) rfl rfl rfl hN'.2.1 ?_
                refine sIf_ne (p := 138) rfl rfl ⟨by omega, by omega⟩ (fun c8 => ?_) (fun c8 => ?_)
                · have c8 := c8
                  refine sL (pc' := 148) (i := .aload_n 0) rfl rfl ?_
                  refine sGi (p := 151) rfl rfl (sk_179 _) rfl rfl rfl hN'.2.1 ?_
                  refine sIf_ne (p := 154) rfl rfl ⟨by omega, by omega⟩ (fun c9 => ?_) (fun c9 => ?_)
                  · have c9 := c9
                    refine sL (pc' := 173) (i := .aload_n 0) rfl rfl ?_
                    refine sGi (p := 176) rfl rfl (sk_179 _) rfl rfl rfl hN'.2.1 ?_
                    refine sIf_ne (p := 179) rfl rfl ⟨by omega, by omega⟩ (fun c10 => ?_) (fun c10 => ?_)
                    · have c10 := c10
                      refine sKi (p := 184) rfl rfl ?_
                      refine sEn (i := .ireturn) rfl (rfl) ?_
                      exact ⟨rfl, frK_trans (frK_J hb.2) (frK_trans (frK_P hp) (frK_J hf')), hN'⟩
                    · exact absurd c10 (by decide)
                  · exact absurd c9 (by decide)
                · exact absurd c8 (by decide)
              · exact absurd c7 (by decide)
            · exact absurd c6 (by decide)
          · exfalso; omega
    · exfalso; omega
  · exfalso; omega
/-- the end of a leaf -/
theorem lf_tl {Q : Option Value → ST → Prop} {l1 l2 : Option Value} {j : Nat} {f : Nat → Bool} (hv : vM S n sz) (hG : mG S y s j) (hm : mS n S W (f :: V)) (hq : ∀ S', frK S S' → mN S' y s j → mS n S' (pfq n sz W f).1 ((pfq n sz W f).2 :: V) → Q (some (.int (iI 1))) S') : sT X 4 208 396 [some (.ref 179), l1, l2] [] S (sE X 208 Q) := by
  refine sL (pc' := 397) (i := .aload_n 0) rfl rfl ?_
  refine sGi (p := 400) rfl rfl (sk_179 _) rfl rfl rfl hG.2.1 ?_
  refine sIf_ne (p := 403) rfl rfl ⟨by omega, by omega⟩ (fun c1 => ?_) (fun c1 => ?_)
  · exact absurd c1 (by decide)
  · have c1 := c1
    refine sL (pc' := 404) (i := .aload_n 0) rfl rfl ?_
    refine sCvQ (p := 407) (as := []) rfl rfl rfl rfl (by decide) (Nat.le_of_ble_eq_true rfl) rfl (Nat.le_of_ble_eq_true rfl) (sk_179 _) rfl (by omega) (m_prefixes hv hm) ?_
    rintro _ S1 ⟨rfl, hf1, hm1⟩
    have hG1 := mG_P hG hf1
    refine sL (pc' := 408) (i := .aload_n 0) rfl rfl ?_
    refine sCvQ (p := 411) (as := []) rfl rfl rfl rfl (by decide) (Nat.le_of_ble_eq_true rfl) rfl (Nat.le_of_ble_eq_true rfl) (sk_179 _) rfl (by omega) (m_nextG hG1) ?_
    rintro _ S2 ⟨rfl, hf2, hN2⟩
    refine sKi (p := 412) rfl rfl ?_
    refine sEn (i := .ireturn) rfl (rfl) ?_
    exact hq S2 (frK_trans (frK_P hf1) (frK_J hf2)) hN2 (mS_J hm1 hf2)
theorem lf_tx {Q : Option Value → ST → Prop} {l1 l2 : Option Value} {k p : Nat} (hX : mX S y s k p) (hq : Q (some (.int (iI 1))) S) : sT X 4 208 396 [some (.ref 179), l1, l2] [] S (sE X 208 Q) := by
  have hk := hX.2.2.1
  refine sL (pc' := 397) (i := .aload_n 0) rfl rfl ?_
  refine sGi (p := 400) rfl rfl (sk_179 _) rfl rfl rfl hX.2.1 ?_
  refine sIf_ne (p := 403) rfl rfl ⟨by omega, by omega⟩ (fun c1 => ?_) (fun c1 => ?_)
  · have c1 := c1
    refine sKi (p := 412) rfl rfl ?_
    refine sEn (i := .ireturn) rfl (rfl) ?_
    exact hq
  · exfalso; omega
end MF
