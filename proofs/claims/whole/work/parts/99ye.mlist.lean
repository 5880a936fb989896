/-! ===== the reference's reading: operand, lists ===== -/
def avs (K : Nat → Nat) (C : Nat → Int64) (n i0 : Nat) : Nat → Nat
  | 0 => i0
  | t + 1 => (pVs K C n i0 t).2.1 + 1
theorem pVs_a {K : Nat → Nat} {C : Nat → Int64} {n i0 : Nat} : ∀ t, (pVs K C n i0 t).1 = (pVar K C n (avs K C n i0 t)).1 ∧ (pVs K C n i0 t).2.1 = (pVar K C n (avs K C n i0 t)).2.1
  | 0 => ⟨rfl, rfl⟩
  | _ + 1 => ⟨rfl, rfl⟩
def vsL (K : Nat → Nat) (C : Nat → Int64) (n i0 : Nat) (how : Int) (W : List (Int × Int)) : Nat → List (Int × Int)
  | 0 => (303, 0) :: W
  | t + 1 => (how, (pVar K C n (avs K C n i0 t)).2.2) :: vsL K C n i0 how W t
theorem vsL_len {K : Nat → Nat} {C : Nat → Int64} {n i0 : Nat} {how : Int} {W : List (Int × Int)} : ∀ t, (vsL K C n i0 how W t).length = W.length + 1 + t
  | 0 => rfl
  | t + 1 => congrArg (· + 1) (vsL_len t)
section ME
variable {X : List Int32} {y : Nat → Nat} {s i0 n : Nat} {sz : Nat → Nat} {W : List (Int × Int)} {V : List (Nat → Bool)} {C : Nat → Int64}
theorem avs_ok (h0 : i0 ≤ nT y s) : ∀ t, t ≤ nVs (tk y s) C n i0 → avs (tk y s) C n i0 t ≤ nT y s ∧ i0 + 3 * t ≤ avs (tk y s) C n i0 t
  | 0, _ => ⟨h0, Nat.le_refl _⟩
  | t + 1, h => by
    have ih := avs_ok h0 t (by omega)
    have h1 := (nVs_ok (tk y s) C n i0).2.1 t (by omega)
    rw [(pVs_a t).1, (pVs_a t).2] at h1
    have h2 := pVar_v h1.1
    have l1 := nT_lt ih.1 (by omega) (by omega)
    have l2 := nT_lt (y := y) (s := s) (j := avs (tk y s) C n i0 t + 1) (by omega) (by omega) (by omega)
    have l3 := nT_lt (y := y) (s := s) (j := avs (tk y s) C n i0 t + 2) (by omega) (by rw [← h2.2.1]; omega) (by rw [← h2.2.1]; omega)
    have e : avs (tk y s) C n i0 (t + 1) = (pVar (tk y s) C n (avs (tk y s) C n i0 t)).2.1 + 1 := congrArg (· + 1) (pVs_a t).2
    rw [e, h2.2.1]
    omega
theorem nVs_lt (hs : s ≤ 400) (h0 : i0 ≤ nT y s) : nVs (tk y s) C n i0 < 400 := by
  have h1 := avs_ok (n := n) (C := C) h0 _ (Nat.le_refl _)
  have h2 := (nT_ok y s).1
  have h3 := (nVs_ok (tk y s) C n i0).1
  omega
/-- what a list comes to -/
def qlB (K : Nat → Nat) (C : Nat → Int64) (n i0 : Nat) (k j : Nat) : Prop := ((pVs K C n i0 (nVs K C n i0)).1 ≠ 0 ∧ k = (pVs K C n i0 (nVs K C n i0)).1 ∧ j = (pVs K C n i0 (nVs K C n i0)).2.1) ∨ ((pVs K C n i0 (nVs K C n i0)).1 = 0 ∧ K (pVs K C n i0 (nVs K C n i0)).2.1 ≠ 46 ∧ k = rf K 2 (pVs K C n i0 (nVs K C n i0)).2.1 ∧ j = (pVs K C n i0 (nVs K C n i0)).2.1)
theorem ql_hd {Q : Option Value → ST → Prop} {S0 : ST} (hs : s ≤ 400) (hag : agC C y s) {how : Int} (hh : how = 301 ∨ how = 302) (h0 : i0 ≤ nT y s) (hl : W.length + 1 ≤ i0)
  (hok : (pVs (tk y s) C n i0 (nVs (tk y s) C n i0)).1 = 0 → tk y s (pVs (tk y s) C n i0 (nVs (tk y s) C n i0)).2.1 = 46 → ∀ S', frK S0 S' → mN S' y s ((pVs (tk y s) C n i0 (nVs (tk y s) C n i0)).2.1 + 1) → mS n S' (vsL (tk y s) C n i0 how W (nVs (tk y s) C n i0 + 1)) V → Q (some (.int (iI 0))) S')
  (hbad : ∀ k j S', qlB (tk y s) C n i0 k j → frK S0 S' → mX S' y s k (tA y s j) → Q (some (.int (iI 0))) S') :
  ∀ k t, t + k = nVs (tk y s) C n i0 → ∀ S, frK S0 S → vM S n sz → mG S y s (avs (tk y s) C n i0 t) → mS n S (vsL (tk y s) C n i0 how W t) V → sT X 4 208 100 [some (.ref 179), some (.int (iI how)), none] [] S (sE X 208 Q) := by
  intro k
  induction k with
  | zero =>
    intro t ht S hf0 hv hG hm
    have hlast : ¬ ((pVs (tk y s) C n i0 t).1 = 0 ∧ tk y s (pVs (tk y s) C n i0 t).2.1 = 44) := by
      have := (nVs_ok (tk y s) C n i0).2.2 (nVs_lt hs h0)
      rw [← ht] at this
      exact this
    have hN := ht
    rw [Nat.add_zero] at hN
    rw [← hN] at hok
    have ha := avs_ok (n := n) (C := C) h0 t (by omega)
    have hlen := vsL_len (K := tk y s) (C := C) (n := n) (i0 := i0) (how := how) (W := W) t
    have hnT := (nT_ok y s).1
    have hpa := pVs_a (K := tk y s) (C := C) (n := n) (i0 := i0) t
    by_cases qa : tk y s (avs (tk y s) C n i0 t) = 265
    · have hpv : (pVar (tk y s) C n (avs (tk y s) C n i0 t)) = (1, avs (tk y s) C n i0 t, 0) := by
        unfold pVar
        rw [if_pos (by omega), show rf (tk y s) 2 (avs (tk y s) C n i0 t) = 1 from if_pos ⟨rfl, qa⟩]
      rw [hpv] at hpa
      refine sL (pc' := 101) (i := .aload_n 0) rfl rfl ?_
      refine sCvQ (p := 104) (as := []) rfl rfl rfl rfl (by decide) (Nat.le_of_ble_eq_true rfl) rfl (Nat.le_of_ble_eq_true rfl) (sk_179 _) rfl (by omega) (m_nextG hG) ?_
      rintro _ S1 ⟨rfl, hf1, hN1⟩
      have hv1 := vM_fr hv hf1
      have hm1 := mS_J hm hf1
      have hX1 := mN_dead hN1 qa
      refine sL (pc' := 105) (i := .aload_n 0) rfl rfl ?_
      refine sGi (p := 108) rfl rfl (sk_179 _) rfl rfl rfl hX1.2.1 ?_
      refine sIf_ne (p := 111) rfl rfl ⟨by omega, by omega⟩ (fun c1 => ?_) (fun c1 => ?_)
      · have c1 := c1
        refine sL (pc' := 121) (i := .aload_n 0) rfl rfl ?_
        refine sGi (p := 124) rfl rfl (sk_179 _) rfl rfl rfl hX1.2.1 ?_
        refine sIf_ne (p := 127) rfl rfl ⟨by omega, by omega⟩ (fun c2 => ?_) (fun c2 => ?_)
        · have c2 := c2
          refine sL (pc' := 132) (i := .aload_n 0) rfl rfl ?_
          refine sGi (p := 135) rfl rfl (sk_179 _) rfl rfl rfl hX1.2.1 ?_
          refine sIf_ne (p := 138) rfl rfl ⟨by omega, by omega⟩ (fun c3 => ?_) (fun c3 => ?_)
          · have c3 := c3
            refine sL (pc' := 148) (i := .aload_n 0) rfl rfl ?_
            refine sGi (p := 151) rfl rfl (sk_179 _) rfl rfl rfl hX1.2.1 ?_
            refine sIf_ne (p := 154) rfl rfl ⟨by omega, by omega⟩ (fun c4 => ?_) (fun c4 => ?_)
            · have c4 := c4
              refine sL (pc' := 173) (i := .aload_n 0) rfl rfl ?_
              refine sGi (p := 176) rfl rfl (sk_179 _) rfl rfl rfl hX1.2.1 ?_
              refine sIf_ne (p := 179) rfl rfl ⟨by omega, by omega⟩ (fun c5 => ?_) (fun c5 => ?_)
              · have c5 := c5
                refine sKi (p := 184) rfl rfl ?_
                refine sEn (i := .ireturn) rfl (rfl) ?_
                refine hbad 1 (avs (tk y s) C n i0 t) S1 (Or.inl ?_) (frK_trans hf0 (frK_J hf1)) hX1
                rw [← hN, hpa.1, hpa.2]
                exact ⟨(show (1 : Nat) ≠ 0 by decide), rfl, rfl⟩
              · exact absurd c5 (by decide)
            · exact absurd c4 (by decide)
          · exact absurd c3 (by decide)
        · exact absurd c2 (by decide)
      · exact absurd c1 (by decide)
    · by_cases qb : (pVar (tk y s) C n (avs (tk y s) C n i0 t)).1 = 0
      · have hpv := pVar_v qb
        have hj : (pVs (tk y s) C n i0 t).2.1 = avs (tk y s) C n i0 t + 2 := hpa.2.trans hpv.2.1
        have hk0 : (pVs (tk y s) C n i0 t).1 = 0 := hpa.1.trans qb
        rw [hj] at hlast hok
        have hr3 := rc_b (k := tk y s (avs (tk y s) C n i0 t + 2)) (tK_lt _)
        by_cases qc : tk y s (avs (tk y s) C n i0 t + 2) = 265
        · have hX3 := True.intro
          refine sL (pc' := 101) (i := .aload_n 0) rfl rfl ?_
          refine sCvQ (p := 104) (as := []) rfl rfl rfl rfl (by decide) (Nat.le_of_ble_eq_true rfl) rfl (Nat.le_of_ble_eq_true rfl) (sk_179 _) rfl (by omega) (m_nextG hG) ?_
          rintro _ S1 ⟨rfl, hf1, hN1⟩
          have hv1 := vM_fr hv hf1
          have hm1 := mS_J hm hf1
          have hA1 := mN_alive hN1 qa
          refine sL (pc' := 105) (i := .aload_n 0) rfl rfl ?_
          refine sGi (p := 108) rfl rfl (sk_179 _) rfl rfl rfl hA1.2.1 ?_
          refine sIf_ne (p := 111) rfl rfl ⟨by omega, by omega⟩ (fun c1 => ?_) (fun c1 => ?_)
          · exact absurd c1 (by decide)
          · have c1 := c1
            refine sL (pc' := 112) (i := .aload_n 0) rfl rfl ?_
            refine sL (pc' := 113) (i := .iload_n 1) rfl rfl ?_
            refine sL (pc' := 114) (i := .aload_n 0) rfl rfl ?_
            refine sCvQ (p := 117) (as := []) rfl rfl rfl rfl (by decide) (Nat.le_of_ble_eq_true rfl) rfl (Nat.le_of_ble_eq_true rfl) (sk_179 _) rfl (by omega) (m_variable hv1 hA1 ha.1 hag) ?_
            rintro _ S2 ⟨z, rfl, hf2, hV2⟩
            have hm2 := mS_J hm1 hf2
            obtain ⟨hz, hA2⟩ : z = (pVar (tk y s) C n (avs (tk y s) C n i0 t)).2.2 ∧ mA S2 y s (avs (tk y s) C n i0 t + 1) := by
              rcases hV2 with ⟨_, q1, q2⟩ | ⟨q1, _⟩
              · exact ⟨q1, q2⟩
              · exact absurd qb q1
            have hzb := pVar_v qb
            rw [← hz] at hzb
            have hp2 : frP S2 (pshS S2 (vsL (tk y s) C n i0 how W t).length how z) := frP_psh
            have hmp : mS n (pshS S2 (vsL (tk y s) C n i0 how W t).length how z) (vsL (tk y s) C n i0 how W (t + 1)) V := by
              rw [hz]
              exact mS_psh (e := (how, (pVar (tk y s) C n (avs (tk y s) C n i0 t)).2.2)) hm2 (Or.inr (Or.inr (Or.inr (Or.inr ⟨hh, by rw [← hz]; omega, by rw [← hz]; omega⟩)))) (by omega) (hm2.1.2.2.trans (congrArg (fun z : Nat => ((z : Nat) : Int)) (show dpW (vsL (tk y s) C n i0 how W t) = (if how = 300 ∨ how = 303 ∨ how = 40 then 1 else 0) + dpW (vsL (tk y s) C n i0 how W t) from by rw [if_neg (by omega), Nat.zero_add]))) rfl rfl rfl rfl
            have hAp := mA_P hA2 hp2
            have hvp := vM_P (vM_fr hv1 hf2) hp2
            refine sCv (p := 120) (as := [_, _]) rfl rfl rfl rfl (by decide) (Nat.le_of_ble_eq_true rfl) rfl (Nat.le_of_ble_eq_true rfl) (sk_179 _) rfl (by omega) (m_push (w := (vsL (tk y s) C n i0 how W t).length) (x := how) (v := z) hm2.1.1 (by omega)) ?_
            refine sL (pc' := 121) (i := .aload_n 0) rfl rfl ?_
            refine sGi (p := 124) rfl rfl (sk_179 _) rfl rfl rfl hAp.2.1 ?_
            refine sIf_ne (p := 127) rfl rfl ⟨by omega, by omega⟩ (fun c2 => ?_) (fun c2 => ?_)
            · exact absurd c2 (by decide)
            · have c2 := c2
              refine sL (pc' := 128) (i := .aload_n 0) rfl rfl ?_
              refine sCvQ (p := 131) (as := []) rfl rfl rfl rfl (by decide) (Nat.le_of_ble_eq_true rfl) rfl (Nat.le_of_ble_eq_true rfl) (sk_179 _) rfl (by omega) (m_nextA hAp) ?_
              rintro _ S3 ⟨rfl, hf3, hN3⟩
              have hm3 := mS_J hmp hf3
              have hv3 := vM_fr hvp hf3
              have hX3 : mX S3 y s 1 (tA y s (avs (tk y s) C n i0 t + 2)) := mN_dead hN3 qc
              refine sL (pc' := 132) (i := .aload_n 0) rfl rfl ?_
              refine sGi (p := 135) rfl rfl (sk_179 _) rfl rfl rfl hX3.2.1 ?_
              refine sIf_ne (p := 138) rfl rfl ⟨by omega, by omega⟩ (fun c3 => ?_) (fun c3 => ?_)
              · have c3 := c3
                refine sL (pc' := 148) (i := .aload_n 0) rfl rfl ?_
                refine sGi (p := 151) rfl rfl (sk_179 _) rfl rfl rfl hX3.2.1 ?_
                refine sIf_ne (p := 154) rfl rfl ⟨by omega, by omega⟩ (fun c4 => ?_) (fun c4 => ?_)
                · have c4 := c4
                  refine sL (pc' := 173) (i := .aload_n 0) rfl rfl ?_
                  refine sGi (p := 176) rfl rfl (sk_179 _) rfl rfl rfl hX3.2.1 ?_
                  refine sIf_ne (p := 179) rfl rfl ⟨by omega, by omega⟩ (fun c5 => ?_) (fun c5 => ?_)
                  · have c5 := c5
                    refine sKi (p := 184) rfl rfl ?_
                    refine sEn (i := .ireturn) rfl (rfl) ?_
                    refine hbad 1 (avs (tk y s) C n i0 t + 2) S3 (Or.inr ?_) (frK_trans hf0 (frK_trans (frK_J (frJ_trans hf1 hf2)) (frK_trans (frK_P hp2) (frK_J hf3)))) hX3
                    rw [← hN, hj, hk0]
                    exact ⟨rfl, by omega, (if_pos ⟨rfl, qc⟩ : rf (tk y s) 2 (avs (tk y s) C n i0 t + 2) = 1).symm, rfl⟩
                  · exact absurd c5 (by decide)
                · exact absurd c4 (by decide)
              · exact absurd c3 (by decide)
        · by_cases qd : tk y s (avs (tk y s) C n i0 t + 2) = 46
          · have e3 : rc (tk y s (avs (tk y s) C n i0 t + 2)) = 46 := by rw [qd]; rfl
            refine sL (pc' := 101) (i := .aload_n 0) rfl rfl ?_
            refine sCvQ (p := 104) (as := []) rfl rfl rfl rfl (by decide) (Nat.le_of_ble_eq_true rfl) rfl (Nat.le_of_ble_eq_true rfl) (sk_179 _) rfl (by omega) (m_nextG hG) ?_
            rintro _ S1 ⟨rfl, hf1, hN1⟩
            have hv1 := vM_fr hv hf1
            have hm1 := mS_J hm hf1
            have hA1 := mN_alive hN1 qa
            refine sL (pc' := 105) (i := .aload_n 0) rfl rfl ?_
            refine sGi (p := 108) rfl rfl (sk_179 _) rfl rfl rfl hA1.2.1 ?_
            refine sIf_ne (p := 111) rfl rfl ⟨by omega, by omega⟩ (fun c1 => ?_) (fun c1 => ?_)
            · exact absurd c1 (by decide)
            · have c1 := c1
              refine sL (pc' := 112) (i := .aload_n 0) rfl rfl ?_
              refine sL (pc' := 113) (i := .iload_n 1) rfl rfl ?_
              refine sL (pc' := 114) (i := .aload_n 0) rfl rfl ?_
              refine sCvQ (p := 117) (as := []) rfl rfl rfl rfl (by decide) (Nat.le_of_ble_eq_true rfl) rfl (Nat.le_of_ble_eq_true rfl) (sk_179 _) rfl (by omega) (m_variable hv1 hA1 ha.1 hag) ?_
              rintro _ S2 ⟨z, rfl, hf2, hV2⟩
              have hm2 := mS_J hm1 hf2
              obtain ⟨hz, hA2⟩ : z = (pVar (tk y s) C n (avs (tk y s) C n i0 t)).2.2 ∧ mA S2 y s (avs (tk y s) C n i0 t + 1) := by
                rcases hV2 with ⟨_, q1, q2⟩ | ⟨q1, _⟩
                · exact ⟨q1, q2⟩
                · exact absurd qb q1
              have hzb := pVar_v qb
              rw [← hz] at hzb
              have hp2 : frP S2 (pshS S2 (vsL (tk y s) C n i0 how W t).length how z) := frP_psh
              have hmp : mS n (pshS S2 (vsL (tk y s) C n i0 how W t).length how z) (vsL (tk y s) C n i0 how W (t + 1)) V := by
                rw [hz]
                exact mS_psh (e := (how, (pVar (tk y s) C n (avs (tk y s) C n i0 t)).2.2)) hm2 (Or.inr (Or.inr (Or.inr (Or.inr ⟨hh, by rw [← hz]; omega, by rw [← hz]; omega⟩)))) (by omega) (hm2.1.2.2.trans (congrArg (fun z : Nat => ((z : Nat) : Int)) (show dpW (vsL (tk y s) C n i0 how W t) = (if how = 300 ∨ how = 303 ∨ how = 40 then 1 else 0) + dpW (vsL (tk y s) C n i0 how W t) from by rw [if_neg (by omega), Nat.zero_add]))) rfl rfl rfl rfl
              have hAp := mA_P hA2 hp2
              have hvp := vM_P (vM_fr hv1 hf2) hp2
              refine sCv (p := 120) (as := [_, _]) rfl rfl rfl rfl (by decide) (Nat.le_of_ble_eq_true rfl) rfl (Nat.le_of_ble_eq_true rfl) (sk_179 _) rfl (by omega) (m_push (w := (vsL (tk y s) C n i0 how W t).length) (x := how) (v := z) hm2.1.1 (by omega)) ?_
              refine sL (pc' := 121) (i := .aload_n 0) rfl rfl ?_
              refine sGi (p := 124) rfl rfl (sk_179 _) rfl rfl rfl hAp.2.1 ?_
              refine sIf_ne (p := 127) rfl rfl ⟨by omega, by omega⟩ (fun c2 => ?_) (fun c2 => ?_)
              · exact absurd c2 (by decide)
              · have c2 := c2
                refine sL (pc' := 128) (i := .aload_n 0) rfl rfl ?_
                refine sCvQ (p := 131) (as := []) rfl rfl rfl rfl (by decide) (Nat.le_of_ble_eq_true rfl) rfl (Nat.le_of_ble_eq_true rfl) (sk_179 _) rfl (by omega) (m_nextA hAp) ?_
                rintro _ S3 ⟨rfl, hf3, hN3⟩
                have hm3 := mS_J hmp hf3
                have hv3 := vM_fr hvp hf3
                have hA3 : mA S3 y s (avs (tk y s) C n i0 t + 2) := mN_alive hN3 qc
                refine sL (pc' := 132) (i := .aload_n 0) rfl rfl ?_
                refine sGi (p := 135) rfl rfl (sk_179 _) rfl rfl rfl hA3.2.1 ?_
                refine sIf_ne (p := 138) rfl rfl ⟨by omega, by omega⟩ (fun c3 => ?_) (fun c3 => ?_)
                · exact absurd c3 (by decide)
                · have c3 := c3
                  refine sL (pc' := 139) (i := .aload_n 0) rfl rfl ?_
                  refine sGi (p := 142) rfl rfl (sk_179 _) rfl rfl rfl hA3.2.2.2.1 ?_
                  refine sKb (p := 144) rfl rfl ?_
                  refine sIc_eq (p := 147) rfl rfl ⟨by omega, by omega⟩ ⟨by omega, by omega⟩ (fun c4 => ?_) (fun c4 => ?_)
                  · exfalso; omega
                  · have c4 := c4
                    refine sL (pc' := 148) (i := .aload_n 0) rfl rfl ?_
                    refine sGi (p := 151) rfl rfl (sk_179 _) rfl rfl rfl hA3.2.1 ?_
                    refine sIf_ne (p := 154) rfl rfl ⟨by omega, by omega⟩ (fun c5 => ?_) (fun c5 => ?_)
                    · exact absurd c5 (by decide)
                    · have c5 := c5
                      refine sL (pc' := 155) (i := .aload_n 0) rfl rfl ?_
                      refine sGi (p := 158) rfl rfl (sk_179 _) rfl rfl rfl hA3.2.2.2.1 ?_
                      refine sKb (p := 160) rfl rfl ?_
                      refine sIc_eq (p := 163) rfl rfl ⟨by omega, by omega⟩ ⟨by omega, by omega⟩ (fun c6 => ?_) (fun c6 => ?_)
                      · have c6 := c6
                        refine sL (pc' := 173) (i := .aload_n 0) rfl rfl ?_
                        refine sGi (p := 176) rfl rfl (sk_179 _) rfl rfl rfl hA3.2.1 ?_
                        refine sIf_ne (p := 179) rfl rfl ⟨by omega, by omega⟩ (fun c7 => ?_) (fun c7 => ?_)
                        · exact absurd c7 (by decide)
                        · have c7 := c7
                          refine sL (pc' := 180) (i := .aload_n 0) rfl rfl ?_
                          refine sCvQ (p := 183) (as := []) rfl rfl rfl rfl (by decide) (Nat.le_of_ble_eq_true rfl) rfl (Nat.le_of_ble_eq_true rfl) (sk_179 _) rfl (by omega) (m_nextA hA3) ?_
                          rintro _ S4 ⟨rfl, hf4, hN4⟩
                          refine sKi (p := 184) rfl rfl ?_
                          refine sEn (i := .ireturn) rfl (rfl) ?_
                          exact hok hk0 qd S4 (frK_trans (frK_trans hf0 (frK_trans (frK_J (frJ_trans hf1 hf2)) (frK_trans (frK_P hp2) (frK_J hf3)))) (frK_J hf4)) hN4 (mS_J hm3 hf4)
                      · exfalso; omega
          · have e3 : rc (tk y s (avs (tk y s) C n i0 t + 2)) ≠ 46 ∧ rc (tk y s (avs (tk y s) C n i0 t + 2)) ≠ 44 := by
              have h9 : tk y s (avs (tk y s) C n i0 t + 2) ≤ 265 := tK_lt _
              have h8 : tk y s (avs (tk y s) C n i0 t + 2) ≠ 44 := fun z => hlast ⟨hk0, z⟩
              unfold rc
              repeat' split
              all_goals omega
            refine sL (pc' := 101) (i := .aload_n 0) rfl rfl ?_
            refine sCvQ (p := 104) (as := []) rfl rfl rfl rfl (by decide) (Nat.le_of_ble_eq_true rfl) rfl (Nat.le_of_ble_eq_true rfl) (sk_179 _) rfl (by omega) (m_nextG hG) ?_
            rintro _ S1 ⟨rfl, hf1, hN1⟩
            have hv1 := vM_fr hv hf1
            have hm1 := mS_J hm hf1
            have hA1 := mN_alive hN1 qa
            refine sL (pc' := 105) (i := .aload_n 0) rfl rfl ?_
            refine sGi (p := 108) rfl rfl (sk_179 _) rfl rfl rfl hA1.2.1 ?_
            refine sIf_ne (p := 111) rfl rfl ⟨by omega, by omega⟩ (fun c1 => ?_) (fun c1 => ?_)
            · exact absurd c1 (by decide)
            · have c1 := c1
              refine sL (pc' := 112) (i := .aload_n 0) rfl rfl ?_
              refine sL (pc' := 113) (i := .iload_n 1) rfl rfl ?_
              refine sL (pc' := 114) (i := .aload_n 0) rfl rfl ?_
              refine sCvQ (p := 117) (as := []) rfl rfl rfl rfl (by decide) (Nat.le_of_ble_eq_true rfl) rfl (Nat.le_of_ble_eq_true rfl) (sk_179 _) rfl (by omega) (m_variable hv1 hA1 ha.1 hag) ?_
              rintro _ S2 ⟨z, rfl, hf2, hV2⟩
              have hm2 := mS_J hm1 hf2
              obtain ⟨hz, hA2⟩ : z = (pVar (tk y s) C n (avs (tk y s) C n i0 t)).2.2 ∧ mA S2 y s (avs (tk y s) C n i0 t + 1) := by
                rcases hV2 with ⟨_, q1, q2⟩ | ⟨q1, _⟩
                · exact ⟨q1, q2⟩
                · exact absurd qb q1
              have hzb := pVar_v qb
              rw [← hz] at hzb
              have hp2 : frP S2 (pshS S2 (vsL (tk y s) C n i0 how W t).length how z) := frP_psh
              have hmp : mS n (pshS S2 (vsL (tk y s) C n i0 how W t).length how z) (vsL (tk y s) C n i0 how W (t + 1)) V := by
                rw [hz]
                exact mS_psh (e := (how, (pVar (tk y s) C n (avs (tk y s) C n i0 t)).2.2)) hm2 (Or.inr (Or.inr (Or.inr (Or.inr ⟨hh, by rw [← hz]; omega, by rw [← hz]; omega⟩)))) (by omega) (hm2.1.2.2.trans (congrArg (fun z : Nat => ((z : Nat) : Int)) (show dpW (vsL (tk y s) C n i0 how W t) = (if how = 300 ∨ how = 303 ∨ how = 40 then 1 else 0) + dpW (vsL (tk y s) C n i0 how W t) from by rw [if_neg (by omega), Nat.zero_add]))) rfl rfl rfl rfl
              have hAp := mA_P hA2 hp2
              have hvp := vM_P (vM_fr hv1 hf2) hp2
              refine sCv (p := 120) (as := [_, _]) rfl rfl rfl rfl (by decide) (Nat.le_of_ble_eq_true rfl) rfl (Nat.le_of_ble_eq_true rfl) (sk_179 _) rfl (by omega) (m_push (w := (vsL (tk y s) C n i0 how W t).length) (x := how) (v := z) hm2.1.1 (by omega)) ?_
              refine sL (pc' := 121) (i := .aload_n 0) rfl rfl ?_
              refine sGi (p := 124) rfl rfl (sk_179 _) rfl rfl rfl hAp.2.1 ?_
              refine sIf_ne (p := 127) rfl rfl ⟨by omega, by omega⟩ (fun c2 => ?_) (fun c2 => ?_)
              · exact absurd c2 (by decide)
              · have c2 := c2
                refine sL (pc' := 128) (i := .aload_n 0) rfl rfl ?_
                refine sCvQ (p := 131) (as := []) rfl rfl rfl rfl (by decide) (Nat.le_of_ble_eq_true rfl) rfl (Nat.le_of_ble_eq_true rfl) (sk_179 _) rfl (by omega) (m_nextA hAp) ?_
                rintro _ S3 ⟨rfl, hf3, hN3⟩
                have hm3 := mS_J hmp hf3
                have hv3 := vM_fr hvp hf3
                have hA3 : mA S3 y s (avs (tk y s) C n i0 t + 2) := mN_alive hN3 qc
                refine sL (pc' := 132) (i := .aload_n 0) rfl rfl ?_
                refine sGi (p := 135) rfl rfl (sk_179 _) rfl rfl rfl hA3.2.1 ?_
                refine sIf_ne (p := 138) rfl rfl ⟨by omega, by omega⟩ (fun c3 => ?_) (fun c3 => ?_)
                · exact absurd c3 (by decide)
                · have c3 := c3
                  refine sL (pc' := 139) (i := .aload_n 0) rfl rfl ?_
                  refine sGi (p := 142) rfl rfl (sk_179 _) rfl rfl rfl hA3.2.2.2.1 ?_
                  refine sKb (p := 144) rfl rfl ?_
                  refine sIc_eq (p := 147) rfl rfl ⟨by omega, by omega⟩ ⟨by omega, by omega⟩ (fun c4 => ?_) (fun c4 => ?_)
                  · exfalso; omega
                  · have c4 := c4
                    refine sL (pc' := 148) (i := .aload_n 0) rfl rfl ?_
                    refine sGi (p := 151) rfl rfl (sk_179 _) rfl rfl rfl hA3.2.1 ?_
                    refine sIf_ne (p := 154) rfl rfl ⟨by omega, by omega⟩ (fun c5 => ?_) (fun c5 => ?_)
                    · exact absurd c5 (by decide)
                    · have c5 := c5
                      refine sL (pc' := 155) (i := .aload_n 0) rfl rfl ?_
                      refine sGi (p := 158) rfl rfl (sk_179 _) rfl rfl rfl hA3.2.2.2.1 ?_
                      refine sKb (p := 160) rfl rfl ?_
                      refine sIc_eq (p := 163) rfl rfl ⟨by omega, by omega⟩ ⟨by omega, by omega⟩ (fun c6 => ?_) (fun c6 => ?_)
                      · exfalso; omega
                      · have c6 := c6
                        refine sL (pc' := 164) (i := .aload_n 0) rfl rfl ?_
                        refine sKi (p := 165) rfl rfl ?_
                        refine sL (pc' := 166) (i := .aload_n 0) rfl rfl ?_
                        refine sGi (p := 169) rfl rfl (sk_179 _) rfl rfl rfl hA3.2.2.2.2.1 ?_
                        refine sCv (p := 172) (as := [_, _]) rfl rfl rfl rfl (by decide) (Nat.le_of_ble_eq_true rfl) rfl (Nat.le_of_ble_eq_true rfl) (sk_179 _) rfl (by omega) (m_bad (kz := 0) hA3.2.1 ⟨by decide, by decide⟩) ?_
                        refine sL (pc' := 173) (i := .aload_n 0) rfl rfl ?_
                        refine sGi (p := 176) rfl rfl (sk_179 _) rfl rfl rfl ((bd_14 hA3.2.1).trans (if_pos rfl)) ?_
                        refine sIf_ne (p := 179) rfl rfl ⟨by omega, by omega⟩ (fun c7 => ?_) (fun c7 => ?_)
                        · have c7 := c7
                          refine sKi (p := 184) rfl rfl ?_
                          refine sEn (i := .ireturn) rfl (rfl) ?_
                          have hb := mX_bd (k := 2) (q := tA y s (avs (tk y s) C n i0 t + 2)) hA3.1 hA3.2.1 ⟨by decide, by decide⟩ rfl (tP_le (avs (tk y s) C n i0 t + 2 + 1)) hA3.2.2.1
                          refine hbad 2 (avs (tk y s) C n i0 t + 2) _ (Or.inr ?_) (frK_trans (frK_trans hf0 (frK_trans (frK_J (frJ_trans hf1 hf2)) (frK_trans (frK_P hp2) (frK_J hf3)))) (frK_J hb.2)) hb.1
                          rw [← hN, hj, hk0]
                          exact ⟨rfl, qd, (if_neg (fun z => qc z.2) : rf (tk y s) 2 (avs (tk y s) C n i0 t + 2) = 2).symm, rfl⟩
                        · exact absurd c7 (by decide)
      · have hr3 := True.intro
        refine sL (pc' := 101) (i := .aload_n 0) rfl rfl ?_
        refine sCvQ (p := 104) (as := []) rfl rfl rfl rfl (by decide) (Nat.le_of_ble_eq_true rfl) rfl (Nat.le_of_ble_eq_true rfl) (sk_179 _) rfl (by omega) (m_nextG hG) ?_
        rintro _ S1 ⟨rfl, hf1, hN1⟩
        have hv1 := vM_fr hv hf1
        have hm1 := mS_J hm hf1
        have hA1 := mN_alive hN1 qa
        refine sL (pc' := 105) (i := .aload_n 0) rfl rfl ?_
        refine sGi (p := 108) rfl rfl (sk_179 _) rfl rfl rfl hA1.2.1 ?_
        refine sIf_ne (p := 111) rfl rfl ⟨by omega, by omega⟩ (fun c1 => ?_) (fun c1 => ?_)
        · exact absurd c1 (by decide)
        · have c1 := c1
          refine sL (pc' := 112) (i := .aload_n 0) rfl rfl ?_
          refine sL (pc' := 113) (i := .iload_n 1) rfl rfl ?_
          refine sL (pc' := 114) (i := .aload_n 0) rfl rfl ?_
          refine sCvQ (p := 117) (as := []) rfl rfl rfl rfl (by decide) (Nat.le_of_ble_eq_true rfl) rfl (Nat.le_of_ble_eq_true rfl) (sk_179 _) rfl (by omega) (m_variable hv1 hA1 ha.1 hag) ?_
          rintro _ S2 ⟨z, rfl, hf2, hV2⟩
          have hm2 := mS_J hm1 hf2
          have hX2 : mX S2 y s (pVar (tk y s) C n (avs (tk y s) C n i0 t)).1 (tA y s (pVar (tk y s) C n (avs (tk y s) C n i0 t)).2.1) := by
            rcases hV2 with ⟨q1, _⟩ | ⟨_, q1⟩
            · exact absurd q1 qb
            · exact q1
          have hp2 : frP S2 (pshS S2 (vsL (tk y s) C n i0 how W t).length how z) := frP_psh
          have hXp := mX_P hX2 hp2
          have hxk := hX2.2.2.1
          refine sCv (p := 120) (as := [_, _]) rfl rfl rfl rfl (by decide) (Nat.le_of_ble_eq_true rfl) rfl (Nat.le_of_ble_eq_true rfl) (sk_179 _) rfl (by omega) (m_push (w := (vsL (tk y s) C n i0 how W t).length) (x := how) (v := z) hm2.1.1 (by omega)) ?_
          refine sL (pc' := 121) (i := .aload_n 0) rfl rfl ?_
          refine sGi (p := 124) rfl rfl (sk_179 _) rfl rfl rfl hXp.2.1 ?_
          refine sIf_ne (p := 127) rfl rfl ⟨by omega, by omega⟩ (fun c2 => ?_) (fun c2 => ?_)
          · have c2 := c2
            refine sL (pc' := 132) (i := .aload_n 0) rfl rfl ?_
            refine sGi (p := 135) rfl rfl (sk_179 _) rfl rfl rfl hXp.2.1 ?_
            refine sIf_ne (p := 138) rfl rfl ⟨by omega, by omega⟩ (fun c3 => ?_) (fun c3 => ?_)
            · have c3 := c3
              refine sL (pc' := 148) (i := .aload_n 0) rfl rfl ?_
              refine sGi (p := 151) rfl rfl (sk_179 _) rfl rfl rfl hXp.2.1 ?_
              refine sIf_ne (p := 154) rfl rfl ⟨by omega, by omega⟩ (fun c4 => ?_) (fun c4 => ?_)
              · have c4 := c4
                refine sL (pc' := 173) (i := .aload_n 0) rfl rfl ?_
                refine sGi (p := 176) rfl rfl (sk_179 _) rfl rfl rfl hXp.2.1 ?_
                refine sIf_ne (p := 179) rfl rfl ⟨by omega, by omega⟩ (fun c5 => ?_) (fun c5 => ?_)
                · have c5 := c5
                  refine sKi (p := 184) rfl rfl ?_
                  refine sEn (i := .ireturn) rfl (rfl) ?_
                  refine hbad (pVar (tk y s) C n (avs (tk y s) C n i0 t)).1 (pVar (tk y s) C n (avs (tk y s) C n i0 t)).2.1 _ (Or.inl ?_) (frK_trans hf0 (frK_trans (frK_J (frJ_trans hf1 hf2)) (frK_P hp2))) hXp
                  rw [← hN, hpa.1, hpa.2]
                  exact ⟨qb, rfl, rfl⟩
                · exfalso; omega
              · exfalso; omega
            · exfalso; omega
          · exfalso; omega
  | succ k ih =>
    intro t ht S hf0 hv hG hm
    have hgo := (nVs_ok (tk y s) C n i0).2.1 t (by omega)
    have ha := avs_ok (n := n) (C := C) h0 t (by omega)
    have hlen := vsL_len (K := tk y s) (C := C) (n := n) (i0 := i0) (how := how) (W := W) t
    have hnT := (nT_ok y s).1
    have hpa := pVs_a (K := tk y s) (C := C) (n := n) (i0 := i0) t
    rw [hpa.1, hpa.2] at hgo
    have qb := hgo.1
    have hpv := pVar_v qb
    rw [hpv.2.1] at hgo
    have qa : tk y s (avs (tk y s) C n i0 t) ≠ 265 := by omega
    have qc : tk y s (avs (tk y s) C n i0 t + 2) ≠ 265 := by omega
    have e3 : rc (tk y s (avs (tk y s) C n i0 t + 2)) = 44 := by rw [hgo.2]; rfl
    have hav : avs (tk y s) C n i0 (t + 1) = avs (tk y s) C n i0 t + 2 + 1 := congrArg (· + 1) (hpa.2.trans hpv.2.1)
    refine sL (pc' := 101) (i := .aload_n 0) rfl rfl ?_
    refine sCvQ (p := 104) (as := []) rfl rfl rfl rfl (by decide) (Nat.le_of_ble_eq_true rfl) rfl (Nat.le_of_ble_eq_true rfl) (sk_179 _) rfl (by omega) (m_nextG hG) ?_
    rintro _ S1 ⟨rfl, hf1, hN1⟩
    have hv1 := vM_fr hv hf1
    have hm1 := mS_J hm hf1
    have hA1 := mN_alive hN1 qa
    refine sL (pc' := 105) (i := .aload_n 0) rfl rfl ?_
    refine sGi (p := 108) rfl rfl (sk_179 _) rfl rfl rfl hA1.2.1 ?_
    refine sIf_ne (p := 111) rfl rfl ⟨by omega, by omega⟩ (fun c1 => ?_) (fun c1 => ?_)
    · exact absurd c1 (by decide)
    · have c1 := c1
      refine sL (pc' := 112) (i := .aload_n 0) rfl rfl ?_
      refine sL (pc' := 113) (i := .iload_n 1) rfl rfl ?_
      refine sL (pc' := 114) (i := .aload_n 0) rfl rfl ?_
      refine sCvQ (p := 117) (as := []) rfl rfl rfl rfl (by decide) (Nat.le_of_ble_eq_true rfl) rfl (Nat.le_of_ble_eq_true rfl) (sk_179 _) rfl (by omega) (m_variable hv1 hA1 ha.1 hag) ?_
      rintro _ S2 ⟨z, rfl, hf2, hV2⟩
      have hm2 := mS_J hm1 hf2
      obtain ⟨hz, hA2⟩ : z = (pVar (tk y s) C n (avs (tk y s) C n i0 t)).2.2 ∧ mA S2 y s (avs (tk y s) C n i0 t + 1) := by
        rcases hV2 with ⟨_, q1, q2⟩ | ⟨q1, _⟩
        · exact ⟨q1, q2⟩
        · exact absurd qb q1
      have hzb := pVar_v qb
      rw [← hz] at hzb
      have hp2 : frP S2 (pshS S2 (vsL (tk y s) C n i0 how W t).length how z) := frP_psh
      have hmp : mS n (pshS S2 (vsL (tk y s) C n i0 how W t).length how z) (vsL (tk y s) C n i0 how W (t + 1)) V := by
        rw [hz]
        exact mS_psh (e := (how, (pVar (tk y s) C n (avs (tk y s) C n i0 t)).2.2)) hm2 (Or.inr (Or.inr (Or.inr (Or.inr ⟨hh, by rw [← hz]; omega, by rw [← hz]; omega⟩)))) (by omega) (hm2.1.2.2.trans (congrArg (fun z : Nat => ((z : Nat) : Int)) (show dpW (vsL (tk y s) C n i0 how W t) = (if how = 300 ∨ how = 303 ∨ how = 40 then 1 else 0) + dpW (vsL (tk y s) C n i0 how W t) from by rw [if_neg (by omega), Nat.zero_add]))) rfl rfl rfl rfl
      have hAp := mA_P hA2 hp2
      have hvp := vM_P (vM_fr hv1 hf2) hp2
      refine sCv (p := 120) (as := [_, _]) rfl rfl rfl rfl (by decide) (Nat.le_of_ble_eq_true rfl) rfl (Nat.le_of_ble_eq_true rfl) (sk_179 _) rfl (by omega) (m_push (w := (vsL (tk y s) C n i0 how W t).length) (x := how) (v := z) hm2.1.1 (by omega)) ?_
      refine sL (pc' := 121) (i := .aload_n 0) rfl rfl ?_
      refine sGi (p := 124) rfl rfl (sk_179 _) rfl rfl rfl hAp.2.1 ?_
      refine sIf_ne (p := 127) rfl rfl ⟨by omega, by omega⟩ (fun c2 => ?_) (fun c2 => ?_)
      · exact absurd c2 (by decide)
      · have c2 := c2
        refine sL (pc' := 128) (i := .aload_n 0) rfl rfl ?_
        refine sCvQ (p := 131) (as := []) rfl rfl rfl rfl (by decide) (Nat.le_of_ble_eq_true rfl) rfl (Nat.le_of_ble_eq_true rfl) (sk_179 _) rfl (by omega) (m_nextA hAp) ?_
        rintro _ S3 ⟨rfl, hf3, hN3⟩
        have hm3 := mS_J hmp hf3
        have hv3 := vM_fr hvp hf3
        have hA3 : mA S3 y s (avs (tk y s) C n i0 t + 2) := mN_alive hN3 qc
        refine sL (pc' := 132) (i := .aload_n 0) rfl rfl ?_
        refine sGi (p := 135) rfl rfl (sk_179 _) rfl rfl rfl hA3.2.1 ?_
        refine sIf_ne (p := 138) rfl rfl ⟨by omega, by omega⟩ (fun c3 => ?_) (fun c3 => ?_)
        · exact absurd c3 (by decide)
        · have c3 := c3
          refine sL (pc' := 139) (i := .aload_n 0) rfl rfl ?_
          refine sGi (p := 142) rfl rfl (sk_179 _) rfl rfl rfl hA3.2.2.2.1 ?_
          refine sKb (p := 144) rfl rfl ?_
          refine sIc_eq (p := 147) rfl rfl ⟨by omega, by omega⟩ ⟨by omega, by omega⟩ (fun c4 => ?_) (fun c4 => ?_)
          · have c4 := c4
            exact ih (t + 1) (by omega) S3 (frK_trans hf0 (frK_trans (frK_J (frJ_trans hf1 hf2)) (frK_trans (frK_P hp2) (frK_J hf3)))) hv3 (by rw [hav]; exact mG_A hA3) hm3
          · exfalso; omega

end ME
