/-! ===== the reference's reading: formula ===== -/
def invF (y : Nat → Nat) (s : Nat) (b : Bool) (W : List (Int × Int)) (V : List (Nat → Bool)) (i : Nat) : Prop := i ≤ nT y s ∧ W.length ≤ i ∧ 2 * V.length ≤ i + (if b then 0 else 1) ∧ bnW W + (if b then 0 else 1) = V.length ∧ dpW W ≤ 20
def PF (X : List Int32) (y : Nat → Nat) (s n : Nat) (S0 : ST) (QQ : Option Value → ST → Prop) (b : Bool) (W : List (Int × Int)) (V : List (Nat → Bool)) (i : Nat) : Prop := invF y s b W V i → ∀ S, frK S0 S → mA S y s i → mS n S W V → sT X 5 209 17 [some (.ref 179), some (.int (iI (bI b)))] [] S (sE X 209 QQ)
def QF (y : Nat → Nat) (s : Nat) (S0 : ST) (QQ : Option Value → ST → Prop) (k j : Nat) : Prop := ∀ S, frK S0 S → mX S y s k (tA y s j) → QQ none S
def EF (y : Nat → Nat) (s n : Nat) (S0 : ST) (QQ : Option Value → ST → Prop) (v : Nat → Bool) (i : Nat) : Prop := ∀ S, frK S0 S → mA S y s i → mS n S [] [v] → QQ none S
section MK
variable {X : List Int32} {S0 : ST} {y : Nat → Nat} {s i n : Nat} {sz : Nat → Nat} {W : List (Int × Int)} {V : List (Nat → Bool)} {C : Nat → Int64} {fn nc : Nat} {Fn : Nat → Nat → Bool} {nm rn : Nat → Int64} {rof : Nat → Nat} {QQ : Option Value → ST → Prop}
theorem rc_of {c : Int} {d : Nat} (h : c = 200 ∧ d = 256 ∨ c = 41 ∧ d = 41 ∨ c = 59 ∧ d = 59) (z : rc (tk y s i) = c) : tk y s i = d := by
  have h1 := tk_20 (y := y) (s := s) i
  unfold rc at z
  revert z
  repeat' split
  all_goals omega
theorem fm_dead {S : ST} {k p : Nat} {v : Value} (hX : mX S y s k p) (hq : QQ none S) : sT X 5 209 17 [some (.ref 179), some v] [] S (sE X 209 QQ) := by
  have hk := hX.2.2.1
  refine sL (pc' := 18) (i := .aload_n 0) rfl rfl ?_
  refine sGi (p := 21) rfl rfl (sk_179 _) rfl rfl rfl hX.2.1 ?_
  refine sIf_ne (p := 24) rfl rfl ⟨by omega, by omega⟩ (fun c1 => ?_) (fun c1 => ?_)
  · have c1 := c1
    refine sEn (i := .return_) rfl (rfl) ?_
    exact hq
  · exfalso; omega
theorem fm_N {S : ST} {b : Bool} {j : Nat} (h : nxq (tk y s) (PF X y s n S0 QQ) (QF y s S0 QQ) b W V j) (hi : invF y s b W V j) (hf : frK S0 S) (hN : mN S y s j) (hm : mS n S W V) : sT X 5 209 17 [some (.ref 179), some (.int (iI (bI b)))] [] S (sE X 209 QQ) := by
  unfold nxq at h
  by_cases c : tk y s j = 265
  · rw [if_pos c] at h
    have hX := mN_dead hN c
    exact fm_dead hX (h S hf hX)
  · rw [if_neg c] at h
    exact h hi S hf (mN_alive hN c) hm
theorem fm_not (hv0 : vM S0 n sz) (q : tk y s i = 33) (hd : dpW W < 20) (h : nxq (tk y s) (PF X y s n S0 QQ) (QF y s S0 QQ) true ((300, 0) :: W) V (i + 1)) : PF X y s n S0 QQ true W V i := by
  intro hi S hf hA hm
  obtain ⟨hi1, hi2, hi3, hi4, hi5⟩ := hi
  have hv := vM_K hv0 hf
  have hs := hA.1.1
  have hnT := (nT_ok y s).1
  have hlt := nT_lt hi1 (by omega) (by omega)
  have hi3 : 2 * V.length ≤ i := hi3
  have hi4 : bnW W = V.length := hi4
  have hiv : invF y s true ((300, 0) :: W) V (i + 1) := ⟨hlt, Nat.succ_le_succ hi2, (show 2 * V.length ≤ i + 1 by omega), (show (if 0 < rk5 300 then 1 else 0) + bnW W + 0 = V.length from by rw [if_neg (by decide)]; omega), (show (if (300 : Int) = 300 ∨ (300 : Int) = 303 ∨ (300 : Int) = 40 then 1 else 0) + dpW W ≤ 20 from by rw [if_pos (by decide)]; omega)⟩
  show sT X 5 209 17 [some (.ref 179), some (.int (iI 1))] [] S (sE X 209 QQ)
  refine sL (pc' := 18) (i := .aload_n 0) rfl rfl ?_
  refine sGi (p := 21) rfl rfl (sk_179 _) rfl rfl rfl hA.2.1 ?_
  refine sIf_ne (p := 24) rfl rfl ⟨by omega, by omega⟩ (fun c1 => ?_) (fun c1 => ?_)
  · exact absurd c1 (by decide)
  · have c1 := c1
    refine sL (pc' := 25) (i := .iload_n 1) rfl rfl ?_
    refine sIf_eq (p := 28) rfl rfl ⟨by omega, by omega⟩ (fun c2 => ?_) (fun c2 => ?_)
    · exact absurd c2 (by decide)
    · have c2 := c2
      refine sL (pc' := 29) (i := .aload_n 0) rfl rfl ?_
      refine sCvQ (p := 32) (as := []) rfl rfl rfl rfl (by decide) (Nat.le_of_ble_eq_true rfl) rfl (Nat.le_of_ble_eq_true rfl) (sk_179 _) rfl (by omega) (sM.deeper (m_op_not hv hA q hm (by omega) hd) (d' := 4) (by decide)) ?_
      rintro _ S1 ⟨rfl, hf1, hN1, hm1⟩
      refine sBn (p := 35) rfl rfl (fun c3 => ?_) (fun c3 => ?_)
      · exact absurd c3 (by decide)
      · have c3 := c3
        refine sKi (p := 36) rfl rfl ?_
        refine sL (i := .goto 4) rfl rfl ?_
        refine sL (pc' := 41) (i := .istore_n 1) (ls' := [some (.ref 179), some (.int (iI 1))]) rfl rfl ?_
        refine sL (i := .goto (-24)) rfl rfl ?_
        exact fm_N (b := true) h hiv (frK_trans hf hf1) hN1 hm1
theorem fm_par (hv0 : vM S0 n sz) (q : tk y s i = 40) (hd : dpW W < 20) (h : nxq (tk y s) (PF X y s n S0 QQ) (QF y s S0 QQ) true ((40, 0) :: W) V (i + 1)) : PF X y s n S0 QQ true W V i := by
  intro hi S hf hA hm
  obtain ⟨hi1, hi2, hi3, hi4, hi5⟩ := hi
  have hv := vM_K hv0 hf
  have hs := hA.1.1
  have hnT := (nT_ok y s).1
  have hlt := nT_lt hi1 (by omega) (by omega)
  have hi3 : 2 * V.length ≤ i := hi3
  have hi4 : bnW W = V.length := hi4
  have hiv : invF y s true ((40, 0) :: W) V (i + 1) := ⟨hlt, Nat.succ_le_succ hi2, (show 2 * V.length ≤ i + 1 by omega), (show (if 0 < rk5 40 then 1 else 0) + bnW W + 0 = V.length from by rw [if_neg (by decide)]; omega), (show (if (40 : Int) = 300 ∨ (40 : Int) = 303 ∨ (40 : Int) = 40 then 1 else 0) + dpW W ≤ 20 from by rw [if_pos (by decide)]; omega)⟩
  show sT X 5 209 17 [some (.ref 179), some (.int (iI 1))] [] S (sE X 209 QQ)
  refine sL (pc' := 18) (i := .aload_n 0) rfl rfl ?_
  refine sGi (p := 21) rfl rfl (sk_179 _) rfl rfl rfl hA.2.1 ?_
  refine sIf_ne (p := 24) rfl rfl ⟨by omega, by omega⟩ (fun c1 => ?_) (fun c1 => ?_)
  · exact absurd c1 (by decide)
  · have c1 := c1
    refine sL (pc' := 25) (i := .iload_n 1) rfl rfl ?_
    refine sIf_eq (p := 28) rfl rfl ⟨by omega, by omega⟩ (fun c2 => ?_) (fun c2 => ?_)
    · exact absurd c2 (by decide)
    · have c2 := c2
      refine sL (pc' := 29) (i := .aload_n 0) rfl rfl ?_
      refine sCvQ (p := 32) (as := []) rfl rfl rfl rfl (by decide) (Nat.le_of_ble_eq_true rfl) rfl (Nat.le_of_ble_eq_true rfl) (sk_179 _) rfl (by omega) (sM.deeper (m_op_par hv hA q hm (by omega) hd) (d' := 4) (by decide)) ?_
      rintro _ S1 ⟨rfl, hf1, hN1, hm1⟩
      refine sBn (p := 35) rfl rfl (fun c3 => ?_) (fun c3 => ?_)
      · exact absurd c3 (by decide)
      · have c3 := c3
        refine sKi (p := 36) rfl rfl ?_
        refine sL (i := .goto 4) rfl rfl ?_
        refine sL (pc' := 41) (i := .istore_n 1) (ls' := [some (.ref 179), some (.int (iI 1))]) rfl rfl ?_
        refine sL (i := .goto (-24)) rfl rfl ?_
        exact fm_N (b := true) h hiv (frK_trans hf hf1) hN1 hm1
theorem fm_deep (hv0 : vM S0 n sz) (q : tk y s i = 33 ∨ tk y s i = 40 ∨ tk y s i = 262 ∨ tk y s i = 263) (hd : dpW W = 20) (h : QF y s S0 QQ 5 i) : PF X y s n S0 QQ true W V i := by
  intro hi S hf hA hm
  obtain ⟨hi1, hi2, hi3, hi4, hi5⟩ := hi
  have hv := vM_K hv0 hf
  have hs := hA.1.1
  have hnT := (nT_ok y s).1
  have hop : sM X 4 208 [.ref 179] S (fun r S' => r = some (.int (iI (bI false))) ∧ frK S S' ∧ mX S' y s 5 (tA y s i)) := by
    rcases q with q | q | q | q
    · exact sM.deeper (m_op_not_d hv hA q hm (by omega) hd) (by decide)
    · exact sM.deeper (m_op_par_d hv hA q hm (by omega) hd) (by decide)
    · exact sM.deeper (m_op_some_d hv hA q hm (by omega) hd) (by decide)
    · exact sM.deeper (m_op_all_d hv hA q hm (by omega) hd) (by decide)
  show sT X 5 209 17 [some (.ref 179), some (.int (iI 1))] [] S (sE X 209 QQ)
  refine sL (pc' := 18) (i := .aload_n 0) rfl rfl ?_
  refine sGi (p := 21) rfl rfl (sk_179 _) rfl rfl rfl hA.2.1 ?_
  refine sIf_ne (p := 24) rfl rfl ⟨by omega, by omega⟩ (fun c1 => ?_) (fun c1 => ?_)
  · exact absurd c1 (by decide)
  · have c1 := c1
    refine sL (pc' := 25) (i := .iload_n 1) rfl rfl ?_
    refine sIf_eq (p := 28) rfl rfl ⟨by omega, by omega⟩ (fun c2 => ?_) (fun c2 => ?_)
    · exact absurd c2 (by decide)
    · have c2 := c2
      refine sL (pc' := 29) (i := .aload_n 0) rfl rfl ?_
      refine sCvQ (p := 32) (as := []) rfl rfl rfl rfl (by decide) (Nat.le_of_ble_eq_true rfl) rfl (Nat.le_of_ble_eq_true rfl) (sk_179 _) rfl (by omega) (hop) ?_
      rintro _ S1 ⟨rfl, hf1, hX1⟩
      refine sBn (p := 35) rfl rfl (fun c3 => ?_) (fun c3 => ?_)
      · exact absurd c3 (by decide)
      · have c3 := c3
        refine sKi (p := 36) rfl rfl ?_
        refine sL (i := .goto 4) rfl rfl ?_
        refine sL (pc' := 41) (i := .istore_n 1) (ls' := [some (.ref 179), some (.int (iI 1))]) rfl rfl ?_
        refine sL (i := .goto (-24)) rfl rfl ?_
        exact fm_dead hX1 (h S1 (frK_trans hf hf1) hX1)
theorem okW_vsL {how : Int} (hh : how = 301 ∨ how = 302) : ∀ t, bnW (vsL (tk y s) C n (i + 1) how W t) = bnW W
  | 0 => by
    show (if 0 < rk5 303 then 1 else 0) + bnW W = _
    rw [if_neg (by decide), Nat.zero_add]
  | t + 1 => by
    have := rk5_b how
    show (if 0 < rk5 how then 1 else 0) + bnW (vsL (tk y s) C n (i + 1) how W t) = _
    rw [if_neg (by omega), Nat.zero_add, okW_vsL hh t]
theorem fm_list (hv0 : vM S0 n sz) (hag : agC C y s) (q : tk y s i = 262 ∨ tk y s i = 263) (hd : dpW W < 20) (h : (pVs (tk y s) C n (i + 1) (nVs (tk y s) C n (i + 1))).1 = 0 → tk y s (pVs (tk y s) C n (i + 1) (nVs (tk y s) C n (i + 1))).2.1 = 46 → nxq (tk y s) (PF X y s n S0 QQ) (QF y s S0 QQ) true (vsL (tk y s) C n (i + 1) (if tk y s i = 262 then 301 else 302) W (nVs (tk y s) C n (i + 1) + 1)) V ((pVs (tk y s) C n (i + 1) (nVs (tk y s) C n (i + 1))).2.1 + 1)) (hb : ∀ k j, qlB (tk y s) C n (i + 1) k j → QF y s S0 QQ k j) : PF X y s n S0 QQ true W V i := by
  intro hi S hf hA hm
  obtain ⟨hi1, hi2, hi3, hi4, hi5⟩ := hi
  have hv := vM_K hv0 hf
  have hs := hA.1.1
  have hnT := (nT_ok y s).1
  have hi3 : 2 * V.length ≤ i := hi3
  have hi4 : bnW W = V.length := hi4
  have hlt := nT_lt hi1 (by omega) (by omega)
  have hop : sM X 4 208 [.ref 179] S (fun r S' => r = some (.int (iI (bI false))) ∧ frK S S' ∧ (((pVs (tk y s) C n (i + 1) (nVs (tk y s) C n (i + 1))).1 = 0 ∧ tk y s (pVs (tk y s) C n (i + 1) (nVs (tk y s) C n (i + 1))).2.1 = 46 ∧ mN S' y s ((pVs (tk y s) C n (i + 1) (nVs (tk y s) C n (i + 1))).2.1 + 1) ∧ mS n S' (vsL (tk y s) C n (i + 1) (if tk y s i = 262 then 301 else 302) W (nVs (tk y s) C n (i + 1) + 1)) V) ∨ (∃ k j, qlB (tk y s) C n (i + 1) k j ∧ mX S' y s k (tA y s j)))) := by
    rcases q with q | q
    · rw [if_pos q]
      exact m_op_some hv hA q hi1 hag hm hi2 hd
    · rw [if_neg (by omega)]
      exact m_op_all hv hA q hi1 hag hm hi2 hd
  have hh : (if tk y s i = 262 then (301 : Int) else 302) = 301 ∨ (if tk y s i = 262 then (301 : Int) else 302) = 302 := by
    split
    · exact Or.inl rfl
    · exact Or.inr rfl
  show sT X 5 209 17 [some (.ref 179), some (.int (iI 1))] [] S (sE X 209 QQ)
  refine sL (pc' := 18) (i := .aload_n 0) rfl rfl ?_
  refine sGi (p := 21) rfl rfl (sk_179 _) rfl rfl rfl hA.2.1 ?_
  refine sIf_ne (p := 24) rfl rfl ⟨by omega, by omega⟩ (fun c1 => ?_) (fun c1 => ?_)
  · exact absurd c1 (by decide)
  · have c1 := c1
    refine sL (pc' := 25) (i := .iload_n 1) rfl rfl ?_
    refine sIf_eq (p := 28) rfl rfl ⟨by omega, by omega⟩ (fun c2 => ?_) (fun c2 => ?_)
    · exact absurd c2 (by decide)
    · have c2 := c2
      refine sL (pc' := 29) (i := .aload_n 0) rfl rfl ?_
      refine sCvQ (p := 32) (as := []) rfl rfl rfl rfl (by decide) (Nat.le_of_ble_eq_true rfl) rfl (Nat.le_of_ble_eq_true rfl) (sk_179 _) rfl (by omega) (hop) ?_
      rintro _ S1 ⟨rfl, hf1, hd1⟩
      refine sBn (p := 35) rfl rfl (fun c3 => ?_) (fun c3 => ?_)
      · exact absurd c3 (by decide)
      · have c3 := c3
        refine sKi (p := 36) rfl rfl ?_
        refine sL (i := .goto 4) rfl rfl ?_
        refine sL (pc' := 41) (i := .istore_n 1) (ls' := [some (.ref 179), some (.int (iI 1))]) rfl rfl ?_
        refine sL (i := .goto (-24)) rfl rfl ?_
        rcases hd1 with ⟨r1, r2, r3, r4⟩ | ⟨k, j, r1, r2⟩
        · have hpo := pVs_ok (i0 := i + 1) hlt r1
          have hlt2 := nT_lt hpo.1 (by omega) (by omega)
          have hav := avs_ok (n := n) (C := C) (i0 := i + 1) hlt (nVs (tk y s) C n (i + 1)) (Nat.le_refl _)
          have hpa := pVs_a (K := tk y s) (C := C) (n := n) (i0 := i + 1) (nVs (tk y s) C n (i + 1))
          have hpv := pVar_v (hpa.1.symm.trans r1)
          have hj : (pVs (tk y s) C n (i + 1) (nVs (tk y s) C n (i + 1))).2.1 = avs (tk y s) C n (i + 1) (nVs (tk y s) C n (i + 1)) + 2 := hpa.2.trans hpv.2.1
          refine fm_N (b := true) (h r1 r2) ⟨hlt2, ?_, ?_, ?_, ?_⟩ (frK_trans hf hf1) r3 r4
          · rw [vsL_len]
            omega
          · show 2 * V.length ≤ _
            omega
          · rw [okW_vsL hh]
            exact hi4
          · rw [dpW_vsL hh]
            omega
        · exact fm_dead r2 (hb k j r1 S1 (frK_trans hf hf1) r2)
theorem pfq_dp : ∀ (W : List (Int × Int)) (f : Nat → Bool), dpW (pfq n sz W f).1 ≤ dpW W
  | [], f => Nat.le_refl _
  | (x, a) :: W, f => by
    by_cases q : 300 ≤ x
    · rw [pfq_p (e := (x, a)) q]
      exact Nat.le_trans (pfq_dp W _) (Nat.le_add_left _ _)
    · rw [pfq_n (e := (x, a)) q]
      exact Nat.le_refl _
theorem fm_leaf (hv0 : vM S0 n sz) (hag : agC C y s) (hnz : ∀ k, k ≤ nT y s → tk y s k = 258 → C k ≠ 0) (hF0 : mFn S0 fn Fn nc rn rof) (hnm : nmJ nm fn rn rof nc) (htb : ∀ f, f < fn → tbT (pr sz n) (Fn f)) (q : ¬ (tk y s i = 33 ∨ tk y s i = 40 ∨ tk y s i = 262 ∨ tk y s i = 263)) (h : (lef (tk y s) C n sz fn Fn nm i).1 = 0 → nxq (tk y s) (PF X y s n S0 QQ) (QF y s S0 QQ) false (pfq n sz W (lef (tk y s) C n sz fn Fn nm i).2.2).1 ((pfq n sz W (lef (tk y s) C n sz fn Fn nm i).2.2).2 :: V) (lef (tk y s) C n sz fn Fn nm i).2.1) (hb : (lef (tk y s) C n sz fn Fn nm i).1 ≠ 0 → QF y s S0 QQ (lef (tk y s) C n sz fn Fn nm i).1 (lef (tk y s) C n sz fn Fn nm i).2.1) : PF X y s n S0 QQ true W V i := by
  intro hi S hf hA hm
  obtain ⟨hi1, hi2, hi3, hi4, hi5⟩ := hi
  have hv := vM_K hv0 hf
  have hs := hA.1.1
  have hnT := (nT_ok y s).1
  have hi3 : 2 * V.length ≤ i := hi3
  have hi4 : bnW W = V.length := hi4
  have hb2 : V.length + 1 ≤ 220 := by omega
  have hop : sM X 4 208 [.ref 179] S (fun r S' => r = some (.int (iI (bI true))) ∧ lfN n sz y s W V (lef (tk y s) C n sz fn Fn nm i) S S') := by
    unfold lef
    by_cases c1 : tk y s i = 260
    · rw [if_pos (Or.inl c1)]
      unfold pCon
      rw [if_pos c1]
      exact m_op_true hv hA c1 hm hb2
    · by_cases c2 : tk y s i = 261
      · rw [if_pos (Or.inr c2)]
        unfold pCon
        rw [if_neg c1]
        exact m_op_false hv hA c2 hm hb2
      · rw [if_neg (by omega)]
        by_cases c3 : tk y s i = 258
        · rw [if_pos c3]
          exact m_op_name hv hA c3 hi1 hag (hnz i hi1 c3) (mFn_K hF0 hf) hnm htb hm hb2
        · rw [if_neg c3]
          by_cases c4 : tk y s i = 35
          · rw [if_pos c4]
            exact m_op_atom hv hA c4 hi1 hag hm hb2
          · rw [if_neg c4, show rf (tk y s) 2 i = 2 from if_neg (fun z => hA.2.2.2.2.2.1 z.2)]
            refine sM.weaken (m_op_none hv hA ⟨by omega, by omega, by omega, by omega, c4, c1, c2, c3⟩) ?_
            rintro r S' ⟨h1, h2, h3⟩
            exact ⟨h1, h2, Or.inr ⟨Nat.succ_ne_zero _, h3⟩⟩
  have hpr := prg_lef (y := y) (s := s) (C := C) (n := n) (N := fn) (sz := sz) (Fn := Fn) (nm := nm) i hi1
  generalize (lef (tk y s) C n sz fn Fn nm i) = R at *
  show sT X 5 209 17 [some (.ref 179), some (.int (iI 1))] [] S (sE X 209 QQ)
  refine sL (pc' := 18) (i := .aload_n 0) rfl rfl ?_
  refine sGi (p := 21) rfl rfl (sk_179 _) rfl rfl rfl hA.2.1 ?_
  refine sIf_ne (p := 24) rfl rfl ⟨by omega, by omega⟩ (fun c1 => ?_) (fun c1 => ?_)
  · exact absurd c1 (by decide)
  · have c1 := c1
    refine sL (pc' := 25) (i := .iload_n 1) rfl rfl ?_
    refine sIf_eq (p := 28) rfl rfl ⟨by omega, by omega⟩ (fun c2 => ?_) (fun c2 => ?_)
    · exact absurd c2 (by decide)
    · have c2 := c2
      refine sL (pc' := 29) (i := .aload_n 0) rfl rfl ?_
      refine sCvQ (p := 32) (as := []) rfl rfl rfl rfl (by decide) (Nat.le_of_ble_eq_true rfl) rfl (Nat.le_of_ble_eq_true rfl) (sk_179 _) rfl (by omega) (hop) ?_
      rintro _ S1 ⟨rfl, hf1, hd1⟩
      refine sBn (p := 35) rfl rfl (fun c3 => ?_) (fun c3 => ?_)
      · have c3 := c3
        refine sKi (p := 40) rfl rfl ?_
        refine sL (pc' := 41) (i := .istore_n 1) (ls' := [some (.ref 179), some (.int (iI 0))]) rfl rfl ?_
        refine sL (i := .goto (-24)) rfl rfl ?_
        rcases hd1 with ⟨r1, r2, r3⟩ | ⟨r1, r2⟩
        · have hpr := hpr r1
          have hpo := pfq_ok (n := n) (sz := sz) W R.2.2
          have hdl := pfq_dp (n := n) (sz := sz) W R.2.2
          refine fm_N (b := false) (h r1) ⟨hpr.2, by omega, ?_, ?_, by omega⟩ (frK_trans hf hf1) r2 r3
          · show 2 * (V.length + 1) ≤ R.2.1 + 1
            omega
          · rw [hpo.1]
            show bnW W + 1 = V.length + 1
            omega
        · exact fm_dead r2 (hb r1 S1 (frK_trans hf hf1) r2)
      · exact absurd c3 (by decide)
theorem fm_op3 (hv0 : vM S0 n sz) (q : tk y s i = 256) (h : nxq (tk y s) (PF X y s n S0 QQ) (QF y s S0 QQ) true ((rc (tk y s i), 0) :: (rdc (pr sz n) 3 W V).1) (rdc (pr sz n) 3 W V).2 (i + 1)) : PF X y s n S0 QQ false W V i := by
  intro hi S hf hA hm
  obtain ⟨hi1, hi2, hi3, hi4, hi5⟩ := hi
  have hv := vM_K hv0 hf
  have hs := hA.1.1
  have hnT := (nT_ok y s).1
  have hi3 : 2 * V.length ≤ i + 1 := hi3
  have hi4 : bnW W + 1 = V.length := hi4
  have hr0 := rc_b (k := tk y s i) (tK_lt _)
  have hkb := rk5_b (rc (tk y s i))
  have e1 : rc (tk y s i) = 200 := by rw [q]; rfl
  have e2 : rk5 (rc (tk y s i)) = 2 := by rw [e1]; rfl
  have hrk : 0 < rk5 (rc (tk y s i)) := by omega
  have hlt : i < nT y s := nT_lt hi1 (fun z => by rw [z] at hrk; exact absurd hrk (by decide)) (fun z => by rw [z] at hrk; exact absurd hrk (by decide))
  have hro := rdc_ok (n := n) (T := pr sz n) (L := 3) (by omega) W V hi4
  show sT X 5 209 17 [some (.ref 179), some (.int (iI 0))] [] S (sE X 209 QQ)
  refine sL (pc' := 18) (i := .aload_n 0) rfl rfl ?_
  refine sGi (p := 21) rfl rfl (sk_179 _) rfl rfl rfl hA.2.1 ?_
  refine sIf_ne (p := 24) rfl rfl ⟨by omega, by omega⟩ (fun c1 => ?_) (fun c1 => ?_)
  · exact absurd c1 (by decide)
  · have c1 := c1
    refine sL (pc' := 25) (i := .iload_n 1) rfl rfl ?_
    refine sIf_eq (p := 28) rfl rfl ⟨by omega, by omega⟩ (fun c2 => ?_) (fun c2 => ?_)
    · have c2 := c2
      refine sL (pc' := 45) (i := .aload_n 0) rfl rfl ?_
      refine sGi (p := 48) rfl rfl (sk_179 _) rfl rfl rfl hA.2.2.2.1 ?_
      refine sCs (p := 51) (as := [_]) rfl rfl rfl rfl (by decide) (Nat.le_of_ble_eq_true rfl) rfl (Nat.le_of_ble_eq_true rfl) rfl (by omega) (m_rank (t := rc (tk y s i)) ⟨by omega, by omega⟩) ?_
      refine sIf_le (p := 54) rfl rfl ⟨by omega, by omega⟩ (fun c3 => ?_) (fun c3 => ?_)
      · exfalso; omega
      · have c3 := c3
        refine sL (pc' := 55) (i := .aload_n 0) rfl rfl ?_
        refine sL (pc' := 56) (i := .aload_n 0) rfl rfl ?_
        refine sGi (p := 59) rfl rfl (sk_179 _) rfl rfl rfl hA.2.2.2.1 ?_
        refine sKs (p := 62) rfl rfl ?_
        refine sIc_ne (p := 65) rfl rfl ⟨by omega, by omega⟩ ⟨by omega, by omega⟩ (fun c4 => ?_) (fun c4 => ?_)
        · exfalso; omega
        · have c4 := c4
          refine sL (pc' := 66) (i := .aload_n 0) rfl rfl ?_
          refine sGi (p := 69) rfl rfl (sk_179 _) rfl rfl rfl hA.2.2.2.1 ?_
          refine sCs (p := 72) (as := [_]) rfl rfl rfl rfl (by decide) (Nat.le_of_ble_eq_true rfl) rfl (Nat.le_of_ble_eq_true rfl) rfl (by omega) (m_rank (t := rc (tk y s i)) ⟨by omega, by omega⟩) ?_
          refine sKi (p := 73) rfl rfl ?_
          refine sAd (p := 74) rfl rfl ?_
          rw [show ((rk5 (rc (tk y s i))) + 1) = 3 from by omega]
          refine sL (i := .goto 10) rfl rfl ?_
          refine sCvQ (p := 87) (as := [_]) rfl rfl rfl rfl (by decide) (Nat.le_of_ble_eq_true rfl) rfl (Nat.le_of_ble_eq_true rfl) (sk_179 _) rfl (by omega) (m_reduce (L := 3) ⟨by omega, by omega⟩ hv hm hi4) ?_
          rintro _ S1 ⟨rfl, hp1, hm1⟩
          have hA1 := mA_P hA hp1
          have hv1 := vM_P hv hp1
          refine sL (pc' := 88) (i := .aload_n 0) rfl rfl ?_
          refine sL (pc' := 89) (i := .aload_n 0) rfl rfl ?_
          refine sGi (p := 92) rfl rfl (sk_179 _) rfl rfl rfl hA1.2.2.2.1 ?_
          refine sKi (p := 93) rfl rfl ?_
          refine sCv (p := 96) (as := [_, _]) rfl rfl rfl rfl (by decide) (Nat.le_of_ble_eq_true rfl) rfl (Nat.le_of_ble_eq_true rfl) (sk_179 _) rfl (by omega) (m_push (w := (rdc (pr sz n) 3 W V).1.length) (x := rc (tk y s i)) (v := 0) hm1.1.1 (by omega)) ?_
          refine sL (pc' := 97) (i := .aload_n 0) rfl rfl ?_
          have hpp : frP S1 (pshS S1 (rdc (pr sz n) 3 W V).1.length (rc (tk y s i)) 0) := frP_psh
          have hmp : mS n (pshS S1 (rdc (pr sz n) 3 W V).1.length (rc (tk y s i)) 0) ((rc (tk y s i), 0) :: (rdc (pr sz n) 3 W V).1) (rdc (pr sz n) 3 W V).2 := mS_psh (e := (rc (tk y s i), 0)) hm1 (Or.inr (Or.inr (Or.inr (Or.inl hrk)))) (by omega) (hm1.1.2.2.trans (congrArg (fun z : Nat => ((z : Nat) : Int)) (dpW_op hrk).symm)) rfl rfl rfl rfl
          refine sCvQ (p := 100) (as := []) rfl rfl rfl rfl (by decide) (Nat.le_of_ble_eq_true rfl) rfl (Nat.le_of_ble_eq_true rfl) (sk_179 _) rfl (by omega) (m_nextA (mA_P hA1 hpp)) ?_
          rintro _ S2 ⟨rfl, hf2, hN2⟩
          refine sKi (p := 101) rfl rfl ?_
          refine sL (pc' := 102) (i := .istore_n 1) (ls' := [some (.ref 179), some (.int (iI 1))]) rfl rfl ?_
          refine sL (i := .goto (-85)) rfl rfl ?_
          refine fm_N (b := true) h ⟨hlt, ?_, ?_, ?_, ?_⟩ (frK_trans hf (frK_trans (frK_P hp1) (frK_trans (frK_P hpp) (frK_J hf2)))) hN2 (mS_J hmp hf2)
          · show (rdc (pr sz n) 3 W V).1.length + 1 ≤ i + 1
            omega
          · show 2 * (rdc (pr sz n) 3 W V).2.length ≤ i + 1 + 0
            omega
          · show (if 0 < rk5 (rc (tk y s i)) then 1 else 0) + bnW (rdc (pr sz n) 3 W V).1 + 0 = _
            rw [if_pos hrk]
            omega
          · rw [dpW_op hrk, hro.2.2.2.2]
            exact hi5
    · exact absurd c2 (by decide)
theorem fm_opr (hv0 : vM S0 n sz) (q : tk y s i ≠ 256) (hrk : 0 < rk5 (rc (tk y s i))) (h : nxq (tk y s) (PF X y s n S0 QQ) (QF y s S0 QQ) true ((rc (tk y s i), 0) :: (rdc (pr sz n) (rk5 (rc (tk y s i))) W V).1) (rdc (pr sz n) (rk5 (rc (tk y s i))) W V).2 (i + 1)) : PF X y s n S0 QQ false W V i := by
  intro hi S hf hA hm
  obtain ⟨hi1, hi2, hi3, hi4, hi5⟩ := hi
  have hv := vM_K hv0 hf
  have hs := hA.1.1
  have hnT := (nT_ok y s).1
  have hi3 : 2 * V.length ≤ i + 1 := hi3
  have hi4 : bnW W + 1 = V.length := hi4
  have hr0 := rc_b (k := tk y s i) (tK_lt _)
  have hkb := rk5_b (rc (tk y s i))
  have e1 : rc (tk y s i) ≠ 200 := fun z => q (rc_of (c := 200) (d := 256) (by decide) z)
  have hlt : i < nT y s := nT_lt hi1 (fun z => by rw [z] at hrk; exact absurd hrk (by decide)) (fun z => by rw [z] at hrk; exact absurd hrk (by decide))
  have hro := rdc_ok (n := n) (T := pr sz n) (L := (rk5 (rc (tk y s i)))) (by omega) W V hi4
  show sT X 5 209 17 [some (.ref 179), some (.int (iI 0))] [] S (sE X 209 QQ)
  refine sL (pc' := 18) (i := .aload_n 0) rfl rfl ?_
  refine sGi (p := 21) rfl rfl (sk_179 _) rfl rfl rfl hA.2.1 ?_
  refine sIf_ne (p := 24) rfl rfl ⟨by omega, by omega⟩ (fun c1 => ?_) (fun c1 => ?_)
  · exact absurd c1 (by decide)
  · have c1 := c1
    refine sL (pc' := 25) (i := .iload_n 1) rfl rfl ?_
    refine sIf_eq (p := 28) rfl rfl ⟨by omega, by omega⟩ (fun c2 => ?_) (fun c2 => ?_)
    · have c2 := c2
      refine sL (pc' := 45) (i := .aload_n 0) rfl rfl ?_
      refine sGi (p := 48) rfl rfl (sk_179 _) rfl rfl rfl hA.2.2.2.1 ?_
      refine sCs (p := 51) (as := [_]) rfl rfl rfl rfl (by decide) (Nat.le_of_ble_eq_true rfl) rfl (Nat.le_of_ble_eq_true rfl) rfl (by omega) (m_rank (t := rc (tk y s i)) ⟨by omega, by omega⟩) ?_
      refine sIf_le (p := 54) rfl rfl ⟨by omega, by omega⟩ (fun c3 => ?_) (fun c3 => ?_)
      · exfalso; omega
      · have c3 := c3
        refine sL (pc' := 55) (i := .aload_n 0) rfl rfl ?_
        refine sL (pc' := 56) (i := .aload_n 0) rfl rfl ?_
        refine sGi (p := 59) rfl rfl (sk_179 _) rfl rfl rfl hA.2.2.2.1 ?_
        refine sKs (p := 62) rfl rfl ?_
        refine sIc_ne (p := 65) rfl rfl ⟨by omega, by omega⟩ ⟨by omega, by omega⟩ (fun c4 => ?_) (fun c4 => ?_)
        · have c4 := c4
          refine sL (pc' := 78) (i := .aload_n 0) rfl rfl ?_
          refine sGi (p := 81) rfl rfl (sk_179 _) rfl rfl rfl hA.2.2.2.1 ?_
          refine sCs (p := 84) (as := [_]) rfl rfl rfl rfl (by decide) (Nat.le_of_ble_eq_true rfl) rfl (Nat.le_of_ble_eq_true rfl) rfl (by omega) (m_rank (t := rc (tk y s i)) ⟨by omega, by omega⟩) ?_
          refine sCvQ (p := 87) (as := [_]) rfl rfl rfl rfl (by decide) (Nat.le_of_ble_eq_true rfl) rfl (Nat.le_of_ble_eq_true rfl) (sk_179 _) rfl (by omega) (m_reduce (L := rk5 (rc (tk y s i))) ⟨by omega, by omega⟩ hv hm hi4) ?_
          rintro _ S1 ⟨rfl, hp1, hm1⟩
          have hA1 := mA_P hA hp1
          have hv1 := vM_P hv hp1
          refine sL (pc' := 88) (i := .aload_n 0) rfl rfl ?_
          refine sL (pc' := 89) (i := .aload_n 0) rfl rfl ?_
          refine sGi (p := 92) rfl rfl (sk_179 _) rfl rfl rfl hA1.2.2.2.1 ?_
          refine sKi (p := 93) rfl rfl ?_
          refine sCv (p := 96) (as := [_, _]) rfl rfl rfl rfl (by decide) (Nat.le_of_ble_eq_true rfl) rfl (Nat.le_of_ble_eq_true rfl) (sk_179 _) rfl (by omega) (m_push (w := (rdc (pr sz n) (rk5 (rc (tk y s i))) W V).1.length) (x := rc (tk y s i)) (v := 0) hm1.1.1 (by omega)) ?_
          refine sL (pc' := 97) (i := .aload_n 0) rfl rfl ?_
          have hpp : frP S1 (pshS S1 (rdc (pr sz n) (rk5 (rc (tk y s i))) W V).1.length (rc (tk y s i)) 0) := frP_psh
          have hmp : mS n (pshS S1 (rdc (pr sz n) (rk5 (rc (tk y s i))) W V).1.length (rc (tk y s i)) 0) ((rc (tk y s i), 0) :: (rdc (pr sz n) (rk5 (rc (tk y s i))) W V).1) (rdc (pr sz n) (rk5 (rc (tk y s i))) W V).2 := mS_psh (e := (rc (tk y s i), 0)) hm1 (Or.inr (Or.inr (Or.inr (Or.inl hrk)))) (by omega) (hm1.1.2.2.trans (congrArg (fun z : Nat => ((z : Nat) : Int)) (dpW_op hrk).symm)) rfl rfl rfl rfl
          refine sCvQ (p := 100) (as := []) rfl rfl rfl rfl (by decide) (Nat.le_of_ble_eq_true rfl) rfl (Nat.le_of_ble_eq_true rfl) (sk_179 _) rfl (by omega) (m_nextA (mA_P hA1 hpp)) ?_
          rintro _ S2 ⟨rfl, hf2, hN2⟩
          refine sKi (p := 101) rfl rfl ?_
          refine sL (pc' := 102) (i := .istore_n 1) (ls' := [some (.ref 179), some (.int (iI 1))]) rfl rfl ?_
          refine sL (i := .goto (-85)) rfl rfl ?_
          refine fm_N (b := true) h ⟨hlt, ?_, ?_, ?_, ?_⟩ (frK_trans hf (frK_trans (frK_P hp1) (frK_trans (frK_P hpp) (frK_J hf2)))) hN2 (mS_J hmp hf2)
          · show (rdc (pr sz n) (rk5 (rc (tk y s i))) W V).1.length + 1 ≤ i + 1
            omega
          · show 2 * (rdc (pr sz n) (rk5 (rc (tk y s i))) W V).2.length ≤ i + 1 + 0
            omega
          · show (if 0 < rk5 (rc (tk y s i)) then 1 else 0) + bnW (rdc (pr sz n) (rk5 (rc (tk y s i))) W V).1 + 0 = _
            rw [if_pos hrk]
            omega
          · rw [dpW_op hrk, hro.2.2.2.2]
            exact hi5
        · exfalso; omega
    · exact absurd c2 (by decide)
theorem fm_cl0 (hv0 : vM S0 n sz) (q : tk y s i = 41) (hr : (rdc (pr sz n) 1 W V).1 = []) (h : QF y s S0 QQ 2 i) : PF X y s n S0 QQ false W V i := by
  intro hi S hf hA hm
  obtain ⟨hi1, hi2, hi3, hi4, hi5⟩ := hi
  have hv := vM_K hv0 hf
  have hs := hA.1.1
  have hnT := (nT_ok y s).1
  have hi3 : 2 * V.length ≤ i + 1 := hi3
  have hi4 : bnW W + 1 = V.length := hi4
  have hr0 := rc_b (k := tk y s i) (tK_lt _)
  have e1 : rc (tk y s i) = 41 := by rw [q]; rfl
  have e2 : rk5 (rc (tk y s i)) = 0 := by rw [e1]; rfl
  show sT X 5 209 17 [some (.ref 179), some (.int (iI 0))] [] S (sE X 209 QQ)
  refine sL (pc' := 18) (i := .aload_n 0) rfl rfl ?_
  refine sGi (p := 21) rfl rfl (sk_179 _) rfl rfl rfl hA.2.1 ?_
  refine sIf_ne (p := 24) rfl rfl ⟨by omega, by omega⟩ (fun c1 => ?_) (fun c1 => ?_)
  · exact absurd c1 (by decide)
  · have c1 := c1
    refine sL (pc' := 25) (i := .iload_n 1) rfl rfl ?_
    refine sIf_eq (p := 28) rfl rfl ⟨by omega, by omega⟩ (fun c2 => ?_) (fun c2 => ?_)
    · have c2 := c2
      refine sL (pc' := 45) (i := .aload_n 0) rfl rfl ?_
      refine sGi (p := 48) rfl rfl (sk_179 _) rfl rfl rfl hA.2.2.2.1 ?_
      refine sCs (p := 51) (as := [_]) rfl rfl rfl rfl (by decide) (Nat.le_of_ble_eq_true rfl) rfl (Nat.le_of_ble_eq_true rfl) rfl (by omega) (m_rank (t := rc (tk y s i)) ⟨by omega, by omega⟩) ?_
      refine sIf_le (p := 54) rfl rfl ⟨by omega, by omega⟩ (fun c3 => ?_) (fun c3 => ?_)
      · have c3 := c3
        refine sL (pc' := 106) (i := .aload_n 0) rfl rfl ?_
        refine sGi (p := 109) rfl rfl (sk_179 _) rfl rfl rfl hA.2.2.2.1 ?_
        refine sKb (p := 111) rfl rfl ?_
        refine sIc_ne (p := 114) rfl rfl ⟨by omega, by omega⟩ ⟨by omega, by omega⟩ (fun c4 => ?_) (fun c4 => ?_)
        · exfalso; omega
        · have c4 := c4
          refine sL (pc' := 115) (i := .aload_n 0) rfl rfl ?_
          refine sKi (p := 116) rfl rfl ?_
          refine sCvQ (p := 119) (as := [_]) rfl rfl rfl rfl (by decide) (Nat.le_of_ble_eq_true rfl) rfl (Nat.le_of_ble_eq_true rfl) (sk_179 _) rfl (by omega) (m_reduce (L := 1) ⟨by omega, by omega⟩ hv hm hi4) ?_
          rintro _ S1 ⟨rfl, hp1, hm1⟩
          have hA1 := mA_P hA hp1
          have hv1 := vM_P hv hp1
          have h33 : SI S1 179 33 = ((0 : Nat) : Int) := hm1.1.1.trans (by rw [hr]; rfl)
          refine sL (pc' := 120) (i := .aload_n 0) rfl rfl ?_
          refine sGi (p := 123) rfl rfl (sk_179 _) rfl rfl rfl h33 ?_
          refine sIf_ne (p := 126) rfl rfl ⟨by omega, by omega⟩ (fun c5 => ?_) (fun c5 => ?_)
          · exact absurd c5 (by decide)
          · have c5 := c5
            refine sL (pc' := 127) (i := .aload_n 0) rfl rfl ?_
            refine sKi (p := 128) rfl rfl ?_
            refine sL (pc' := 129) (i := .aload_n 0) rfl rfl ?_
            refine sGi (p := 132) rfl rfl (sk_179 _) rfl rfl rfl hA1.2.2.2.2.1 ?_
            refine sCv (p := 135) (as := [_, _]) rfl rfl rfl rfl (by decide) (Nat.le_of_ble_eq_true rfl) rfl (Nat.le_of_ble_eq_true rfl) (sk_179 _) rfl (by omega) (m_bad (kz := 0) hA1.2.1 ⟨by decide, by decide⟩) ?_
            refine sEn (i := .return_) rfl (rfl) ?_
            have hbd := mX_bd (k := 2) (q := tA y s i) hA1.1 hA1.2.1 ⟨by decide, by decide⟩ rfl (tP_le (i + 1)) hA1.2.2.1
            exact h _ (frK_trans hf (frK_trans (frK_P hp1) (frK_J hbd.2))) hbd.1
      · exfalso; omega
    · exact absurd c2 (by decide)
theorem fm_cl (hv0 : vM S0 n sz) {W' : List (Int × Int)} {v : Nat → Bool} {V' : List (Nat → Bool)} (q : tk y s i = 41) (hr : (rdc (pr sz n) 1 W V) = ((40, 0) :: W', v :: V')) (h : nxq (tk y s) (PF X y s n S0 QQ) (QF y s S0 QQ) false (pfq n sz W' v).1 ((pfq n sz W' v).2 :: V') (i + 1)) : PF X y s n S0 QQ false W V i := by
  intro hi S hf hA hm
  obtain ⟨hi1, hi2, hi3, hi4, hi5⟩ := hi
  have hv := vM_K hv0 hf
  have hs := hA.1.1
  have hnT := (nT_ok y s).1
  have hi3 : 2 * V.length ≤ i + 1 := hi3
  have hi4 : bnW W + 1 = V.length := hi4
  have hr0 := rc_b (k := tk y s i) (tK_lt _)
  have e1 : rc (tk y s i) = 41 := by rw [q]; rfl
  have e2 : rk5 (rc (tk y s i)) = 0 := by rw [e1]; rfl
  have hlt := nT_lt hi1 (by omega) (by omega)
  have hro := rdc_ok (n := n) (T := pr sz n) (L := 1) (by omega) W V hi4
  rw [hr] at hro
  obtain ⟨o1, o2, o3, o4, o5⟩ := hro
  have o1 : (if 0 < rk5 40 then 1 else 0) + bnW W' + 1 = V'.length + 1 := o1
  rw [if_neg (by decide)] at o1
  have o2 : W'.length + 1 ≤ W.length := o2
  have o3 : V'.length + 1 ≤ V.length := o3
  have o5 : (if (40 : Int) = 300 ∨ (40 : Int) = 303 ∨ (40 : Int) = 40 then 1 else 0) + dpW W' = dpW W := o5
  rw [if_pos (by decide)] at o5
  show sT X 5 209 17 [some (.ref 179), some (.int (iI 0))] [] S (sE X 209 QQ)
  refine sL (pc' := 18) (i := .aload_n 0) rfl rfl ?_
  refine sGi (p := 21) rfl rfl (sk_179 _) rfl rfl rfl hA.2.1 ?_
  refine sIf_ne (p := 24) rfl rfl ⟨by omega, by omega⟩ (fun c1 => ?_) (fun c1 => ?_)
  · exact absurd c1 (by decide)
  · have c1 := c1
    refine sL (pc' := 25) (i := .iload_n 1) rfl rfl ?_
    refine sIf_eq (p := 28) rfl rfl ⟨by omega, by omega⟩ (fun c2 => ?_) (fun c2 => ?_)
    · have c2 := c2
      refine sL (pc' := 45) (i := .aload_n 0) rfl rfl ?_
      refine sGi (p := 48) rfl rfl (sk_179 _) rfl rfl rfl hA.2.2.2.1 ?_
      refine sCs (p := 51) (as := [_]) rfl rfl rfl rfl (by decide) (Nat.le_of_ble_eq_true rfl) rfl (Nat.le_of_ble_eq_true rfl) rfl (by omega) (m_rank (t := rc (tk y s i)) ⟨by omega, by omega⟩) ?_
      refine sIf_le (p := 54) rfl rfl ⟨by omega, by omega⟩ (fun c3 => ?_) (fun c3 => ?_)
      · have c3 := c3
        refine sL (pc' := 106) (i := .aload_n 0) rfl rfl ?_
        refine sGi (p := 109) rfl rfl (sk_179 _) rfl rfl rfl hA.2.2.2.1 ?_
        refine sKb (p := 111) rfl rfl ?_
        refine sIc_ne (p := 114) rfl rfl ⟨by omega, by omega⟩ ⟨by omega, by omega⟩ (fun c4 => ?_) (fun c4 => ?_)
        · exfalso; omega
        · have c4 := c4
          refine sL (pc' := 115) (i := .aload_n 0) rfl rfl ?_
          refine sKi (p := 116) rfl rfl ?_
          refine sCvQ (p := 119) (as := [_]) rfl rfl rfl rfl (by decide) (Nat.le_of_ble_eq_true rfl) rfl (Nat.le_of_ble_eq_true rfl) (sk_179 _) rfl (by omega) (m_reduce (L := 1) ⟨by omega, by omega⟩ hv hm hi4) ?_
          rintro _ S1 ⟨rfl, hp1, hm1⟩
          have hA1 := mA_P hA hp1
          have hv1 := vM_P hv hp1
          rw [hr] at hm1
          have h33 : SI S1 179 33 = ((W'.length + 1 : Nat) : Int) := hm1.1.1
          have h34 : SI S1 179 34 = ((1 + dpW W' : Nat) : Int) := hm1.1.2.2
          refine sL (pc' := 120) (i := .aload_n 0) rfl rfl ?_
          refine sGi (p := 123) rfl rfl (sk_179 _) rfl rfl rfl h33 ?_
          refine sIf_ne (p := 126) rfl rfl ⟨by omega, by omega⟩ (fun c5 => ?_) (fun c5 => ?_)
          · have c5 := c5
            refine sL (pc' := 137) (i := .aload_n 0) rfl rfl ?_
            refine sL (pc' := 138) (i := .dup) rfl rfl ?_
            refine sGi (p := 141) rfl rfl (sk_179 _) rfl rfl rfl h33 ?_
            refine sKi (p := 142) rfl rfl ?_
            refine sSb (p := 143) rfl rfl ?_
            rw [show (((W'.length + 1 : Nat) : Int) - 1) = ((W'.length : Nat) : Int) from by omega]
            refine sPi (z := ((W'.length : Nat) : Int)) (p := 146) rfl rfl (sk_179 _) rfl rfl rfl rfl ?_
            refine sL (pc' := 147) (i := .aload_n 0) rfl rfl ?_
            refine sL (pc' := 148) (i := .dup) rfl rfl ?_
            refine sGi (p := 151) rfl rfl (sk_179 _) rfl rfl rfl ((rI_nj (by decide)).trans h34) ?_
            refine sKi (p := 152) rfl rfl ?_
            refine sSb (p := 153) rfl rfl ?_
            rw [show (((1 + dpW W' : Nat) : Int) - 1) = ((dpW W' : Nat) : Int) from by omega]
            refine sPi (z := ((dpW W' : Nat) : Int)) (p := 156) rfl rfl (sk_179 _) rfl rfl rfl rfl ?_
            refine sL (pc' := 157) (i := .aload_n 0) rfl rfl ?_
            have hpq : frP S1 (wI (wI S1 179 33 ((W'.length : Nat) : Int)) 179 34 ((dpW W' : Nat) : Int)) := frP_trans (frP_w (Or.inr (Or.inl rfl))) (frP_w (Or.inr (Or.inr rfl)))
            have hmq : mS n (wI (wI S1 179 33 ((W'.length : Nat) : Int)) 179 34 ((dpW W' : Nat) : Int)) W' (v :: V') := mS_top hm1 hm1.2.1.2.2 hm1.2.2.1.2 hm1.2.2.2.1.2 (Nat.le_succ _) hm1.2.2.2.2.2 ((rI_nj (by decide)).trans rI_at) ((rI_nj (by decide)).trans ((rI_nj (by decide)).trans hm1.1.2.1)) rI_at rfl rfl hm1.2.2.1.1 (fun k hk => rfl)
            have hAq := mA_P hA1 hpq
            refine sCvQ (p := 160) (as := []) rfl rfl rfl rfl (by decide) (Nat.le_of_ble_eq_true rfl) rfl (Nat.le_of_ble_eq_true rfl) (sk_179 _) rfl (by omega) (m_prefixes (vM_P hv1 hpq) hmq) ?_
            rintro _ S2 ⟨rfl, hp2, hm2⟩
            refine sL (pc' := 161) (i := .aload_n 0) rfl rfl ?_
            refine sCvQ (p := 164) (as := []) rfl rfl rfl rfl (by decide) (Nat.le_of_ble_eq_true rfl) rfl (Nat.le_of_ble_eq_true rfl) (sk_179 _) rfl (by omega) (m_nextA (mA_P hAq hp2)) ?_
            rintro _ S3 ⟨rfl, hf3, hN3⟩
            refine sL (i := .goto (-147)) rfl rfl ?_
            have hpo := pfq_ok (n := n) (sz := sz) W' v
            have hdl := pfq_dp (n := n) (sz := sz) W' v
            refine fm_N (b := false) h ⟨hlt, by omega, ?_, ?_, by omega⟩ (frK_trans hf (frK_trans (frK_P (frP_trans hp1 (frP_trans hpq hp2))) (frK_J hf3))) hN3 (mS_J hm2 hf3)
            · show 2 * (V'.length + 1) ≤ i + 1 + 1
              omega
            · rw [hpo.1]
              show bnW W' + 1 = V'.length + 1
              omega
          · exfalso; omega
      · exfalso; omega
    · exact absurd c2 (by decide)
theorem fm_end (hv0 : vM S0 n sz) {v : Nat → Bool} (q : tk y s i = 59) (hr : (rdc (pr sz n) 1 W V) = ([], [v])) (h : EF y s n S0 QQ v i) : PF X y s n S0 QQ false W V i := by
  intro hi S hf hA hm
  obtain ⟨hi1, hi2, hi3, hi4, hi5⟩ := hi
  have hv := vM_K hv0 hf
  have hs := hA.1.1
  have hnT := (nT_ok y s).1
  have hi3 : 2 * V.length ≤ i + 1 := hi3
  have hi4 : bnW W + 1 = V.length := hi4
  have hr0 := rc_b (k := tk y s i) (tK_lt _)
  have e1 : rc (tk y s i) = 59 := by rw [q]; rfl
  have e2 : rk5 (rc (tk y s i)) = 0 := by rw [e1]; rfl
  show sT X 5 209 17 [some (.ref 179), some (.int (iI 0))] [] S (sE X 209 QQ)
  refine sL (pc' := 18) (i := .aload_n 0) rfl rfl ?_
  refine sGi (p := 21) rfl rfl (sk_179 _) rfl rfl rfl hA.2.1 ?_
  refine sIf_ne (p := 24) rfl rfl ⟨by omega, by omega⟩ (fun c1 => ?_) (fun c1 => ?_)
  · exact absurd c1 (by decide)
  · have c1 := c1
    refine sL (pc' := 25) (i := .iload_n 1) rfl rfl ?_
    refine sIf_eq (p := 28) rfl rfl ⟨by omega, by omega⟩ (fun c2 => ?_) (fun c2 => ?_)
    · have c2 := c2
      refine sL (pc' := 45) (i := .aload_n 0) rfl rfl ?_
      refine sGi (p := 48) rfl rfl (sk_179 _) rfl rfl rfl hA.2.2.2.1 ?_
      refine sCs (p := 51) (as := [_]) rfl rfl rfl rfl (by decide) (Nat.le_of_ble_eq_true rfl) rfl (Nat.le_of_ble_eq_true rfl) rfl (by omega) (m_rank (t := rc (tk y s i)) ⟨by omega, by omega⟩) ?_
      refine sIf_le (p := 54) rfl rfl ⟨by omega, by omega⟩ (fun c3 => ?_) (fun c3 => ?_)
      · have c3 := c3
        refine sL (pc' := 106) (i := .aload_n 0) rfl rfl ?_
        refine sGi (p := 109) rfl rfl (sk_179 _) rfl rfl rfl hA.2.2.2.1 ?_
        refine sKb (p := 111) rfl rfl ?_
        refine sIc_ne (p := 114) rfl rfl ⟨by omega, by omega⟩ ⟨by omega, by omega⟩ (fun c4 => ?_) (fun c4 => ?_)
        · have c4 := c4
          refine sL (pc' := 168) (i := .aload_n 0) rfl rfl ?_
          refine sKi (p := 169) rfl rfl ?_
          refine sCvQ (p := 172) (as := [_]) rfl rfl rfl rfl (by decide) (Nat.le_of_ble_eq_true rfl) rfl (Nat.le_of_ble_eq_true rfl) (sk_179 _) rfl (by omega) (m_reduce (L := 1) ⟨by omega, by omega⟩ hv hm hi4) ?_
          rintro _ S1 ⟨rfl, hp1, hm1⟩
          have hA1 := mA_P hA hp1
          have hv1 := vM_P hv hp1
          rw [hr] at hm1
          have h33 : SI S1 179 33 = ((0 : Nat) : Int) := hm1.1.1
          refine sL (pc' := 173) (i := .aload_n 0) rfl rfl ?_
          refine sGi (p := 176) rfl rfl (sk_179 _) rfl rfl rfl hA1.2.2.2.1 ?_
          refine sKb (p := 178) rfl rfl ?_
          refine sIc_ne (p := 181) rfl rfl ⟨by omega, by omega⟩ ⟨by omega, by omega⟩ (fun c5 => ?_) (fun c5 => ?_)
          · exfalso; omega
          · have c5 := c5
            refine sL (pc' := 182) (i := .aload_n 0) rfl rfl ?_
            refine sGi (p := 185) rfl rfl (sk_179 _) rfl rfl rfl h33 ?_
            refine sIf_le (p := 188) rfl rfl ⟨by omega, by omega⟩ (fun c6 => ?_) (fun c6 => ?_)
            · have c6 := c6
              refine sEn (i := .return_) rfl (rfl) ?_
              exact h S1 (frK_trans hf (frK_P hp1)) hA1 hm1
            · exact absurd c6 (by decide)
        · exfalso; omega
      · exfalso; omega
    · exact absurd c2 (by decide)
theorem fm_bad (hv0 : vM S0 n sz) (q0 : rk5 (rc (tk y s i)) = 0) (q : tk y s i ≠ 41) (hr : tk y s i ≠ 59 ∨ (rdc (pr sz n) 1 W V).1 ≠ []) (h : QF y s S0 QQ 2 i) : PF X y s n S0 QQ false W V i := by
  intro hi S hf hA hm
  obtain ⟨hi1, hi2, hi3, hi4, hi5⟩ := hi
  have hv := vM_K hv0 hf
  have hs := hA.1.1
  have hnT := (nT_ok y s).1
  have hi3 : 2 * V.length ≤ i + 1 := hi3
  have hi4 : bnW W + 1 = V.length := hi4
  have hr0 := rc_b (k := tk y s i) (tK_lt _)
  have e1 : rc (tk y s i) ≠ 41 := fun z => q (rc_of (c := 41) (d := 41) (by decide) z)
  have e3 : tk y s i ≠ 59 → rc (tk y s i) ≠ 59 := fun z1 z => z1 (rc_of (c := 59) (d := 59) (by decide) z)
  have hl9 : tk y s i = 59 → 0 < (rdc (pr sz n) 1 W V).1.length := fun z => List.length_pos_iff.mpr (hr.elim (fun c => absurd z c) id)
  show sT X 5 209 17 [some (.ref 179), some (.int (iI 0))] [] S (sE X 209 QQ)
  refine sL (pc' := 18) (i := .aload_n 0) rfl rfl ?_
  refine sGi (p := 21) rfl rfl (sk_179 _) rfl rfl rfl hA.2.1 ?_
  refine sIf_ne (p := 24) rfl rfl ⟨by omega, by omega⟩ (fun c1 => ?_) (fun c1 => ?_)
  · exact absurd c1 (by decide)
  · have c1 := c1
    refine sL (pc' := 25) (i := .iload_n 1) rfl rfl ?_
    refine sIf_eq (p := 28) rfl rfl ⟨by omega, by omega⟩ (fun c2 => ?_) (fun c2 => ?_)
    · have c2 := c2
      refine sL (pc' := 45) (i := .aload_n 0) rfl rfl ?_
      refine sGi (p := 48) rfl rfl (sk_179 _) rfl rfl rfl hA.2.2.2.1 ?_
      refine sCs (p := 51) (as := [_]) rfl rfl rfl rfl (by decide) (Nat.le_of_ble_eq_true rfl) rfl (Nat.le_of_ble_eq_true rfl) rfl (by omega) (m_rank (t := rc (tk y s i)) ⟨by omega, by omega⟩) ?_
      refine sIf_le (p := 54) rfl rfl ⟨by omega, by omega⟩ (fun c3 => ?_) (fun c3 => ?_)
      · have c3 := c3
        refine sL (pc' := 106) (i := .aload_n 0) rfl rfl ?_
        refine sGi (p := 109) rfl rfl (sk_179 _) rfl rfl rfl hA.2.2.2.1 ?_
        refine sKb (p := 111) rfl rfl ?_
        refine sIc_ne (p := 114) rfl rfl ⟨by omega, by omega⟩ ⟨by omega, by omega⟩ (fun c4 => ?_) (fun c4 => ?_)
        · have c4 := c4
          refine sL (pc' := 168) (i := .aload_n 0) rfl rfl ?_
          refine sKi (p := 169) rfl rfl ?_
          refine sCvQ (p := 172) (as := [_]) rfl rfl rfl rfl (by decide) (Nat.le_of_ble_eq_true rfl) rfl (Nat.le_of_ble_eq_true rfl) (sk_179 _) rfl (by omega) (m_reduce (L := 1) ⟨by omega, by omega⟩ hv hm hi4) ?_
          rintro _ S1 ⟨rfl, hp1, hm1⟩
          have hA1 := mA_P hA hp1
          have hv1 := vM_P hv hp1
          refine sL (pc' := 173) (i := .aload_n 0) rfl rfl ?_
          refine sGi (p := 176) rfl rfl (sk_179 _) rfl rfl rfl hA1.2.2.2.1 ?_
          refine sKb (p := 178) rfl rfl ?_
          refine sIc_ne (p := 181) rfl rfl ⟨by omega, by omega⟩ ⟨by omega, by omega⟩ (fun c5 => ?_) (fun c5 => ?_)
          · have c5 := c5
            refine sL (pc' := 189) (i := .aload_n 0) rfl rfl ?_
            refine sKi (p := 190) rfl rfl ?_
            refine sL (pc' := 191) (i := .aload_n 0) rfl rfl ?_
            refine sGi (p := 194) rfl rfl (sk_179 _) rfl rfl rfl hA1.2.2.2.2.1 ?_
            refine sCv (p := 197) (as := [_, _]) rfl rfl rfl rfl (by decide) (Nat.le_of_ble_eq_true rfl) rfl (Nat.le_of_ble_eq_true rfl) (sk_179 _) rfl (by omega) (m_bad (kz := 0) hA1.2.1 ⟨by decide, by decide⟩) ?_
            refine sEn (i := .return_) rfl (rfl) ?_
            have hbd := mX_bd (k := 2) (q := tA y s i) hA1.1 hA1.2.1 ⟨by decide, by decide⟩ rfl (tP_le (i + 1)) hA1.2.2.1
            exact h _ (frK_trans hf (frK_trans (frK_P hp1) (frK_J hbd.2))) hbd.1
          · have c5 := c5
            refine sL (pc' := 182) (i := .aload_n 0) rfl rfl ?_
            refine sGi (p := 185) rfl rfl (sk_179 _) rfl rfl rfl hm1.1.1 ?_
            refine sIf_le (p := 188) rfl rfl ⟨by omega, by have := hm1.2.2.2.2.1; omega⟩ (fun c6 => ?_) (fun c6 => ?_)
            · have c6 := c6
              exfalso
              have c9 := hl9 (Classical.byContradiction fun z => e3 z (by omega))
              omega
            · have c6 := c6
              refine sL (pc' := 189) (i := .aload_n 0) rfl rfl ?_
              refine sKi (p := 190) rfl rfl ?_
              refine sL (pc' := 191) (i := .aload_n 0) rfl rfl ?_
              refine sGi (p := 194) rfl rfl (sk_179 _) rfl rfl rfl hA1.2.2.2.2.1 ?_
              refine sCv (p := 197) (as := [_, _]) rfl rfl rfl rfl (by decide) (Nat.le_of_ble_eq_true rfl) rfl (Nat.le_of_ble_eq_true rfl) (sk_179 _) rfl (by omega) (m_bad (kz := 0) hA1.2.1 ⟨by decide, by decide⟩) ?_
              refine sEn (i := .return_) rfl (rfl) ?_
              have hbd := mX_bd (k := 2) (q := tA y s i) hA1.1 hA1.2.1 ⟨by decide, by decide⟩ rfl (tP_le (i + 1)) hA1.2.2.1
              exact h _ (frK_trans hf (frK_trans (frK_P hp1) (frK_J hbd.2))) hbd.1
        · exfalso; omega
      · exfalso; omega
    · exact absurd c2 (by decide)
end MK
