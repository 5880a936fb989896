/-! ===== the class's reader: leaves ===== -/
def cI (c : Int64) : Int := c.toInt32.toInt
theorem iI_cI (c : Int64) : iI (cI c) = c.toInt32 := iI_of _
theorem cI_rg (c : Int64) : rg (cI c) := by
  have h1 := Int32.minValue_le_toInt c.toInt32
  have h2 := Int32.toInt_lt c.toInt32
  exact ⟨h1, by unfold cI; omega⟩
/-- state behind a reading: alive at i, or a fault k at token i -/
def rS (S : ST) (K A : Nat → Nat) (m k i : Nat) : Prop := (k = 0 ∧ i ≤ m ∧ rA S K i) ∨ (k ≠ 0 ∧ rX S m k (A i))
def pVar (K : Nat → Nat) (C : Nat → Int64) (n i : Nat) : Nat × Nat × Int := if K i ≠ 35 then (rf K 2 i, i, 0) else if K (i + 1) ≠ 259 then (rf K 2 (i + 1), i + 1, 0) else if ¬ (0 ≤ cI (C (i + 1)) ∧ cI (C (i + 1)) < n) then (3, i + 1, 0) else (0, i + 2, cI (C (i + 1)))
def pVal (K : Nat → Nat) (C : Nat → Int64) (sz : Nat → Nat) (v i : Nat) : Nat × Nat × Int := if K i ≠ 259 then (rf K 2 i, i, 0) else if ¬ (0 ≤ cI (C i) ∧ cI (C i) < sz v) then (4, i, 0) else (0, i + 1, cI (C i))
theorem rf_nz {K : Nat → Nat} {q a : Nat} (h : q ≠ 0) : rf K q a ≠ 0 := by
  unfold rf
  split <;> omega
section RL
variable {X : List Int32} {S : ST} {K A : Nat → Nat} {C : Nat → Int64} {m n fn dr : Nat} {sz : Nat → Nat} {Fn : Nat → Nat → Bool} {nm : Nat → Int64}
theorem rdE_i {i : Nat} (hE : rdE S K A C m n sz fn dr Fn nm) (hi : i ≤ m) (h : K i ≠ 264) (h2 : K i ≠ 265) : i < m := by
  have h3 := hE.1.2.2.1
  refine Classical.byContradiction fun c => ?_
  have h4 : i = m := by omega
  rw [← h4] at h3
  omega
theorem c_readVariable_d {k p : Nat} (hE : rdE S K A C m n sz fn dr Fn nm) (hX : rX S m k p) : sM X 2 101 [.ref 69] S (fun r S' => ∃ x : Int, rg x ∧ r = some (.int (iI x)) ∧ frR 106 S S' ∧ rX S' m k p) := by
  have hX0 := hX
  obtain ⟨⟨j9, hjm, hj9⟩, _⟩ := hX0
  have hm := hE.1.1
  refine sIni (ls := [some (.ref 69), none]) rfl ?_
  refine sL (pc' := 1) (i := .aload_n 0) rfl rfl ?_
  refine sKb (p := 3) rfl rfl ?_
  refine sCvQ (p := 6) (as := [_]) rfl rfl rfl rfl (by decide) (Nat.le_of_ble_eq_true rfl) rfl (Nat.le_of_ble_eq_true rfl) (sk_69 _) rfl (by omega) (c_expect_d hX (by decide)) ?_
  rintro _ S1 ⟨rfl, hX1, hf1⟩
  have hE1 := rdE_fr hE hf1
  have hqS1 := hX1
  obtain ⟨⟨j1, hj1m, hj1⟩, _⟩ := hqS1
  refine sL (pc' := 7) (i := .aload_n 0) rfl rfl ?_
  refine sGc (p := 10) rfl rfl (sk_69 _) rfl rfl rfl ?_
  refine sGc (p := 13) rfl rfl (sk_64 _) rfl rfl rfl ?_
  refine sL (pc' := 14) (i := .aload_n 0) rfl rfl ?_
  refine sGi (p := 17) rfl rfl (sk_69 _) rfl rfl rfl hj1 ?_
  refine sAl (p := 18) (i := j1) rfl rfl (sk_68 _) (by omega) ⟨by omega, by omega⟩ (hE1.2.2.1 _ (by omega)).2.2 ?_
  refine sL (pc' := 19) (i := .l2i) rfl rfl ?_
  rw [← iI_cI (C j1)]
  refine sL (pc' := 20) (i := .istore_n 1) (ls' := [some (.ref 69), some (.int (iI (cI (C j1))))]) rfl rfl ?_
  refine sL (pc' := 21) (i := .aload_n 0) rfl rfl ?_
  refine sGi (p := 24) rfl rfl (sk_69 _) rfl rfl rfl hX1.2.1 ?_
  refine sKs (p := 27) rfl rfl ?_
  refine sIc_eq (p := 30) rfl rfl ⟨by omega, by omega⟩ ⟨by omega, by omega⟩ (fun c1 => ?_) (fun c1 => ?_)
  · exact absurd c1 (by decide)
  · have c1 := c1
    refine sL (pc' := 31) (i := .aload_n 0) rfl rfl ?_
    refine sKi (p := 32) rfl rfl ?_
    refine sL (pc' := 33) (i := .aload_n 0) rfl rfl ?_
    refine sGi (p := 36) rfl rfl (sk_69 _) rfl rfl rfl hj1 ?_
    refine sCvQ (p := 39) (as := [_, _]) rfl rfl rfl rfl (by decide) (Nat.le_of_ble_eq_true rfl) rfl (Nat.le_of_ble_eq_true rfl) (sk_69 _) rfl (by omega) (c_refuse_d hX1) ?_
    rintro _ S2 ⟨rfl, hX2, hf2⟩
    have hE2 := rdE_fr hE1 hf2
    have hqS2 := hX2
    obtain ⟨⟨j2, hj2m, hj2⟩, _⟩ := hqS2
    refine sL (i := .goto 23) rfl rfl ?_
    refine sL (pc' := 63) (i := .aload_n 0) rfl rfl ?_
    refine sCvQ (p := 66) (as := []) rfl rfl rfl rfl (by decide) (Nat.le_of_ble_eq_true rfl) rfl (Nat.le_of_ble_eq_true rfl) (sk_69 _) rfl (by omega) (c_advance_d hX2) ?_
    rintro _ S3 ⟨rfl, hX3, hf3⟩
    have hE3 := rdE_fr hE2 hf3
    have hqS3 := hX3
    obtain ⟨⟨j3, hj3m, hj3⟩, _⟩ := hqS3
    refine sL (pc' := 67) (i := .iload_n 1) rfl rfl ?_
    refine sEn (i := .ireturn) rfl (rfl) ?_
    exact ⟨_, cI_rg _, rfl, frR_trans hf1 (frR_trans hf2 hf3), hX3⟩
theorem c_readValue_d {k p : Nat} {x : Int} (hE : rdE S K A C m n sz fn dr Fn nm) (hX : rX S m k p) : sM X 2 99 [.ref 69, .int (iI x)] S (fun r S' => ∃ x : Int, rg x ∧ r = some (.int (iI x)) ∧ frR 106 S S' ∧ rX S' m k p) := by
  have hX0 := hX
  obtain ⟨⟨j9, hjm, hj9⟩, _⟩ := hX0
  have hm := hE.1.1
  refine sIni (ls := [some (.ref 69), some (.int (iI x)), none]) rfl ?_
  refine sL (pc' := 1) (i := .aload_n 0) rfl rfl ?_
  refine sGc (p := 4) rfl rfl (sk_69 _) rfl rfl rfl ?_
  refine sGc (p := 7) rfl rfl (sk_64 _) rfl rfl rfl ?_
  refine sL (pc' := 8) (i := .aload_n 0) rfl rfl ?_
  refine sGi (p := 11) rfl rfl (sk_69 _) rfl rfl rfl hj9 ?_
  refine sAl (p := 12) (i := j9) rfl rfl (sk_68 _) (by omega) ⟨by omega, by omega⟩ (hE.2.2.1 _ (by omega)).2.2 ?_
  refine sL (pc' := 13) (i := .l2i) rfl rfl ?_
  rw [← iI_cI (C j9)]
  refine sL (pc' := 14) (i := .istore_n 2) (ls' := [some (.ref 69), some (.int (iI x)), some (.int (iI (cI (C j9))))]) rfl rfl ?_
  refine sL (pc' := 15) (i := .aload_n 0) rfl rfl ?_
  refine sGi (p := 18) rfl rfl (sk_69 _) rfl rfl rfl hX.2.1 ?_
  refine sKs (p := 21) rfl rfl ?_
  refine sIc_eq (p := 24) rfl rfl ⟨by omega, by omega⟩ ⟨by omega, by omega⟩ (fun c1 => ?_) (fun c1 => ?_)
  · exact absurd c1 (by decide)
  · have c1 := c1
    refine sL (pc' := 25) (i := .aload_n 0) rfl rfl ?_
    refine sKi (p := 26) rfl rfl ?_
    refine sL (pc' := 27) (i := .aload_n 0) rfl rfl ?_
    refine sGi (p := 30) rfl rfl (sk_69 _) rfl rfl rfl hj9 ?_
    refine sCvQ (p := 33) (as := [_, _]) rfl rfl rfl rfl (by decide) (Nat.le_of_ble_eq_true rfl) rfl (Nat.le_of_ble_eq_true rfl) (sk_69 _) rfl (by omega) (c_refuse_d hX) ?_
    rintro _ S1 ⟨rfl, hX1, hf1⟩
    have hE1 := rdE_fr hE hf1
    have hqS1 := hX1
    obtain ⟨⟨j1, hj1m, hj1⟩, _⟩ := hqS1
    refine sL (i := .goto 24) rfl rfl ?_
    refine sL (pc' := 58) (i := .aload_n 0) rfl rfl ?_
    refine sCvQ (p := 61) (as := []) rfl rfl rfl rfl (by decide) (Nat.le_of_ble_eq_true rfl) rfl (Nat.le_of_ble_eq_true rfl) (sk_69 _) rfl (by omega) (c_advance_d hX1) ?_
    rintro _ S2 ⟨rfl, hX2, hf2⟩
    have hE2 := rdE_fr hE1 hf2
    have hqS2 := hX2
    obtain ⟨⟨j2, hj2m, hj2⟩, _⟩ := hqS2
    refine sL (pc' := 62) (i := .iload_n 2) rfl rfl ?_
    refine sEn (i := .ireturn) rfl (rfl) ?_
    exact ⟨_, cI_rg _, rfl, frR_trans hf1 hf2, hX2⟩
theorem c_readVariable {i : Nat} (hE : rdE S K A C m n sz fn dr Fn nm) (hA : rA S K i) (hi : i ≤ m) : sM X 2 101 [.ref 69] S (fun r S' => ∃ x : Int, rg x ∧ r = some (.int (iI x)) ∧ frR 106 S S' ∧ rS S' K A m (pVar K C n i).1 (pVar K C n i).2.1 ∧ ((pVar K C n i).1 = 0 → x = (pVar K C n i).2.2)) := by
  have hm := hE.1.1
  have hKi := hE.1.2.1 i
  have hKj := hE.1.2.1 (i + 1)
  have hcr := cI_rg (C (i + 1))
  have hc1 := hcr.1
  have hc2 := hcr.2
  unfold pVar
  by_cases q1 : K i = 35
  · have hlt := rdE_i hE hi (by omega) (by omega)
    rw [if_neg (fun z => z q1)]
    by_cases q2 : K (i + 1) = 259
    · have hlt2 := rdE_i hE (i := i + 1) (by omega) (by omega) (by omega)
      rw [if_neg (fun z => z q2)]
      by_cases q3 : 0 ≤ cI (C (i + 1)) ∧ cI (C (i + 1)) < n
      · rw [if_neg (fun z => z q3)]
        refine sIni (ls := [some (.ref 69), none]) rfl ?_
        refine sL (pc' := 1) (i := .aload_n 0) rfl rfl ?_
        refine sKb (p := 3) rfl rfl ?_
        refine sCvQ (p := 6) (as := [_]) rfl rfl rfl rfl (by decide) (Nat.le_of_ble_eq_true rfl) rfl (Nat.le_of_ble_eq_true rfl) (sk_69 _) rfl (by omega) (c_expect hE hA hlt q1 (by decide)) ?_
        rintro _ S1 ⟨rfl, hA1, hf1⟩
        have hE1 := rdE_fr hE hf1
        refine sL (pc' := 7) (i := .aload_n 0) rfl rfl ?_
        refine sGc (p := 10) rfl rfl (sk_69 _) rfl rfl rfl ?_
        refine sGc (p := 13) rfl rfl (sk_64 _) rfl rfl rfl ?_
        refine sL (pc' := 14) (i := .aload_n 0) rfl rfl ?_
        refine sGi (p := 17) rfl rfl (sk_69 _) rfl rfl rfl hA1.1 ?_
        refine sAl (p := 18) (i := i + 1) rfl rfl (sk_68 _) (by omega) ⟨by omega, by omega⟩ (hE1.2.2.1 _ (by omega)).2.2 ?_
        refine sL (pc' := 19) (i := .l2i) rfl rfl ?_
        rw [← iI_cI (C (i + 1))]
        refine sL (pc' := 20) (i := .istore_n 1) (ls' := [some (.ref 69), some (.int (iI (cI (C (i + 1)))))]) rfl rfl ?_
        refine sL (pc' := 21) (i := .aload_n 0) rfl rfl ?_
        refine sGi (p := 24) rfl rfl (sk_69 _) rfl rfl rfl hA1.2.1 ?_
        refine sKs (p := 27) rfl rfl ?_
        refine sIc_eq (p := 30) rfl rfl ⟨by omega, by omega⟩ ⟨by omega, by omega⟩ (fun c1 => ?_) (fun c1 => ?_)
        · have c1 := c1
          refine sL (pc' := 43) (i := .aload_n 0) rfl rfl ?_
          refine sGc (p := 46) rfl rfl (sk_69 _) rfl rfl rfl ?_
          refine sL (pc' := 47) (i := .iload_n 1) rfl rfl ?_
          refine sCv (p := 50) (as := [_]) rfl rfl rfl rfl (by decide) (Nat.le_of_ble_eq_true rfl) rfl (Nat.le_of_ble_eq_true rfl) (sk_1 _) rfl (by omega) (c_has hE1.2.2.2.1 hcr) ?_
          refine sBn (p := 53) rfl rfl (fun c2 => ?_) (fun c2 => ?_)
          · have c2 := c2
            have c2 := of_decide_eq_true c2
            refine sL (pc' := 63) (i := .aload_n 0) rfl rfl ?_
            refine sCvQ (p := 66) (as := []) rfl rfl rfl rfl (by decide) (Nat.le_of_ble_eq_true rfl) rfl (Nat.le_of_ble_eq_true rfl) (sk_69 _) rfl (by omega) (c_advance hE1 hA1 hlt2) ?_
            rintro _ S2 ⟨rfl, hA2, hf2⟩
            refine sL (pc' := 67) (i := .iload_n 1) rfl rfl ?_
            refine sEn (i := .ireturn) rfl (rfl) ?_
            exact ⟨_, hcr, rfl, frR_trans hf1 hf2, Or.inl ⟨rfl, hlt2, hA2⟩, fun _ => rfl⟩
          · have c2 := c2
            have c2 := of_decide_eq_false c2
            exact absurd q3 (by assumption)
        · exfalso; omega
      · rw [if_pos q3]
        refine sIni (ls := [some (.ref 69), none]) rfl ?_
        refine sL (pc' := 1) (i := .aload_n 0) rfl rfl ?_
        refine sKb (p := 3) rfl rfl ?_
        refine sCvQ (p := 6) (as := [_]) rfl rfl rfl rfl (by decide) (Nat.le_of_ble_eq_true rfl) rfl (Nat.le_of_ble_eq_true rfl) (sk_69 _) rfl (by omega) (c_expect hE hA hlt q1 (by decide)) ?_
        rintro _ S1 ⟨rfl, hA1, hf1⟩
        have hE1 := rdE_fr hE hf1
        refine sL (pc' := 7) (i := .aload_n 0) rfl rfl ?_
        refine sGc (p := 10) rfl rfl (sk_69 _) rfl rfl rfl ?_
        refine sGc (p := 13) rfl rfl (sk_64 _) rfl rfl rfl ?_
        refine sL (pc' := 14) (i := .aload_n 0) rfl rfl ?_
        refine sGi (p := 17) rfl rfl (sk_69 _) rfl rfl rfl hA1.1 ?_
        refine sAl (p := 18) (i := i + 1) rfl rfl (sk_68 _) (by omega) ⟨by omega, by omega⟩ (hE1.2.2.1 _ (by omega)).2.2 ?_
        refine sL (pc' := 19) (i := .l2i) rfl rfl ?_
        rw [← iI_cI (C (i + 1))]
        refine sL (pc' := 20) (i := .istore_n 1) (ls' := [some (.ref 69), some (.int (iI (cI (C (i + 1)))))]) rfl rfl ?_
        refine sL (pc' := 21) (i := .aload_n 0) rfl rfl ?_
        refine sGi (p := 24) rfl rfl (sk_69 _) rfl rfl rfl hA1.2.1 ?_
        refine sKs (p := 27) rfl rfl ?_
        refine sIc_eq (p := 30) rfl rfl ⟨by omega, by omega⟩ ⟨by omega, by omega⟩ (fun c1 => ?_) (fun c1 => ?_)
        · have c1 := c1
          refine sL (pc' := 43) (i := .aload_n 0) rfl rfl ?_
          refine sGc (p := 46) rfl rfl (sk_69 _) rfl rfl rfl ?_
          refine sL (pc' := 47) (i := .iload_n 1) rfl rfl ?_
          refine sCv (p := 50) (as := [_]) rfl rfl rfl rfl (by decide) (Nat.le_of_ble_eq_true rfl) rfl (Nat.le_of_ble_eq_true rfl) (sk_1 _) rfl (by omega) (c_has hE1.2.2.2.1 hcr) ?_
          refine sBn (p := 53) rfl rfl (fun c2 => ?_) (fun c2 => ?_)
          · have c2 := c2
            have c2 := of_decide_eq_true c2
            exact absurd (by assumption) q3
          · have c2 := c2
            have c2 := of_decide_eq_false c2
            refine sL (pc' := 54) (i := .aload_n 0) rfl rfl ?_
            refine sKi (p := 55) rfl rfl ?_
            refine sL (pc' := 56) (i := .aload_n 0) rfl rfl ?_
            refine sGi (p := 59) rfl rfl (sk_69 _) rfl rfl rfl hA1.1 ?_
            refine sCvQ (p := 62) (as := [_, _]) rfl rfl rfl rfl (by decide) (Nat.le_of_ble_eq_true rfl) rfl (Nat.le_of_ble_eq_true rfl) (sk_69 _) rfl (by omega) (c_refuse hE1 hA1 (by omega) (by omega) ⟨by decide, by decide⟩) ?_
            rintro _ S2 ⟨rfl, hX2, hf2⟩
            refine sL (pc' := 63) (i := .aload_n 0) rfl rfl ?_
            refine sCvQ (p := 66) (as := []) rfl rfl rfl rfl (by decide) (Nat.le_of_ble_eq_true rfl) rfl (Nat.le_of_ble_eq_true rfl) (sk_69 _) rfl (by omega) (c_advance_d hX2) ?_
            rintro _ S3 ⟨rfl, hX3, hf3⟩
            refine sL (pc' := 67) (i := .iload_n 1) rfl rfl ?_
            refine sEn (i := .ireturn) rfl (rfl) ?_
            exact ⟨_, hcr, rfl, frR_trans hf1 (frR_trans hf2 hf3), Or.inr ⟨(show (3 : Nat) ≠ 0 by decide), by rw [show rf K 3 (i + 1) = 3 from if_neg (by omega)] at hX3; exact hX3⟩, fun z => by cases z⟩
        · exfalso; omega
    · rw [if_pos q2]
      refine sIni (ls := [some (.ref 69), none]) rfl ?_
      refine sL (pc' := 1) (i := .aload_n 0) rfl rfl ?_
      refine sKb (p := 3) rfl rfl ?_
      refine sCvQ (p := 6) (as := [_]) rfl rfl rfl rfl (by decide) (Nat.le_of_ble_eq_true rfl) rfl (Nat.le_of_ble_eq_true rfl) (sk_69 _) rfl (by omega) (c_expect hE hA hlt q1 (by decide)) ?_
      rintro _ S1 ⟨rfl, hA1, hf1⟩
      have hE1 := rdE_fr hE hf1
      refine sL (pc' := 7) (i := .aload_n 0) rfl rfl ?_
      refine sGc (p := 10) rfl rfl (sk_69 _) rfl rfl rfl ?_
      refine sGc (p := 13) rfl rfl (sk_64 _) rfl rfl rfl ?_
      refine sL (pc' := 14) (i := .aload_n 0) rfl rfl ?_
      refine sGi (p := 17) rfl rfl (sk_69 _) rfl rfl rfl hA1.1 ?_
      refine sAl (p := 18) (i := i + 1) rfl rfl (sk_68 _) (by omega) ⟨by omega, by omega⟩ (hE1.2.2.1 _ (by omega)).2.2 ?_
      refine sL (pc' := 19) (i := .l2i) rfl rfl ?_
      rw [← iI_cI (C (i + 1))]
      refine sL (pc' := 20) (i := .istore_n 1) (ls' := [some (.ref 69), some (.int (iI (cI (C (i + 1)))))]) rfl rfl ?_
      refine sL (pc' := 21) (i := .aload_n 0) rfl rfl ?_
      refine sGi (p := 24) rfl rfl (sk_69 _) rfl rfl rfl hA1.2.1 ?_
      refine sKs (p := 27) rfl rfl ?_
      refine sIc_eq (p := 30) rfl rfl ⟨by omega, by omega⟩ ⟨by omega, by omega⟩ (fun c1 => ?_) (fun c1 => ?_)
      · exfalso; omega
      · have c1 := c1
        refine sL (pc' := 31) (i := .aload_n 0) rfl rfl ?_
        refine sKi (p := 32) rfl rfl ?_
        refine sL (pc' := 33) (i := .aload_n 0) rfl rfl ?_
        refine sGi (p := 36) rfl rfl (sk_69 _) rfl rfl rfl hA1.1 ?_
        refine sCvQ (p := 39) (as := [_, _]) rfl rfl rfl rfl (by decide) (Nat.le_of_ble_eq_true rfl) rfl (Nat.le_of_ble_eq_true rfl) (sk_69 _) rfl (by omega) (c_refuse hE1 hA1 (by omega) (by omega) ⟨by decide, by decide⟩) ?_
        rintro _ S2 ⟨rfl, hX2, hf2⟩
        refine sL (i := .goto 23) rfl rfl ?_
        refine sL (pc' := 63) (i := .aload_n 0) rfl rfl ?_
        refine sCvQ (p := 66) (as := []) rfl rfl rfl rfl (by decide) (Nat.le_of_ble_eq_true rfl) rfl (Nat.le_of_ble_eq_true rfl) (sk_69 _) rfl (by omega) (c_advance_d hX2) ?_
        rintro _ S3 ⟨rfl, hX3, hf3⟩
        refine sL (pc' := 67) (i := .iload_n 1) rfl rfl ?_
        refine sEn (i := .ireturn) rfl (rfl) ?_
        exact ⟨_, hcr, rfl, frR_trans hf1 (frR_trans hf2 hf3), Or.inr ⟨rf_nz (by decide), hX3⟩, fun z => absurd z (rf_nz (by decide))⟩
  · rw [if_pos q1]
    refine sIni (ls := [some (.ref 69), none]) rfl ?_
    refine sL (pc' := 1) (i := .aload_n 0) rfl rfl ?_
    refine sKb (p := 3) rfl rfl ?_
    refine sCvQ (p := 6) (as := [_]) rfl rfl rfl rfl (by decide) (Nat.le_of_ble_eq_true rfl) rfl (Nat.le_of_ble_eq_true rfl) (sk_69 _) rfl (by omega) (c_expect_n hE hA hi q1 (by decide)) ?_
    rintro _ S1 ⟨rfl, hX1, hf1⟩
    have hE1 := rdE_fr hE hf1
    have hqS1 := hX1
    obtain ⟨⟨j1, hj1m, hj1⟩, _⟩ := hqS1
    refine sL (pc' := 7) (i := .aload_n 0) rfl rfl ?_
    refine sGc (p := 10) rfl rfl (sk_69 _) rfl rfl rfl ?_
    refine sGc (p := 13) rfl rfl (sk_64 _) rfl rfl rfl ?_
    refine sL (pc' := 14) (i := .aload_n 0) rfl rfl ?_
    refine sGi (p := 17) rfl rfl (sk_69 _) rfl rfl rfl hj1 ?_
    refine sAl (p := 18) (i := j1) rfl rfl (sk_68 _) (by omega) ⟨by omega, by omega⟩ (hE1.2.2.1 _ (by omega)).2.2 ?_
    refine sL (pc' := 19) (i := .l2i) rfl rfl ?_
    rw [← iI_cI (C j1)]
    refine sL (pc' := 20) (i := .istore_n 1) (ls' := [some (.ref 69), some (.int (iI (cI (C j1))))]) rfl rfl ?_
    refine sL (pc' := 21) (i := .aload_n 0) rfl rfl ?_
    refine sGi (p := 24) rfl rfl (sk_69 _) rfl rfl rfl hX1.2.1 ?_
    refine sKs (p := 27) rfl rfl ?_
    refine sIc_eq (p := 30) rfl rfl ⟨by omega, by omega⟩ ⟨by omega, by omega⟩ (fun c1 => ?_) (fun c1 => ?_)
    · exact absurd c1 (by decide)
    · have c1 := c1
      refine sL (pc' := 31) (i := .aload_n 0) rfl rfl ?_
      refine sKi (p := 32) rfl rfl ?_
      refine sL (pc' := 33) (i := .aload_n 0) rfl rfl ?_
      refine sGi (p := 36) rfl rfl (sk_69 _) rfl rfl rfl hj1 ?_
      refine sCvQ (p := 39) (as := [_, _]) rfl rfl rfl rfl (by decide) (Nat.le_of_ble_eq_true rfl) rfl (Nat.le_of_ble_eq_true rfl) (sk_69 _) rfl (by omega) (c_refuse_d hX1) ?_
      rintro _ S2 ⟨rfl, hX2, hf2⟩
      refine sL (i := .goto 23) rfl rfl ?_
      refine sL (pc' := 63) (i := .aload_n 0) rfl rfl ?_
      refine sCvQ (p := 66) (as := []) rfl rfl rfl rfl (by decide) (Nat.le_of_ble_eq_true rfl) rfl (Nat.le_of_ble_eq_true rfl) (sk_69 _) rfl (by omega) (c_advance_d hX2) ?_
      rintro _ S3 ⟨rfl, hX3, hf3⟩
      refine sL (pc' := 67) (i := .iload_n 1) rfl rfl ?_
      refine sEn (i := .ireturn) rfl (rfl) ?_
      exact ⟨_, cI_rg _, rfl, frR_trans hf1 (frR_trans hf2 hf3), Or.inr ⟨rf_nz (by decide), hX3⟩, fun z => absurd z (rf_nz (by decide))⟩
theorem c_readValue {i v : Nat} (hE : rdE S K A C m n sz fn dr Fn nm) (hA : rA S K i) (hi : i ≤ m) (hv : v < n) : sM X 2 99 [.ref 69, .int (iI ((v : Nat) : Int))] S (fun r S' => ∃ x : Int, rg x ∧ r = some (.int (iI x)) ∧ frR 106 S S' ∧ rS S' K A m (pVal K C sz v i).1 (pVal K C sz v i).2.1 ∧ ((pVal K C sz v i).1 = 0 → x = (pVal K C sz v i).2.2)) := by
  have hm := hE.1.1
  have hKi := hE.1.2.1 i
  have hcr := cI_rg (C i)
  have hc1 := hcr.1
  have hc2 := hcr.2
  have hn10 := hE.2.2.2.1.1.1
  have hve : sz (((v : Nat) : Int).toNat) = sz v := rfl
  unfold pVal
  by_cases q2 : K i = 259
  · have hlt := rdE_i hE hi (by omega) (by omega)
    rw [if_neg (fun z => z q2)]
    by_cases q3 : 0 ≤ cI (C i) ∧ cI (C i) < sz v
    · rw [if_neg (fun z => z q3)]
      refine sIni (ls := [some (.ref 69), some (.int (iI ((v : Nat) : Int))), none]) rfl ?_
      refine sL (pc' := 1) (i := .aload_n 0) rfl rfl ?_
      refine sGc (p := 4) rfl rfl (sk_69 _) rfl rfl rfl ?_
      refine sGc (p := 7) rfl rfl (sk_64 _) rfl rfl rfl ?_
      refine sL (pc' := 8) (i := .aload_n 0) rfl rfl ?_
      refine sGi (p := 11) rfl rfl (sk_69 _) rfl rfl rfl hA.1 ?_
      refine sAl (p := 12) (i := i) rfl rfl (sk_68 _) (by omega) ⟨by omega, by omega⟩ (hE.2.2.1 _ (by omega)).2.2 ?_
      refine sL (pc' := 13) (i := .l2i) rfl rfl ?_
      rw [← iI_cI (C i)]
      refine sL (pc' := 14) (i := .istore_n 2) (ls' := [some (.ref 69), some (.int (iI ((v : Nat) : Int))), some (.int (iI (cI (C i))))]) rfl rfl ?_
      refine sL (pc' := 15) (i := .aload_n 0) rfl rfl ?_
      refine sGi (p := 18) rfl rfl (sk_69 _) rfl rfl rfl hA.2.1 ?_
      refine sKs (p := 21) rfl rfl ?_
      refine sIc_eq (p := 24) rfl rfl ⟨by omega, by omega⟩ ⟨by omega, by omega⟩ (fun c1 => ?_) (fun c1 => ?_)
      · have c1 := c1
        refine sL (pc' := 37) (i := .aload_n 0) rfl rfl ?_
        refine sGc (p := 40) rfl rfl (sk_69 _) rfl rfl rfl ?_
        refine sL (pc' := 41) (i := .iload_n 1) rfl rfl ?_
        refine sL (pc' := 42) (i := .iload_n 2) rfl rfl ?_
        refine sCv (p := 45) (as := [_, _]) rfl rfl rfl rfl (by decide) (Nat.le_of_ble_eq_true rfl) rfl (Nat.le_of_ble_eq_true rfl) (sk_1 _) rfl (by omega) (c_hasValue hE.2.2.2.1 (x := ((v : Nat) : Int)) (y := cI (C i)) ⟨by omega, by omega⟩ hcr) ?_
        refine sBn (p := 48) rfl rfl (fun c2 => ?_) (fun c2 => ?_)
        · have c2 := c2
          have c2 := of_decide_eq_true c2
          refine sL (pc' := 58) (i := .aload_n 0) rfl rfl ?_
          refine sCvQ (p := 61) (as := []) rfl rfl rfl rfl (by decide) (Nat.le_of_ble_eq_true rfl) rfl (Nat.le_of_ble_eq_true rfl) (sk_69 _) rfl (by omega) (c_advance hE hA hlt) ?_
          rintro _ S2 ⟨rfl, hA2, hf2⟩
          refine sL (pc' := 62) (i := .iload_n 2) rfl rfl ?_
          refine sEn (i := .ireturn) rfl (rfl) ?_
          exact ⟨_, hcr, rfl, hf2, Or.inl ⟨rfl, hlt, hA2⟩, fun _ => rfl⟩
        · exfalso; have c2 := of_decide_eq_false c2; omega
      · exfalso; omega
    · rw [if_pos q3]
      refine sIni (ls := [some (.ref 69), some (.int (iI ((v : Nat) : Int))), none]) rfl ?_
      refine sL (pc' := 1) (i := .aload_n 0) rfl rfl ?_
      refine sGc (p := 4) rfl rfl (sk_69 _) rfl rfl rfl ?_
      refine sGc (p := 7) rfl rfl (sk_64 _) rfl rfl rfl ?_
      refine sL (pc' := 8) (i := .aload_n 0) rfl rfl ?_
      refine sGi (p := 11) rfl rfl (sk_69 _) rfl rfl rfl hA.1 ?_
      refine sAl (p := 12) (i := i) rfl rfl (sk_68 _) (by omega) ⟨by omega, by omega⟩ (hE.2.2.1 _ (by omega)).2.2 ?_
      refine sL (pc' := 13) (i := .l2i) rfl rfl ?_
      rw [← iI_cI (C i)]
      refine sL (pc' := 14) (i := .istore_n 2) (ls' := [some (.ref 69), some (.int (iI ((v : Nat) : Int))), some (.int (iI (cI (C i))))]) rfl rfl ?_
      refine sL (pc' := 15) (i := .aload_n 0) rfl rfl ?_
      refine sGi (p := 18) rfl rfl (sk_69 _) rfl rfl rfl hA.2.1 ?_
      refine sKs (p := 21) rfl rfl ?_
      refine sIc_eq (p := 24) rfl rfl ⟨by omega, by omega⟩ ⟨by omega, by omega⟩ (fun c1 => ?_) (fun c1 => ?_)
      · have c1 := c1
        refine sL (pc' := 37) (i := .aload_n 0) rfl rfl ?_
        refine sGc (p := 40) rfl rfl (sk_69 _) rfl rfl rfl ?_
        refine sL (pc' := 41) (i := .iload_n 1) rfl rfl ?_
        refine sL (pc' := 42) (i := .iload_n 2) rfl rfl ?_
        refine sCv (p := 45) (as := [_, _]) rfl rfl rfl rfl (by decide) (Nat.le_of_ble_eq_true rfl) rfl (Nat.le_of_ble_eq_true rfl) (sk_1 _) rfl (by omega) (c_hasValue hE.2.2.2.1 (x := ((v : Nat) : Int)) (y := cI (C i)) ⟨by omega, by omega⟩ hcr) ?_
        refine sBn (p := 48) rfl rfl (fun c2 => ?_) (fun c2 => ?_)
        · exfalso; have c2 := of_decide_eq_true c2; omega
        · have c2 := c2
          have c2 := of_decide_eq_false c2
          refine sL (pc' := 49) (i := .aload_n 0) rfl rfl ?_
          refine sKi (p := 50) rfl rfl ?_
          refine sL (pc' := 51) (i := .aload_n 0) rfl rfl ?_
          refine sGi (p := 54) rfl rfl (sk_69 _) rfl rfl rfl hA.1 ?_
          refine sCvQ (p := 57) (as := [_, _]) rfl rfl rfl rfl (by decide) (Nat.le_of_ble_eq_true rfl) rfl (Nat.le_of_ble_eq_true rfl) (sk_69 _) rfl (by omega) (c_refuse hE hA hi hi ⟨by decide, by decide⟩) ?_
          rintro _ S1 ⟨rfl, hX1, hf1⟩
          refine sL (pc' := 58) (i := .aload_n 0) rfl rfl ?_
          refine sCvQ (p := 61) (as := []) rfl rfl rfl rfl (by decide) (Nat.le_of_ble_eq_true rfl) rfl (Nat.le_of_ble_eq_true rfl) (sk_69 _) rfl (by omega) (c_advance_d hX1) ?_
          rintro _ S2 ⟨rfl, hX2, hf2⟩
          refine sL (pc' := 62) (i := .iload_n 2) rfl rfl ?_
          refine sEn (i := .ireturn) rfl (rfl) ?_
          exact ⟨_, hcr, rfl, frR_trans hf1 hf2, Or.inr ⟨(show (4 : Nat) ≠ 0 by decide), by rw [show rf K 4 i = 4 from if_neg (by omega)] at hX2; exact hX2⟩, fun z => by cases z⟩
      · exfalso; omega
  · rw [if_pos q2]
    refine sIni (ls := [some (.ref 69), some (.int (iI ((v : Nat) : Int))), none]) rfl ?_
    refine sL (pc' := 1) (i := .aload_n 0) rfl rfl ?_
    refine sGc (p := 4) rfl rfl (sk_69 _) rfl rfl rfl ?_
    refine sGc (p := 7) rfl rfl (sk_64 _) rfl rfl rfl ?_
    refine sL (pc' := 8) (i := .aload_n 0) rfl rfl ?_
    refine sGi (p := 11) rfl rfl (sk_69 _) rfl rfl rfl hA.1 ?_
    refine sAl (p := 12) (i := i) rfl rfl (sk_68 _) (by omega) ⟨by omega, by omega⟩ (hE.2.2.1 _ (by omega)).2.2 ?_
    refine sL (pc' := 13) (i := .l2i) rfl rfl ?_
    rw [← iI_cI (C i)]
    refine sL (pc' := 14) (i := .istore_n 2) (ls' := [some (.ref 69), some (.int (iI ((v : Nat) : Int))), some (.int (iI (cI (C i))))]) rfl rfl ?_
    refine sL (pc' := 15) (i := .aload_n 0) rfl rfl ?_
    refine sGi (p := 18) rfl rfl (sk_69 _) rfl rfl rfl hA.2.1 ?_
    refine sKs (p := 21) rfl rfl ?_
    refine sIc_eq (p := 24) rfl rfl ⟨by omega, by omega⟩ ⟨by omega, by omega⟩ (fun c1 => ?_) (fun c1 => ?_)
    · exfalso; omega
    · have c1 := c1
      refine sL (pc' := 25) (i := .aload_n 0) rfl rfl ?_
      refine sKi (p := 26) rfl rfl ?_
      refine sL (pc' := 27) (i := .aload_n 0) rfl rfl ?_
      refine sGi (p := 30) rfl rfl (sk_69 _) rfl rfl rfl hA.1 ?_
      refine sCvQ (p := 33) (as := [_, _]) rfl rfl rfl rfl (by decide) (Nat.le_of_ble_eq_true rfl) rfl (Nat.le_of_ble_eq_true rfl) (sk_69 _) rfl (by omega) (c_refuse hE hA hi hi ⟨by decide, by decide⟩) ?_
      rintro _ S1 ⟨rfl, hX1, hf1⟩
      refine sL (i := .goto 24) rfl rfl ?_
      refine sL (pc' := 58) (i := .aload_n 0) rfl rfl ?_
      refine sCvQ (p := 61) (as := []) rfl rfl rfl rfl (by decide) (Nat.le_of_ble_eq_true rfl) rfl (Nat.le_of_ble_eq_true rfl) (sk_69 _) rfl (by omega) (c_advance_d hX1) ?_
      rintro _ S2 ⟨rfl, hX2, hf2⟩
      refine sL (pc' := 62) (i := .iload_n 2) rfl rfl ?_
      refine sEn (i := .ireturn) rfl (rfl) ?_
      exact ⟨_, hcr, rfl, frR_trans hf1 hf2, Or.inr ⟨rf_nz (by decide), hX2⟩, fun z => absurd z (rf_nz (by decide))⟩
end RL
