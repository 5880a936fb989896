/-! ===== the class's reader: nesting ===== -/
def frm (K : Nat → Nat) (T : Nat) (g : Nat → Nat × Nat × (Nat → Bool)) : Nat → Nat × Nat × (Nat → Bool) := lev K T 257 4 (lev K T 256 1 (ivS K T (lev K T 124 1 (lev K T 94 2 (lev K T 38 0 g)))))
def xpR (K : Nat → Nat) (w : Nat) (R : Nat × Nat × (Nat → Bool)) : Nat × Nat × (Nat → Bool) := if R.1 ≠ 0 then R else if K R.2.1 = w then (0, R.2.1 + 1, R.2.2) else (rf K 2 R.2.1, R.2.1, R.2.2)
def isN (k : Nat) : Prop := k = 33 ∨ k = 40 ∨ k = 262 ∨ k = 263
def nst (K : Nat → Nat) (C : Nat → Int64) (n : Nat) (sz : Nat → Nat) (g : Nat → Nat × Nat × (Nat → Bool)) (i : Nat) : Nat × Nat × (Nat → Bool) :=
  if K i = 33 then ((g (i + 1)).1, (g (i + 1)).2.1, ivt (pr sz n) (g (i + 1)).2.2)
  else if K i = 40 then xpR K 41 (frm K (pr sz n) g (i + 1))
  else if (pVs K C n (i + 1) (nVs K C n (i + 1))).1 ≠ 0 then ((pVs K C n (i + 1) (nVs K C n (i + 1))).1, (pVs K C n (i + 1) (nVs K C n (i + 1))).2.1, fun _ => false)
  else if K (pVs K C n (i + 1) (nVs K C n (i + 1))).2.1 = 46 then ((g ((pVs K C n (i + 1) (nVs K C n (i + 1))).2.1 + 1)).1, (g ((pVs K C n (i + 1) (nVs K C n (i + 1))).2.1 + 1)).2.1, bdA sz n (decide (K i = 263)) (pVs K C n (i + 1) (nVs K C n (i + 1))).2.2 (g ((pVs K C n (i + 1) (nVs K C n (i + 1))).2.1 + 1)).2.2 n)
  else (rf K 2 (pVs K C n (i + 1) (nVs K C n (i + 1))).2.1, (pVs K C n (i + 1) (nVs K C n (i + 1))).2.1, fun _ => false)
def lef (K : Nat → Nat) (C : Nat → Int64) (n : Nat) (sz : Nat → Nat) (N : Nat) (Fn : Nat → Nat → Bool) (nm : Nat → Int64) (i : Nat) : Nat × Nat × (Nat → Bool) :=
  if K i = 260 ∨ K i = 261 then pCon K (pr sz n) i else if K i = 258 then pNam C N Fn nm i else if K i = 35 then pAtm K C n sz i else (rf K 2 i, i, fun _ => false)
/-- one operand, with so much depth left -/
def one (K : Nat → Nat) (C : Nat → Int64) (n : Nat) (sz : Nat → Nat) (N : Nat) (Fn : Nat → Nat → Bool) (nm : Nat → Int64) : Nat → Nat → Nat × Nat × (Nat → Bool)
  | 0, i => if K i = 33 ∨ K i = 40 ∨ K i = 262 ∨ K i = 263 then (5, i, fun _ => false) else lef K C n sz N Fn nm i
  | D + 1, i => if K i = 33 ∨ K i = 40 ∨ K i = 262 ∨ K i = 263 then nst K C n sz (one K C n sz N Fn nm D) i else lef K C n sz N Fn nm i
section RN
variable {X : List Int32} {S : ST} {K A : Nat → Nat} {C : Nat → Int64} {m n fn dr : Nat} {sz : Nat → Nat} {Fn : Nat → Nat → Bool} {nm : Nat → Int64} {ds d : Nat} {g : Nat → Nat × Nat × (Nat → Bool)}
theorem c_frm (hds : 3 ≤ ds) (hd : d ≤ 20) (hs : subC X K A C m n sz fn dr Fn nm ds 94 d (5 * d + 5) g) : subC X K A C m n sz fn dr Fn nm (ds + 5) 89 d (5 * d) (frm K (pr sz n) g) := by
  have h1 := l_Both hds hd (B := 5 * d + 4) (by omega) hs
  have h2 := l_Odd (by omega) hd (B := 5 * d + 3) (by omega) h1
  have h3 := l_Either (by omega) hd (B := 5 * d + 2) (by omega) h2
  have h4 := l_Side (by omega) hd (B := 5 * d + 1) (by omega) h3
  exact l_Formula (by omega) hd (B := 5 * d) (by omega) h4
theorem rS_split {k i : Nat} (h : rS S K A m k i) : (k = 0 ∧ i ≤ m ∧ rA S K i) ∨ (k ≠ 0 ∧ rX S m k (A i)) := h
theorem row_or {c k : Nat} {f : Nat → Bool} (h : k = 0 → rowS S c 0 f) : ∃ f', rowS S c 0 f' ∧ (k = 0 → f' = f) := by
  by_cases q : k = 0
  · exact ⟨f, h q, fun _ => rfl⟩
  · obtain ⟨f', hf'⟩ := rowS_ex S c
    exact ⟨f', hf', fun z => absurd z q⟩
theorem c_nest {i a : Nat} (hds : 3 ≤ ds) (hd : d ≤ 20) (hs : subC X K A C m n sz fn dr Fn nm ds 94 d (5 * d + 5) g) (hE : rdE S K A C m n sz fn dr Fn nm) (hA : rA S K i) (hi : i ≤ m) (ha : a ≤ 5 * d) (hN : isN (K i)) : sM X (ds + 6) 95 [.ref 69, .int (iI ((d : Nat) : Int)), .int (iI ((a : Nat) : Int))] S (oQ K A m a (nst K C n sz g i) S) := by
  have hm := hE.1.1
  have hK := hE.1.2.1 i
  have hN2 : K i = 33 ∨ K i = 40 ∨ K i = 262 ∨ K i = 263 := hN
  have hlt := rdE_i hE hi (by omega) (by omega)
  have hF := c_frm hds hd hs
  unfold nst
  by_cases q1 : K i = 33
  · rw [if_pos q1]
    refine sIni (ls := [some (.ref 69), some (.int (iI ((d : Nat) : Int))), some (.int (iI ((a : Nat) : Int))), none, none]) rfl ?_
    refine sL (pc' := 1) (i := .aload_n 0) rfl rfl ?_
    refine sGi (p := 4) rfl rfl (sk_69 _) rfl rfl rfl hA.2.1 ?_
    refine sL (pc' := 5) (i := .istore_n 3) (ls' := [some (.ref 69), some (.int (iI ((d : Nat) : Int))), some (.int (iI ((a : Nat) : Int))), some (.int (iI ((K i : Nat) : Int))), none]) rfl rfl ?_
    refine sL (pc' := 6) (i := .aload_n 0) rfl rfl ?_
    refine sCvQ (p := 9) (as := []) rfl rfl rfl rfl (by decide) (Nat.le_of_ble_eq_true rfl) rfl (Nat.le_of_ble_eq_true rfl) (sk_69 _) rfl (by omega) (c_advance hE hA hlt) ?_
    rintro _ S1 ⟨rfl, hA1, hf1⟩
    have hE1 := rdE_fr hE hf1
    refine sL (pc' := 10) (i := .iload_n 3) rfl rfl ?_
    refine sKb (p := 12) rfl rfl ?_
    refine sIc_ne (p := 15) rfl rfl ⟨by omega, by omega⟩ ⟨by omega, by omega⟩ (fun c1 => ?_) (fun c1 => ?_)
    · exfalso; omega
    · have c1 := c1
      refine sL (pc' := 16) (i := .aload_n 0) rfl rfl ?_
      refine sL (pc' := 17) (i := .iload_n 1) rfl rfl ?_
      refine sL (pc' := 18) (i := .iload_n 2) rfl rfl ?_
      refine sCvQ (p := 21) (as := [_, _]) rfl rfl rfl rfl (by decide) (Nat.le_of_ble_eq_true rfl) rfl (Nat.le_of_ble_eq_true rfl) (sk_69 _) rfl (by omega) (hs.1 S1 (i + 1) a hE1 hA1 hlt (by omega)) ?_
      rintro _ S2 ⟨rfl, hf2, hr2, hv2⟩
      have hE2 := rdE_fr hE1 hf2
      obtain ⟨f2, hw2, he2⟩ := row_or hv2
      refine sL (pc' := 22) (i := .aload_n 0) rfl rfl ?_
      refine sL (pc' := 23) (i := .iload_n 2) rfl rfl ?_
      refine sCv (p := 26) (as := [_]) rfl rfl rfl rfl (by decide) (Nat.le_of_ble_eq_true rfl) rfl (Nat.le_of_ble_eq_true rfl) (sk_69 _) rfl (by omega) (c_invert (by omega) hE2.2.2.2.2.1 hw2) ?_
      refine sL (i := .goto 61) rfl rfl ?_
      refine sEn (i := .return_) rfl (rfl) ?_
      exact ⟨rfl, frR_trans (frR_le hf1 (by omega)) (frR_trans hf2 (frR_row (Nat.le_refl _) (by omega))), hr2, fun z => by rw [he2 z]; exact rowS_wRw _ _ _ _⟩
  · rw [if_neg q1]
    by_cases q2 : K i = 40
    · rw [if_pos q2]
      obtain ⟨W, hW⟩ : ∃ W, W = frm K (pr sz n) g (i + 1) := ⟨_, rfl⟩
      rw [← hW]
      unfold xpR

      by_cases q3 : W.1 = 0
      · rw [if_neg (fun z => z q3)]
        by_cases q4 : K W.2.1 = 41
        · rw [if_pos q4]
          refine sIni (ls := [some (.ref 69), some (.int (iI ((d : Nat) : Int))), some (.int (iI ((a : Nat) : Int))), none, none]) rfl ?_
          refine sL (pc' := 1) (i := .aload_n 0) rfl rfl ?_
          refine sGi (p := 4) rfl rfl (sk_69 _) rfl rfl rfl hA.2.1 ?_
          refine sL (pc' := 5) (i := .istore_n 3) (ls' := [some (.ref 69), some (.int (iI ((d : Nat) : Int))), some (.int (iI ((a : Nat) : Int))), some (.int (iI ((K i : Nat) : Int))), none]) rfl rfl ?_
          refine sL (pc' := 6) (i := .aload_n 0) rfl rfl ?_
          refine sCvQ (p := 9) (as := []) rfl rfl rfl rfl (by decide) (Nat.le_of_ble_eq_true rfl) rfl (Nat.le_of_ble_eq_true rfl) (sk_69 _) rfl (by omega) (c_advance hE hA hlt) ?_
          rintro _ S1 ⟨rfl, hA1, hf1⟩
          have hE1 := rdE_fr hE hf1
          refine sL (pc' := 10) (i := .iload_n 3) rfl rfl ?_
          refine sKb (p := 12) rfl rfl ?_
          refine sIc_ne (p := 15) rfl rfl ⟨by omega, by omega⟩ ⟨by omega, by omega⟩ (fun c1 => ?_) (fun c1 => ?_)
          · have c1 := c1
            refine sL (pc' := 30) (i := .iload_n 3) rfl rfl ?_
            refine sKb (p := 32) rfl rfl ?_
            refine sIc_ne (p := 35) rfl rfl ⟨by omega, by omega⟩ ⟨by omega, by omega⟩ (fun c2 => ?_) (fun c2 => ?_)
            · exfalso; omega
            · have c2 := c2
              refine sL (pc' := 36) (i := .aload_n 0) rfl rfl ?_
              refine sL (pc' := 37) (i := .iload_n 1) rfl rfl ?_
              refine sL (pc' := 38) (i := .iload_n 2) rfl rfl ?_
              refine sCvQ (p := 41) (as := [_, _]) rfl rfl rfl rfl (by decide) (Nat.le_of_ble_eq_true rfl) rfl (Nat.le_of_ble_eq_true rfl) (sk_69 _) rfl (by omega) (hF.1 S1 (i + 1) a hE1 hA1 hlt (by omega)) ?_
              rintro _ S2 ⟨rfl, hf2, hr2, hv2⟩
              rw [← hW] at hr2 hv2
              have hE2 := rdE_fr hE1 hf2
              obtain ⟨hi2, hA2⟩ : W.2.1 ≤ m ∧ rA S2 K W.2.1 := by
                rcases hr2 with ⟨_, h1, h2⟩ | ⟨h1, _⟩
                · exact ⟨h1, h2⟩
                · exact absurd q3 h1
              refine sL (pc' := 42) (i := .aload_n 0) rfl rfl ?_
              refine sKb (p := 44) rfl rfl ?_
              refine sCvQ (p := 47) (as := [_]) rfl rfl rfl rfl (by decide) (Nat.le_of_ble_eq_true rfl) rfl (Nat.le_of_ble_eq_true rfl) (sk_69 _) rfl (by omega) (c_expect hE2 hA2 (rdE_i hE2 hi2 (by omega) (by omega)) q4 (by decide)) ?_
              rintro _ S3 ⟨rfl, hh3, hf3⟩
              refine sL (i := .goto 40) rfl rfl ?_
              refine sEn (i := .return_) rfl (rfl) ?_
              exact ⟨rfl, frR_trans (frR_le hf1 (by omega)) (frR_trans hf2 (frR_le hf3 (by omega))), Or.inl ⟨rfl, rdE_i hE2 hi2 (by omega) (by omega), hh3⟩, fun _ => rowS_fr hf3 (by omega) (hv2 q3)⟩
          · exfalso; omega
        · rw [if_neg q4]
          refine sIni (ls := [some (.ref 69), some (.int (iI ((d : Nat) : Int))), some (.int (iI ((a : Nat) : Int))), none, none]) rfl ?_
          refine sL (pc' := 1) (i := .aload_n 0) rfl rfl ?_
          refine sGi (p := 4) rfl rfl (sk_69 _) rfl rfl rfl hA.2.1 ?_
          refine sL (pc' := 5) (i := .istore_n 3) (ls' := [some (.ref 69), some (.int (iI ((d : Nat) : Int))), some (.int (iI ((a : Nat) : Int))), some (.int (iI ((K i : Nat) : Int))), none]) rfl rfl ?_
          refine sL (pc' := 6) (i := .aload_n 0) rfl rfl ?_
          refine sCvQ (p := 9) (as := []) rfl rfl rfl rfl (by decide) (Nat.le_of_ble_eq_true rfl) rfl (Nat.le_of_ble_eq_true rfl) (sk_69 _) rfl (by omega) (c_advance hE hA hlt) ?_
          rintro _ S1 ⟨rfl, hA1, hf1⟩
          have hE1 := rdE_fr hE hf1
          refine sL (pc' := 10) (i := .iload_n 3) rfl rfl ?_
          refine sKb (p := 12) rfl rfl ?_
          refine sIc_ne (p := 15) rfl rfl ⟨by omega, by omega⟩ ⟨by omega, by omega⟩ (fun c1 => ?_) (fun c1 => ?_)
          · have c1 := c1
            refine sL (pc' := 30) (i := .iload_n 3) rfl rfl ?_
            refine sKb (p := 32) rfl rfl ?_
            refine sIc_ne (p := 35) rfl rfl ⟨by omega, by omega⟩ ⟨by omega, by omega⟩ (fun c2 => ?_) (fun c2 => ?_)
            · exfalso; omega
            · have c2 := c2
              refine sL (pc' := 36) (i := .aload_n 0) rfl rfl ?_
              refine sL (pc' := 37) (i := .iload_n 1) rfl rfl ?_
              refine sL (pc' := 38) (i := .iload_n 2) rfl rfl ?_
              refine sCvQ (p := 41) (as := [_, _]) rfl rfl rfl rfl (by decide) (Nat.le_of_ble_eq_true rfl) rfl (Nat.le_of_ble_eq_true rfl) (sk_69 _) rfl (by omega) (hF.1 S1 (i + 1) a hE1 hA1 hlt (by omega)) ?_
              rintro _ S2 ⟨rfl, hf2, hr2, hv2⟩
              rw [← hW] at hr2 hv2
              have hE2 := rdE_fr hE1 hf2
              obtain ⟨hi2, hA2⟩ : W.2.1 ≤ m ∧ rA S2 K W.2.1 := by
                rcases hr2 with ⟨_, h1, h2⟩ | ⟨h1, _⟩
                · exact ⟨h1, h2⟩
                · exact absurd q3 h1
              refine sL (pc' := 42) (i := .aload_n 0) rfl rfl ?_
              refine sKb (p := 44) rfl rfl ?_
              refine sCvQ (p := 47) (as := [_]) rfl rfl rfl rfl (by decide) (Nat.le_of_ble_eq_true rfl) rfl (Nat.le_of_ble_eq_true rfl) (sk_69 _) rfl (by omega) (c_expect_n hE2 hA2 hi2 q4 (by decide)) ?_
              rintro _ S3 ⟨rfl, hh3, hf3⟩
              refine sL (i := .goto 40) rfl rfl ?_
              refine sEn (i := .return_) rfl (rfl) ?_
              exact ⟨rfl, frR_trans (frR_le hf1 (by omega)) (frR_trans hf2 (frR_le hf3 (by omega))), Or.inr ⟨rf_nz (K := K) (q := 2) (a := W.2.1) (by decide), hh3⟩, fun z => absurd z (rf_nz (K := K) (q := 2) (a := W.2.1) (by decide))⟩
          · exfalso; omega
      · rw [if_pos q3]
        refine sIni (ls := [some (.ref 69), some (.int (iI ((d : Nat) : Int))), some (.int (iI ((a : Nat) : Int))), none, none]) rfl ?_
        refine sL (pc' := 1) (i := .aload_n 0) rfl rfl ?_
        refine sGi (p := 4) rfl rfl (sk_69 _) rfl rfl rfl hA.2.1 ?_
        refine sL (pc' := 5) (i := .istore_n 3) (ls' := [some (.ref 69), some (.int (iI ((d : Nat) : Int))), some (.int (iI ((a : Nat) : Int))), some (.int (iI ((K i : Nat) : Int))), none]) rfl rfl ?_
        refine sL (pc' := 6) (i := .aload_n 0) rfl rfl ?_
        refine sCvQ (p := 9) (as := []) rfl rfl rfl rfl (by decide) (Nat.le_of_ble_eq_true rfl) rfl (Nat.le_of_ble_eq_true rfl) (sk_69 _) rfl (by omega) (c_advance hE hA hlt) ?_
        rintro _ S1 ⟨rfl, hA1, hf1⟩
        have hE1 := rdE_fr hE hf1
        refine sL (pc' := 10) (i := .iload_n 3) rfl rfl ?_
        refine sKb (p := 12) rfl rfl ?_
        refine sIc_ne (p := 15) rfl rfl ⟨by omega, by omega⟩ ⟨by omega, by omega⟩ (fun c1 => ?_) (fun c1 => ?_)
        · have c1 := c1
          refine sL (pc' := 30) (i := .iload_n 3) rfl rfl ?_
          refine sKb (p := 32) rfl rfl ?_
          refine sIc_ne (p := 35) rfl rfl ⟨by omega, by omega⟩ ⟨by omega, by omega⟩ (fun c2 => ?_) (fun c2 => ?_)
          · exfalso; omega
          · have c2 := c2
            refine sL (pc' := 36) (i := .aload_n 0) rfl rfl ?_
            refine sL (pc' := 37) (i := .iload_n 1) rfl rfl ?_
            refine sL (pc' := 38) (i := .iload_n 2) rfl rfl ?_
            refine sCvQ (p := 41) (as := [_, _]) rfl rfl rfl rfl (by decide) (Nat.le_of_ble_eq_true rfl) rfl (Nat.le_of_ble_eq_true rfl) (sk_69 _) rfl (by omega) (hF.1 S1 (i + 1) a hE1 hA1 hlt (by omega)) ?_
            rintro _ S2 ⟨rfl, hf2, hr2, hv2⟩
            rw [← hW] at hr2 hv2
            have hE2 := rdE_fr hE1 hf2
            have hX2 : rX S2 m W.1 (A W.2.1) := by
              rcases hr2 with ⟨h1, _⟩ | ⟨_, h1⟩
              · exact absurd h1 q3
              · exact h1
            refine sL (pc' := 42) (i := .aload_n 0) rfl rfl ?_
            refine sKb (p := 44) rfl rfl ?_
            refine sCvQ (p := 47) (as := [_]) rfl rfl rfl rfl (by decide) (Nat.le_of_ble_eq_true rfl) rfl (Nat.le_of_ble_eq_true rfl) (sk_69 _) rfl (by omega) (c_expect_d hX2 (by decide)) ?_
            rintro _ S3 ⟨rfl, hh3, hf3⟩
            refine sL (i := .goto 40) rfl rfl ?_
            refine sEn (i := .return_) rfl (rfl) ?_
            exact ⟨rfl, frR_trans (frR_le hf1 (by omega)) (frR_trans hf2 (frR_le hf3 (by omega))), Or.inr ⟨q3, hh3⟩, fun z => absurd z q3⟩
        · exfalso; omega
    · rw [if_neg q2]
      obtain ⟨V, hV⟩ : ∃ V, V = pVs K C n (i + 1) (nVs K C n (i + 1)) := ⟨_, rfl⟩
      rw [← hV]
      by_cases q3 : V.1 = 0
      · rw [if_neg (fun z => z q3)]
        by_cases q4 : K V.2.1 = 46
        · rw [if_pos q4]
          refine sIni (ls := [some (.ref 69), some (.int (iI ((d : Nat) : Int))), some (.int (iI ((a : Nat) : Int))), none, none]) rfl ?_
          refine sL (pc' := 1) (i := .aload_n 0) rfl rfl ?_
          refine sGi (p := 4) rfl rfl (sk_69 _) rfl rfl rfl hA.2.1 ?_
          refine sL (pc' := 5) (i := .istore_n 3) (ls' := [some (.ref 69), some (.int (iI ((d : Nat) : Int))), some (.int (iI ((a : Nat) : Int))), some (.int (iI ((K i : Nat) : Int))), none]) rfl rfl ?_
          refine sL (pc' := 6) (i := .aload_n 0) rfl rfl ?_
          refine sCvQ (p := 9) (as := []) rfl rfl rfl rfl (by decide) (Nat.le_of_ble_eq_true rfl) rfl (Nat.le_of_ble_eq_true rfl) (sk_69 _) rfl (by omega) (c_advance hE hA hlt) ?_
          rintro _ S1 ⟨rfl, hA1, hf1⟩
          have hE1 := rdE_fr hE hf1
          refine sL (pc' := 10) (i := .iload_n 3) rfl rfl ?_
          refine sKb (p := 12) rfl rfl ?_
          refine sIc_ne (p := 15) rfl rfl ⟨by omega, by omega⟩ ⟨by omega, by omega⟩ (fun c1 => ?_) (fun c1 => ?_)
          · have c1 := c1
            refine sL (pc' := 30) (i := .iload_n 3) rfl rfl ?_
            refine sKb (p := 32) rfl rfl ?_
            refine sIc_ne (p := 35) rfl rfl ⟨by omega, by omega⟩ ⟨by omega, by omega⟩ (fun c2 => ?_) (fun c2 => ?_)
            · have c2 := c2
              refine sL (pc' := 51) (i := .aload_n 0) rfl rfl ?_
              refine sCvQ (p := 54) (as := []) rfl rfl rfl rfl (by decide) (Nat.le_of_ble_eq_true rfl) rfl (Nat.le_of_ble_eq_true rfl) (sk_69 _) rfl (by omega) (c_readVariables hE1 hA1 hlt) ?_
              rintro _ S2 ⟨x2, rfl, hf2, hr2, hv2⟩
              rw [← hV] at hr2 hv2
              have hE2 := rdE_fr hE1 hf2
              obtain ⟨hi2, hA2⟩ : V.2.1 ≤ m ∧ rA S2 K V.2.1 := by
                rcases hr2 with ⟨_, h1, h2⟩ | ⟨h1, _⟩
                · exact ⟨h1, h2⟩
                · exact absurd q3 h1
              have hv2 := hv2 q3
              refine sL (pc' := 56) (i := .istore 4) (ls' := [some (.ref 69), some (.int (iI ((d : Nat) : Int))), some (.int (iI ((a : Nat) : Int))), some (.int (iI ((K i : Nat) : Int))), some (.int (iI x2))]) rfl rfl ?_
              refine sL (pc' := 57) (i := .aload_n 0) rfl rfl ?_
              refine sKb (p := 59) rfl rfl ?_
              refine sCvQ (p := 62) (as := [_]) rfl rfl rfl rfl (by decide) (Nat.le_of_ble_eq_true rfl) rfl (Nat.le_of_ble_eq_true rfl) (sk_69 _) rfl (by omega) (c_expect hE2 hA2 (rdE_i hE2 hi2 (by omega) (by omega)) q4 (by decide)) ?_
              rintro _ S3 ⟨rfl, hh3, hf3⟩
              have hE3 := rdE_fr hE2 hf3
              refine sL (pc' := 63) (i := .aload_n 0) rfl rfl ?_
              refine sL (pc' := 64) (i := .iload_n 1) rfl rfl ?_
              refine sL (pc' := 65) (i := .iload_n 2) rfl rfl ?_
              refine sCvQ (p := 68) (as := [_, _]) rfl rfl rfl rfl (by decide) (Nat.le_of_ble_eq_true rfl) rfl (Nat.le_of_ble_eq_true rfl) (sk_69 _) rfl (by omega) (hs.1 S3 (V.2.1 + 1) a hE3 hh3 (rdE_i hE2 hi2 (by omega) (by omega)) (by omega)) ?_
              rintro _ S4 ⟨rfl, hf4, hr4, hv4⟩
              have hE4 := rdE_fr hE3 hf4
              obtain ⟨f4, hw4, he4⟩ := row_or hv4
              refine sL (pc' := 69) (i := .aload_n 0) rfl rfl ?_
              refine sL (pc' := 70) (i := .iload_n 2) rfl rfl ?_
              refine sL (pc' := 72) (i := .iload 4) rfl rfl ?_
              refine sL (pc' := 73) (i := .iload_n 3) rfl rfl ?_
              refine sKs (p := 76) rfl rfl ?_
              refine sIc_ne (p := 79) rfl rfl ⟨by omega, by omega⟩ ⟨by omega, by omega⟩ (fun c3 => ?_) (fun c3 => ?_)
              · have c3 := c3
                refine sL (pc' := 84) (i := .iconst 0) (st' := .int (iI (bI (decide (K i = 263)))) :: _) rfl (by rw [show decide (K i = 263) = false from decide_eq_false (by omega)]; rfl) ?_
                refine sCv (p := 87) (as := [_, _, _]) rfl rfl rfl rfl (by decide) (Nat.le_of_ble_eq_true rfl) rfl (Nat.le_of_ble_eq_true rfl) (sk_69 _) rfl (by omega) (c_bindAll hE4 (by omega) hw4) ?_
                refine sEn (i := .return_) rfl (rfl) ?_
                exact ⟨rfl, frR_trans (frR_le hf1 (by omega)) (frR_trans (frR_le hf2 (by omega)) (frR_trans (frR_le hf3 (by omega)) (frR_trans hf4 (frR_row (Nat.le_refl _) (by omega))))), hr4, fun z => by rw [← hv2, ← he4 z]; exact rowS_wRw _ _ _ _⟩
              · have c3 := c3
                refine sL (pc' := 80) (i := .iconst 1) (st' := .int (iI (bI (decide (K i = 263)))) :: _) rfl (by rw [show decide (K i = 263) = true from decide_eq_true (by omega)]; rfl) ?_
                refine sL (i := .goto 4) rfl rfl ?_
                refine sCv (p := 87) (as := [_, _, _]) rfl rfl rfl rfl (by decide) (Nat.le_of_ble_eq_true rfl) rfl (Nat.le_of_ble_eq_true rfl) (sk_69 _) rfl (by omega) (c_bindAll hE4 (by omega) hw4) ?_
                refine sEn (i := .return_) rfl (rfl) ?_
                exact ⟨rfl, frR_trans (frR_le hf1 (by omega)) (frR_trans (frR_le hf2 (by omega)) (frR_trans (frR_le hf3 (by omega)) (frR_trans hf4 (frR_row (Nat.le_refl _) (by omega))))), hr4, fun z => by rw [← hv2, ← he4 z]; exact rowS_wRw _ _ _ _⟩
            · exfalso; omega
          · exfalso; omega
        · rw [if_neg q4]
          refine sIni (ls := [some (.ref 69), some (.int (iI ((d : Nat) : Int))), some (.int (iI ((a : Nat) : Int))), none, none]) rfl ?_
          refine sL (pc' := 1) (i := .aload_n 0) rfl rfl ?_
          refine sGi (p := 4) rfl rfl (sk_69 _) rfl rfl rfl hA.2.1 ?_
          refine sL (pc' := 5) (i := .istore_n 3) (ls' := [some (.ref 69), some (.int (iI ((d : Nat) : Int))), some (.int (iI ((a : Nat) : Int))), some (.int (iI ((K i : Nat) : Int))), none]) rfl rfl ?_
          refine sL (pc' := 6) (i := .aload_n 0) rfl rfl ?_
          refine sCvQ (p := 9) (as := []) rfl rfl rfl rfl (by decide) (Nat.le_of_ble_eq_true rfl) rfl (Nat.le_of_ble_eq_true rfl) (sk_69 _) rfl (by omega) (c_advance hE hA hlt) ?_
          rintro _ S1 ⟨rfl, hA1, hf1⟩
          have hE1 := rdE_fr hE hf1
          refine sL (pc' := 10) (i := .iload_n 3) rfl rfl ?_
          refine sKb (p := 12) rfl rfl ?_
          refine sIc_ne (p := 15) rfl rfl ⟨by omega, by omega⟩ ⟨by omega, by omega⟩ (fun c1 => ?_) (fun c1 => ?_)
          · have c1 := c1
            refine sL (pc' := 30) (i := .iload_n 3) rfl rfl ?_
            refine sKb (p := 32) rfl rfl ?_
            refine sIc_ne (p := 35) rfl rfl ⟨by omega, by omega⟩ ⟨by omega, by omega⟩ (fun c2 => ?_) (fun c2 => ?_)
            · have c2 := c2
              refine sL (pc' := 51) (i := .aload_n 0) rfl rfl ?_
              refine sCvQ (p := 54) (as := []) rfl rfl rfl rfl (by decide) (Nat.le_of_ble_eq_true rfl) rfl (Nat.le_of_ble_eq_true rfl) (sk_69 _) rfl (by omega) (c_readVariables hE1 hA1 hlt) ?_
              rintro _ S2 ⟨x2, rfl, hf2, hr2, hv2⟩
              rw [← hV] at hr2 hv2
              have hE2 := rdE_fr hE1 hf2
              obtain ⟨hi2, hA2⟩ : V.2.1 ≤ m ∧ rA S2 K V.2.1 := by
                rcases hr2 with ⟨_, h1, h2⟩ | ⟨h1, _⟩
                · exact ⟨h1, h2⟩
                · exact absurd q3 h1
              refine sL (pc' := 56) (i := .istore 4) (ls' := [some (.ref 69), some (.int (iI ((d : Nat) : Int))), some (.int (iI ((a : Nat) : Int))), some (.int (iI ((K i : Nat) : Int))), some (.int (iI x2))]) rfl rfl ?_
              refine sL (pc' := 57) (i := .aload_n 0) rfl rfl ?_
              refine sKb (p := 59) rfl rfl ?_
              refine sCvQ (p := 62) (as := [_]) rfl rfl rfl rfl (by decide) (Nat.le_of_ble_eq_true rfl) rfl (Nat.le_of_ble_eq_true rfl) (sk_69 _) rfl (by omega) (c_expect_n hE2 hA2 hi2 q4 (by decide)) ?_
              rintro _ S3 ⟨rfl, hh3, hf3⟩
              have hE3 := rdE_fr hE2 hf3
              refine sL (pc' := 63) (i := .aload_n 0) rfl rfl ?_
              refine sL (pc' := 64) (i := .iload_n 1) rfl rfl ?_
              refine sL (pc' := 65) (i := .iload_n 2) rfl rfl ?_
              refine sCvQ (p := 68) (as := [_, _]) rfl rfl rfl rfl (by decide) (Nat.le_of_ble_eq_true rfl) rfl (Nat.le_of_ble_eq_true rfl) (sk_69 _) rfl (by omega) (hs.2 S3 _ _ a hE3 hh3 (by omega)) ?_
              rintro _ S4 ⟨rfl, hf4, hX4⟩
              have hE4 := rdE_fr hE3 hf4
              obtain ⟨f4, hw4⟩ := rowS_ex S4 (71 + a)
              refine sL (pc' := 69) (i := .aload_n 0) rfl rfl ?_
              refine sL (pc' := 70) (i := .iload_n 2) rfl rfl ?_
              refine sL (pc' := 72) (i := .iload 4) rfl rfl ?_
              refine sL (pc' := 73) (i := .iload_n 3) rfl rfl ?_
              refine sKs (p := 76) rfl rfl ?_
              refine sIc_ne (p := 79) rfl rfl ⟨by omega, by omega⟩ ⟨by omega, by omega⟩ (fun c3 => ?_) (fun c3 => ?_)
              · have c3 := c3
                refine sL (pc' := 84) (i := .iconst 0) (st' := .int (iI (bI (decide (K i = 263)))) :: _) rfl (by rw [show decide (K i = 263) = false from decide_eq_false (by omega)]; rfl) ?_
                refine sCv (p := 87) (as := [_, _, _]) rfl rfl rfl rfl (by decide) (Nat.le_of_ble_eq_true rfl) rfl (Nat.le_of_ble_eq_true rfl) (sk_69 _) rfl (by omega) (c_bindAll hE4 (by omega) hw4) ?_
                refine sEn (i := .return_) rfl (rfl) ?_
                exact ⟨rfl, frR_trans (frR_le hf1 (by omega)) (frR_trans (frR_le hf2 (by omega)) (frR_trans (frR_le hf3 (by omega)) (frR_trans hf4 (frR_row (Nat.le_refl _) (by omega))))), Or.inr ⟨rf_nz (K := K) (q := 2) (a := V.2.1) (by decide), hX4⟩, fun z => absurd z (rf_nz (K := K) (q := 2) (a := V.2.1) (by decide))⟩
              · have c3 := c3
                refine sL (pc' := 80) (i := .iconst 1) (st' := .int (iI (bI (decide (K i = 263)))) :: _) rfl (by rw [show decide (K i = 263) = true from decide_eq_true (by omega)]; rfl) ?_
                refine sL (i := .goto 4) rfl rfl ?_
                refine sCv (p := 87) (as := [_, _, _]) rfl rfl rfl rfl (by decide) (Nat.le_of_ble_eq_true rfl) rfl (Nat.le_of_ble_eq_true rfl) (sk_69 _) rfl (by omega) (c_bindAll hE4 (by omega) hw4) ?_
                refine sEn (i := .return_) rfl (rfl) ?_
                exact ⟨rfl, frR_trans (frR_le hf1 (by omega)) (frR_trans (frR_le hf2 (by omega)) (frR_trans (frR_le hf3 (by omega)) (frR_trans hf4 (frR_row (Nat.le_refl _) (by omega))))), Or.inr ⟨rf_nz (K := K) (q := 2) (a := V.2.1) (by decide), hX4⟩, fun z => absurd z (rf_nz (K := K) (q := 2) (a := V.2.1) (by decide))⟩
            · exfalso; omega
          · exfalso; omega
      · rw [if_pos q3]
        refine sIni (ls := [some (.ref 69), some (.int (iI ((d : Nat) : Int))), some (.int (iI ((a : Nat) : Int))), none, none]) rfl ?_
        refine sL (pc' := 1) (i := .aload_n 0) rfl rfl ?_
        refine sGi (p := 4) rfl rfl (sk_69 _) rfl rfl rfl hA.2.1 ?_
        refine sL (pc' := 5) (i := .istore_n 3) (ls' := [some (.ref 69), some (.int (iI ((d : Nat) : Int))), some (.int (iI ((a : Nat) : Int))), some (.int (iI ((K i : Nat) : Int))), none]) rfl rfl ?_
        refine sL (pc' := 6) (i := .aload_n 0) rfl rfl ?_
        refine sCvQ (p := 9) (as := []) rfl rfl rfl rfl (by decide) (Nat.le_of_ble_eq_true rfl) rfl (Nat.le_of_ble_eq_true rfl) (sk_69 _) rfl (by omega) (c_advance hE hA hlt) ?_
        rintro _ S1 ⟨rfl, hA1, hf1⟩
        have hE1 := rdE_fr hE hf1
        refine sL (pc' := 10) (i := .iload_n 3) rfl rfl ?_
        refine sKb (p := 12) rfl rfl ?_
        refine sIc_ne (p := 15) rfl rfl ⟨by omega, by omega⟩ ⟨by omega, by omega⟩ (fun c1 => ?_) (fun c1 => ?_)
        · have c1 := c1
          refine sL (pc' := 30) (i := .iload_n 3) rfl rfl ?_
          refine sKb (p := 32) rfl rfl ?_
          refine sIc_ne (p := 35) rfl rfl ⟨by omega, by omega⟩ ⟨by omega, by omega⟩ (fun c2 => ?_) (fun c2 => ?_)
          · have c2 := c2
            refine sL (pc' := 51) (i := .aload_n 0) rfl rfl ?_
            refine sCvQ (p := 54) (as := []) rfl rfl rfl rfl (by decide) (Nat.le_of_ble_eq_true rfl) rfl (Nat.le_of_ble_eq_true rfl) (sk_69 _) rfl (by omega) (c_readVariables hE1 hA1 hlt) ?_
            rintro _ S2 ⟨x2, rfl, hf2, hr2, hv2⟩
            rw [← hV] at hr2 hv2
            have hE2 := rdE_fr hE1 hf2
            have hX2 : rX S2 m V.1 (A V.2.1) := by
              rcases hr2 with ⟨h1, _⟩ | ⟨_, h1⟩
              · exact absurd h1 q3
              · exact h1
            refine sL (pc' := 56) (i := .istore 4) (ls' := [some (.ref 69), some (.int (iI ((d : Nat) : Int))), some (.int (iI ((a : Nat) : Int))), some (.int (iI ((K i : Nat) : Int))), some (.int (iI x2))]) rfl rfl ?_
            refine sL (pc' := 57) (i := .aload_n 0) rfl rfl ?_
            refine sKb (p := 59) rfl rfl ?_
            refine sCvQ (p := 62) (as := [_]) rfl rfl rfl rfl (by decide) (Nat.le_of_ble_eq_true rfl) rfl (Nat.le_of_ble_eq_true rfl) (sk_69 _) rfl (by omega) (c_expect_d hX2 (by decide)) ?_
            rintro _ S3 ⟨rfl, hh3, hf3⟩
            have hE3 := rdE_fr hE2 hf3
            refine sL (pc' := 63) (i := .aload_n 0) rfl rfl ?_
            refine sL (pc' := 64) (i := .iload_n 1) rfl rfl ?_
            refine sL (pc' := 65) (i := .iload_n 2) rfl rfl ?_
            refine sCvQ (p := 68) (as := [_, _]) rfl rfl rfl rfl (by decide) (Nat.le_of_ble_eq_true rfl) rfl (Nat.le_of_ble_eq_true rfl) (sk_69 _) rfl (by omega) (hs.2 S3 _ _ a hE3 hh3 (by omega)) ?_
            rintro _ S4 ⟨rfl, hf4, hX4⟩
            have hE4 := rdE_fr hE3 hf4
            obtain ⟨f4, hw4⟩ := rowS_ex S4 (71 + a)
            refine sL (pc' := 69) (i := .aload_n 0) rfl rfl ?_
            refine sL (pc' := 70) (i := .iload_n 2) rfl rfl ?_
            refine sL (pc' := 72) (i := .iload 4) rfl rfl ?_
            refine sL (pc' := 73) (i := .iload_n 3) rfl rfl ?_
            refine sKs (p := 76) rfl rfl ?_
            refine sIc_ne (p := 79) rfl rfl ⟨by omega, by omega⟩ ⟨by omega, by omega⟩ (fun c3 => ?_) (fun c3 => ?_)
            · have c3 := c3
              refine sL (pc' := 84) (i := .iconst 0) (st' := .int (iI (bI (decide (K i = 263)))) :: _) rfl (by rw [show decide (K i = 263) = false from decide_eq_false (by omega)]; rfl) ?_
              refine sCv (p := 87) (as := [_, _, _]) rfl rfl rfl rfl (by decide) (Nat.le_of_ble_eq_true rfl) rfl (Nat.le_of_ble_eq_true rfl) (sk_69 _) rfl (by omega) (c_bindAll hE4 (by omega) hw4) ?_
              refine sEn (i := .return_) rfl (rfl) ?_
              exact ⟨rfl, frR_trans (frR_le hf1 (by omega)) (frR_trans (frR_le hf2 (by omega)) (frR_trans (frR_le hf3 (by omega)) (frR_trans hf4 (frR_row (Nat.le_refl _) (by omega))))), Or.inr ⟨q3, hX4⟩, fun z => absurd z q3⟩
            · have c3 := c3
              refine sL (pc' := 80) (i := .iconst 1) (st' := .int (iI (bI (decide (K i = 263)))) :: _) rfl (by rw [show decide (K i = 263) = true from decide_eq_true (by omega)]; rfl) ?_
              refine sL (i := .goto 4) rfl rfl ?_
              refine sCv (p := 87) (as := [_, _, _]) rfl rfl rfl rfl (by decide) (Nat.le_of_ble_eq_true rfl) rfl (Nat.le_of_ble_eq_true rfl) (sk_69 _) rfl (by omega) (c_bindAll hE4 (by omega) hw4) ?_
              refine sEn (i := .return_) rfl (rfl) ?_
              exact ⟨rfl, frR_trans (frR_le hf1 (by omega)) (frR_trans (frR_le hf2 (by omega)) (frR_trans (frR_le hf3 (by omega)) (frR_trans hf4 (frR_row (Nat.le_refl _) (by omega))))), Or.inr ⟨q3, hX4⟩, fun z => absurd z q3⟩
          · exfalso; omega
        · exfalso; omega
end RN
