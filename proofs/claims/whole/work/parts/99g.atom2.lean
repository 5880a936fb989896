/-! ===== the class's reader: atoms ===== -/
section RG
variable {X : List Int32} {S : ST} {K A : Nat → Nat} {C : Nat → Int64} {m n fn dr : Nat} {sz : Nat → Nat} {Fn : Nat → Nat → Bool} {nm : Nat → Int64}
theorem c_readAtom {i a : Nat} (hE : rdE S K A C m n sz fn dr Fn nm) (hA : rA S K i) (hi : i ≤ m) (ha : a < 106) : sM X 3 98 [.ref 69, .int (iI ((a : Nat) : Int))] S (oQ K A m a (pAtm K C n sz i) S) := by
  have hm := hE.1.1
  have hK := hE.1.2.1
  have hwf := hE.2.2.2.1.1
  have hn10 := hwf.1
  unfold pAtm
  by_cases q0 : (pVar K C n i).1 = 0
  · have hpv := pVar_v q0
    rw [if_neg (fun z => z q0)]
    by_cases q1 : K (pVar K C n i).2.1 = 61
    · rw [if_pos q1]
      refine sIni (ls := [some (.ref 69), some (.int (iI ((a : Nat) : Int))), none, none, none]) rfl ?_
      refine sL (pc' := 1) (i := .aload_n 0) rfl rfl ?_
      refine sGi (p := 4) rfl rfl (sk_69 _) rfl rfl rfl hA.1 ?_
      refine sL (pc' := 5) (i := .istore_n 2) (ls' := [some (.ref 69), some (.int (iI ((a : Nat) : Int))), some (.int (iI ((i : Nat) : Int))), none, none]) rfl rfl ?_
      refine sL (pc' := 6) (i := .aload_n 0) rfl rfl ?_
      refine sCvQ (p := 9) (as := []) rfl rfl rfl rfl (by decide) (Nat.le_of_ble_eq_true rfl) rfl (Nat.le_of_ble_eq_true rfl) (sk_69 _) rfl (by omega) (c_readVariable hE hA hi) ?_
      rintro _ S1 ⟨x1, hx1, rfl, hf1, hr1, hv1⟩
      have hE1 := rdE_fr hE hf1
      have x11 := hx1.1
      have x12 := hx1.2
      obtain ⟨hi1, hA1⟩ : (pVar K C n i).2.1 ≤ m ∧ rA S1 K (pVar K C n i).2.1 := by
        rcases hr1 with ⟨_, h1, h2⟩ | ⟨h1, _⟩
        · exact ⟨h1, h2⟩
        · exact absurd q0 h1
      have hv1 := hv1 q0
      have hK1 := hK (pVar K C n i).2.1
      obtain ⟨v, hv9⟩ : ∃ v : Nat, (pVar K C n i).2.2 = ((v : Nat) : Int) := ⟨(pVar K C n i).2.2.toNat, by omega⟩
      rw [hv9] at hpv hv1 ⊢
      rw [show (((v : Nat) : Int)).toNat = v from rfl]
      subst hv1
      have hvn : v < n := by omega
      have hsv := hwf.2.1 v hvn
      have hlt1 := rdE_i hE1 hi1 (by omega) (by omega)
      refine sL (pc' := 10) (i := .istore_n 3) (ls' := [some (.ref 69), some (.int (iI ((a : Nat) : Int))), some (.int (iI ((i : Nat) : Int))), some (.int (iI ((v : Nat) : Int))), none]) rfl rfl ?_
      refine sKi (p := 11) rfl rfl ?_
      refine sL (pc' := 13) (i := .istore 4) (ls' := [some (.ref 69), some (.int (iI ((a : Nat) : Int))), some (.int (iI ((i : Nat) : Int))), some (.int (iI ((v : Nat) : Int))), some (.int (iI 1))]) rfl rfl ?_
      refine sL (pc' := 14) (i := .aload_n 0) rfl rfl ?_
      refine sGi (p := 17) rfl rfl (sk_69 _) rfl rfl rfl hA1.2.1 ?_
      refine sKb (p := 19) rfl rfl ?_
      refine sIc_ne (p := 22) rfl rfl ⟨by omega, by omega⟩ ⟨by omega, by omega⟩ (fun c1 => ?_) (fun c1 => ?_)
      · exfalso; omega
      · have c1 := c1
        refine sL (pc' := 23) (i := .aload_n 0) rfl rfl ?_
        refine sCvQ (p := 26) (as := []) rfl rfl rfl rfl (by decide) (Nat.le_of_ble_eq_true rfl) rfl (Nat.le_of_ble_eq_true rfl) (sk_69 _) rfl (by omega) (c_advance hE1 hA1 hlt1) ?_
        rintro _ S2 ⟨rfl, hA2, hf2⟩
        have hE2 := rdE_fr hE1 hf2
        refine sL (pc' := 27) (i := .aload_n 0) rfl rfl ?_
        refine sL (pc' := 28) (i := .iload_n 3) rfl rfl ?_
        refine sCvQ (p := 31) (as := [_]) rfl rfl rfl rfl (by decide) (Nat.le_of_ble_eq_true rfl) rfl (Nat.le_of_ble_eq_true rfl) (sk_69 _) rfl (by omega) (c_readValue hE2 hA2 hlt1 hvn) ?_
        rintro _ S3 ⟨x2, hx2, rfl, hf3, hr3, hv3⟩
        have hE3 := rdE_fr hE2 hf3
        refine sL (pc' := 33) (i := .istore 4) (ls' := [some (.ref 69), some (.int (iI ((a : Nat) : Int))), some (.int (iI ((i : Nat) : Int))), some (.int (iI ((v : Nat) : Int))), some (.int (iI x2))]) rfl rfl ?_
        refine sL (i := .goto 28) rfl rfl ?_
        refine sL (pc' := 62) (i := .aload_n 0) rfl rfl ?_
        refine sL (pc' := 63) (i := .iload_n 1) rfl rfl ?_
        refine sCv (p := 66) (as := [_]) rfl rfl rfl rfl (by decide) (Nat.le_of_ble_eq_true rfl) rfl (Nat.le_of_ble_eq_true rfl) (sk_69 _) rfl (by omega) (c_slot ha) ?_
        refine sKj0 (p := 67) rfl rfl rfl ?_
        refine sCs (p := 70) (as := [_, _]) rfl rfl rfl rfl (by decide) (Nat.le_of_ble_eq_true rfl) rfl (Nat.le_of_ble_eq_true rfl) rfl (by omega) (c_fill0 (sk_slots _ ha)) ?_
        refine sL (pc' := 71) (i := .aload_n 0) rfl rfl ?_
        refine sGc (p := 74) rfl rfl (sk_69 _) rfl rfl rfl ?_
        refine sL (pc' := 75) (i := .aload_n 0) rfl rfl ?_
        refine sL (pc' := 76) (i := .iload_n 1) rfl rfl ?_
        refine sCv (p := 79) (as := [_]) rfl rfl rfl rfl (by decide) (Nat.le_of_ble_eq_true rfl) rfl (Nat.le_of_ble_eq_true rfl) (sk_69 _) rfl (by omega) (c_slot ha) ?_
        refine sL (pc' := 80) (i := .iload_n 3) rfl rfl ?_
        refine sL (pc' := 82) (i := .iload 4) rfl rfl ?_
        refine sCv (p := 85) (as := [_, _, _]) rfl rfl rfl rfl (by decide) (Nat.le_of_ble_eq_true rfl) rfl (Nat.le_of_ble_eq_true rfl) (sk_7 _) rfl (by omega) (c_markValue (S := (wRw S3 (71 + a) 0 (fun _ => false))) (show vC (wRw S3 (71 + a) 0 (fun _ => false)) n sz from hE3.2.2.2.1) (sk_slots _ ha) (rowS_wRw _ _ _ _) ⟨by omega, by omega⟩ hx2) ?_
        refine sEn (i := .return_) rfl (rfl) ?_
        refine ⟨rfl, frR_trans (frR_le (frR_trans hf1 (frR_trans hf2 hf3)) (by omega)) (frR_trans (frR_row (Nat.le_refl _) ha) (frR_row (Nat.le_refl _) ha)), hr3, fun z => ?_⟩
        have hv3 := hv3 z
        rw [hv3]
        exact rowS_wRw _ _ _ _
    · rw [if_neg q1]
      refine sIni (ls := [some (.ref 69), some (.int (iI ((a : Nat) : Int))), none, none, none]) rfl ?_
      refine sL (pc' := 1) (i := .aload_n 0) rfl rfl ?_
      refine sGi (p := 4) rfl rfl (sk_69 _) rfl rfl rfl hA.1 ?_
      refine sL (pc' := 5) (i := .istore_n 2) (ls' := [some (.ref 69), some (.int (iI ((a : Nat) : Int))), some (.int (iI ((i : Nat) : Int))), none, none]) rfl rfl ?_
      refine sL (pc' := 6) (i := .aload_n 0) rfl rfl ?_
      refine sCvQ (p := 9) (as := []) rfl rfl rfl rfl (by decide) (Nat.le_of_ble_eq_true rfl) rfl (Nat.le_of_ble_eq_true rfl) (sk_69 _) rfl (by omega) (c_readVariable hE hA hi) ?_
      rintro _ S1 ⟨x1, hx1, rfl, hf1, hr1, hv1⟩
      have hE1 := rdE_fr hE hf1
      have x11 := hx1.1
      have x12 := hx1.2
      obtain ⟨hi1, hA1⟩ : (pVar K C n i).2.1 ≤ m ∧ rA S1 K (pVar K C n i).2.1 := by
        rcases hr1 with ⟨_, h1, h2⟩ | ⟨h1, _⟩
        · exact ⟨h1, h2⟩
        · exact absurd q0 h1
      have hv1 := hv1 q0
      have hK1 := hK (pVar K C n i).2.1
      obtain ⟨v, hv9⟩ : ∃ v : Nat, (pVar K C n i).2.2 = ((v : Nat) : Int) := ⟨(pVar K C n i).2.2.toNat, by omega⟩
      rw [hv9] at hpv hv1 ⊢
      rw [show (((v : Nat) : Int)).toNat = v from rfl]
      subst hv1
      have hvn : v < n := by omega
      have hsv := hwf.2.1 v hvn
      refine sL (pc' := 10) (i := .istore_n 3) (ls' := [some (.ref 69), some (.int (iI ((a : Nat) : Int))), some (.int (iI ((i : Nat) : Int))), some (.int (iI ((v : Nat) : Int))), none]) rfl rfl ?_
      refine sKi (p := 11) rfl rfl ?_
      refine sL (pc' := 13) (i := .istore 4) (ls' := [some (.ref 69), some (.int (iI ((a : Nat) : Int))), some (.int (iI ((i : Nat) : Int))), some (.int (iI ((v : Nat) : Int))), some (.int (iI 1))]) rfl rfl ?_
      refine sL (pc' := 14) (i := .aload_n 0) rfl rfl ?_
      refine sGi (p := 17) rfl rfl (sk_69 _) rfl rfl rfl hA1.2.1 ?_
      refine sKb (p := 19) rfl rfl ?_
      refine sIc_ne (p := 22) rfl rfl ⟨by omega, by omega⟩ ⟨by omega, by omega⟩ (fun c1 => ?_) (fun c1 => ?_)
      · have c1 := c1
        refine sL (pc' := 37) (i := .aload_n 0) rfl rfl ?_
        refine sGi (p := 40) rfl rfl (sk_69 _) rfl rfl rfl hA1.2.2 ?_
        refine sIf_ne (p := 43) rfl rfl ⟨by omega, by omega⟩ (fun c2 => ?_) (fun c2 => ?_)
        · exact absurd c2 (by decide)
        · have c2 := c2
          refine sL (pc' := 44) (i := .aload_n 0) rfl rfl ?_
          refine sGc (p := 47) rfl rfl (sk_69 _) rfl rfl rfl ?_
          refine sL (pc' := 48) (i := .iload_n 3) rfl rfl ?_
          refine sCv (p := 51) (as := [_]) rfl rfl rfl rfl (by decide) (Nat.le_of_ble_eq_true rfl) rfl (Nat.le_of_ble_eq_true rfl) (sk_1 _) rfl (by omega) (c_siz hE1.2.2.2.1 hvn) ?_
          refine sKi (p := 52) rfl rfl ?_
          refine sIc_eq (p := 55) rfl rfl ⟨by omega, by omega⟩ ⟨by omega, by omega⟩ (fun c3 => ?_) (fun c3 => ?_)
          · have c3 := c3
            refine sL (pc' := 62) (i := .aload_n 0) rfl rfl ?_
            refine sL (pc' := 63) (i := .iload_n 1) rfl rfl ?_
            refine sCv (p := 66) (as := [_]) rfl rfl rfl rfl (by decide) (Nat.le_of_ble_eq_true rfl) rfl (Nat.le_of_ble_eq_true rfl) (sk_69 _) rfl (by omega) (c_slot ha) ?_
            refine sKj0 (p := 67) rfl rfl rfl ?_
            refine sCs (p := 70) (as := [_, _]) rfl rfl rfl rfl (by decide) (Nat.le_of_ble_eq_true rfl) rfl (Nat.le_of_ble_eq_true rfl) rfl (by omega) (c_fill0 (sk_slots _ ha)) ?_
            refine sL (pc' := 71) (i := .aload_n 0) rfl rfl ?_
            refine sGc (p := 74) rfl rfl (sk_69 _) rfl rfl rfl ?_
            refine sL (pc' := 75) (i := .aload_n 0) rfl rfl ?_
            refine sL (pc' := 76) (i := .iload_n 1) rfl rfl ?_
            refine sCv (p := 79) (as := [_]) rfl rfl rfl rfl (by decide) (Nat.le_of_ble_eq_true rfl) rfl (Nat.le_of_ble_eq_true rfl) (sk_69 _) rfl (by omega) (c_slot ha) ?_
            refine sL (pc' := 80) (i := .iload_n 3) rfl rfl ?_
            refine sL (pc' := 82) (i := .iload 4) rfl rfl ?_
            refine sCv (p := 85) (as := [_, _, _]) rfl rfl rfl rfl (by decide) (Nat.le_of_ble_eq_true rfl) rfl (Nat.le_of_ble_eq_true rfl) (sk_7 _) rfl (by omega) (c_markValue (S := (wRw S1 (71 + a) 0 (fun _ => false))) (show vC (wRw S1 (71 + a) 0 (fun _ => false)) n sz from hE1.2.2.2.1) (sk_slots _ ha) (rowS_wRw _ _ _ _) ⟨by omega, by omega⟩ ⟨by decide, by decide⟩) ?_
            refine sEn (i := .return_) rfl (rfl) ?_
            rw [if_neg (by omega)]
            exact ⟨rfl, frR_trans (frR_le hf1 (by omega)) (frR_trans (frR_row (Nat.le_refl _) ha) (frR_row (Nat.le_refl _) ha)), Or.inl ⟨rfl, hi1, hA1⟩, fun _ => rowS_wRw _ _ _ _⟩
          · have c3 := c3
            refine sL (pc' := 56) (i := .aload_n 0) rfl rfl ?_
            refine sKi (p := 57) rfl rfl ?_
            refine sL (pc' := 58) (i := .iload_n 2) rfl rfl ?_
            refine sCvQ (p := 61) (as := [_, _]) rfl rfl rfl rfl (by decide) (Nat.le_of_ble_eq_true rfl) rfl (Nat.le_of_ble_eq_true rfl) (sk_69 _) rfl (by omega) (c_refuse hE1 hA1 hi1 hi ⟨by decide, by decide⟩) ?_
            rintro _ S2 ⟨rfl, hX2, hf2⟩
            have hE2 := rdE_fr hE1 hf2
            refine sL (pc' := 62) (i := .aload_n 0) rfl rfl ?_
            refine sL (pc' := 63) (i := .iload_n 1) rfl rfl ?_
            refine sCv (p := 66) (as := [_]) rfl rfl rfl rfl (by decide) (Nat.le_of_ble_eq_true rfl) rfl (Nat.le_of_ble_eq_true rfl) (sk_69 _) rfl (by omega) (c_slot ha) ?_
            refine sKj0 (p := 67) rfl rfl rfl ?_
            refine sCs (p := 70) (as := [_, _]) rfl rfl rfl rfl (by decide) (Nat.le_of_ble_eq_true rfl) rfl (Nat.le_of_ble_eq_true rfl) rfl (by omega) (c_fill0 (sk_slots _ ha)) ?_
            refine sL (pc' := 71) (i := .aload_n 0) rfl rfl ?_
            refine sGc (p := 74) rfl rfl (sk_69 _) rfl rfl rfl ?_
            refine sL (pc' := 75) (i := .aload_n 0) rfl rfl ?_
            refine sL (pc' := 76) (i := .iload_n 1) rfl rfl ?_
            refine sCv (p := 79) (as := [_]) rfl rfl rfl rfl (by decide) (Nat.le_of_ble_eq_true rfl) rfl (Nat.le_of_ble_eq_true rfl) (sk_69 _) rfl (by omega) (c_slot ha) ?_
            refine sL (pc' := 80) (i := .iload_n 3) rfl rfl ?_
            refine sL (pc' := 82) (i := .iload 4) rfl rfl ?_
            refine sCv (p := 85) (as := [_, _, _]) rfl rfl rfl rfl (by decide) (Nat.le_of_ble_eq_true rfl) rfl (Nat.le_of_ble_eq_true rfl) (sk_7 _) rfl (by omega) (c_markValue (S := (wRw S2 (71 + a) 0 (fun _ => false))) (show vC (wRw S2 (71 + a) 0 (fun _ => false)) n sz from hE2.2.2.2.1) (sk_slots _ ha) (rowS_wRw _ _ _ _) ⟨by omega, by omega⟩ ⟨by decide, by decide⟩) ?_
            refine sEn (i := .return_) rfl (rfl) ?_
            rw [if_pos (by omega)]
            exact ⟨rfl, frR_trans (frR_le (frR_trans hf1 hf2) (by omega)) (frR_trans (frR_row (Nat.le_refl _) ha) (frR_row (Nat.le_refl _) ha)), Or.inr ⟨(show (4 : Nat) ≠ 0 by decide), by rw [show rf K 4 i = 4 from if_neg (by omega)] at hX2; exact hX2⟩, fun z => by cases z⟩
      · exfalso; omega
  · rw [if_pos q0]
    refine sIni (ls := [some (.ref 69), some (.int (iI ((a : Nat) : Int))), none, none, none]) rfl ?_
    refine sL (pc' := 1) (i := .aload_n 0) rfl rfl ?_
    refine sGi (p := 4) rfl rfl (sk_69 _) rfl rfl rfl hA.1 ?_
    refine sL (pc' := 5) (i := .istore_n 2) (ls' := [some (.ref 69), some (.int (iI ((a : Nat) : Int))), some (.int (iI ((i : Nat) : Int))), none, none]) rfl rfl ?_
    refine sL (pc' := 6) (i := .aload_n 0) rfl rfl ?_
    refine sCvQ (p := 9) (as := []) rfl rfl rfl rfl (by decide) (Nat.le_of_ble_eq_true rfl) rfl (Nat.le_of_ble_eq_true rfl) (sk_69 _) rfl (by omega) (c_readVariable hE hA hi) ?_
    rintro _ S1 ⟨x1, hx1, rfl, hf1, hr1, hv1⟩
    have hE1 := rdE_fr hE hf1
    have x11 := hx1.1
    have x12 := hx1.2
    have hX1 : rX S1 m (pVar K C n i).1 (A (pVar K C n i).2.1) := by
      rcases hr1 with ⟨h1, _⟩ | ⟨_, h1⟩
      · exact absurd h1 q0
      · exact h1
    have hk1 := hX1.2.2.2.1
    refine sL (pc' := 10) (i := .istore_n 3) (ls' := [some (.ref 69), some (.int (iI ((a : Nat) : Int))), some (.int (iI ((i : Nat) : Int))), some (.int (iI x1)), none]) rfl rfl ?_
    refine sKi (p := 11) rfl rfl ?_
    refine sL (pc' := 13) (i := .istore 4) (ls' := [some (.ref 69), some (.int (iI ((a : Nat) : Int))), some (.int (iI ((i : Nat) : Int))), some (.int (iI x1)), some (.int (iI 1))]) rfl rfl ?_
    refine sL (pc' := 14) (i := .aload_n 0) rfl rfl ?_
    refine sGi (p := 17) rfl rfl (sk_69 _) rfl rfl rfl hX1.2.1 ?_
    refine sKb (p := 19) rfl rfl ?_
    refine sIc_ne (p := 22) rfl rfl ⟨by omega, by omega⟩ ⟨by omega, by omega⟩ (fun c1 => ?_) (fun c1 => ?_)
    · have c1 := c1
      refine sL (pc' := 37) (i := .aload_n 0) rfl rfl ?_
      refine sGi (p := 40) rfl rfl (sk_69 _) rfl rfl rfl hX1.2.2.1 ?_
      refine sIf_ne (p := 43) rfl rfl ⟨by omega, by omega⟩ (fun c2 => ?_) (fun c2 => ?_)
      · have c2 := c2
        refine sL (pc' := 62) (i := .aload_n 0) rfl rfl ?_
        refine sL (pc' := 63) (i := .iload_n 1) rfl rfl ?_
        refine sCv (p := 66) (as := [_]) rfl rfl rfl rfl (by decide) (Nat.le_of_ble_eq_true rfl) rfl (Nat.le_of_ble_eq_true rfl) (sk_69 _) rfl (by omega) (c_slot ha) ?_
        refine sKj0 (p := 67) rfl rfl rfl ?_
        refine sCs (p := 70) (as := [_, _]) rfl rfl rfl rfl (by decide) (Nat.le_of_ble_eq_true rfl) rfl (Nat.le_of_ble_eq_true rfl) rfl (by omega) (c_fill0 (sk_slots _ ha)) ?_
        refine sL (pc' := 71) (i := .aload_n 0) rfl rfl ?_
        refine sGc (p := 74) rfl rfl (sk_69 _) rfl rfl rfl ?_
        refine sL (pc' := 75) (i := .aload_n 0) rfl rfl ?_
        refine sL (pc' := 76) (i := .iload_n 1) rfl rfl ?_
        refine sCv (p := 79) (as := [_]) rfl rfl rfl rfl (by decide) (Nat.le_of_ble_eq_true rfl) rfl (Nat.le_of_ble_eq_true rfl) (sk_69 _) rfl (by omega) (c_slot ha) ?_
        refine sL (pc' := 80) (i := .iload_n 3) rfl rfl ?_
        refine sL (pc' := 82) (i := .iload 4) rfl rfl ?_
        refine sCv (p := 85) (as := [_, _, _]) rfl rfl rfl rfl (by decide) (Nat.le_of_ble_eq_true rfl) rfl (Nat.le_of_ble_eq_true rfl) (sk_7 _) rfl (by omega) (c_markValue (S := (wRw S1 (71 + a) 0 (fun _ => false))) (show vC (wRw S1 (71 + a) 0 (fun _ => false)) n sz from hE1.2.2.2.1) (sk_slots _ ha) (rowS_wRw _ _ _ _) ⟨by omega, by omega⟩ ⟨by decide, by decide⟩) ?_
        refine sEn (i := .return_) rfl (rfl) ?_
        exact ⟨rfl, frR_trans (frR_le hf1 (by omega)) (frR_trans (frR_row (Nat.le_refl _) ha) (frR_row (Nat.le_refl _) ha)), Or.inr ⟨q0, hX1⟩, fun z => absurd z q0⟩
      · exfalso; omega
    · exact absurd c1 (by decide)
end RG
