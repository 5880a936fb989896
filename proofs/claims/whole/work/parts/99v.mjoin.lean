/-! ===== the reference's reading: joinTop ===== -/
section MJ
variable {X : List Int32} {S : ST} {n : Nat} {sz : Nat → Nat} {q : Nat} {f g : Nat → Bool}
theorem m_joinTop_38 (hv : vM S n sz) (ht : SI S 179 30 = ((q + 2 : Nat) : Int)) (hq : q + 2 ≤ 220) (hf : rowS S 192 (16 * q) f) (hg : rowS S 192 (16 * q + 16) g) : sM X 1 201 [.ref 179, .int (iI 38)] S (sV none (wI (wRw S 192 (16 * q) (fun r => jn 0 (f r) (g r) && decide (r < pr sz n))) 179 30 ((q + 1 : Nat) : Int))) := by
  refine sIni (ls := [some (.ref 179), some (.int (iI 38)), none, none, none]) rfl ?_
  refine sKb (p := 2) rfl rfl ?_
  refine sL (pc' := 3) (i := .aload_n 0) rfl rfl ?_
  refine sGi (p := 6) rfl rfl (sk_179 _) rfl rfl rfl ht ?_
  refine sKi (p := 7) rfl rfl ?_
  refine sSb (p := 8) rfl rfl ?_
  rw [show (((q + 2 : Nat) : Int) - 2) = ((q : Nat) : Int) from by omega]
  refine sMu (p := 9) rfl rfl ?_
  refine sL (pc' := 10) (i := .istore_n 2) (ls' := [some (.ref 179), some (.int (iI 38)), some (.int (iI (16 * ((q : Nat) : Int)))), none, none]) rfl rfl ?_
  refine sL (pc' := 11) (i := .iload_n 1) rfl rfl ?_
  refine sKb (p := 13) rfl rfl ?_
  refine sIc_ne (p := 16) rfl rfl ⟨by omega, by omega⟩ ⟨by omega, by omega⟩ (fun c1 => ?_) (fun c1 => ?_)
  · exact absurd c1 (by decide)
  · have c1 := c1
    refine sKi (p := 17) rfl rfl ?_
    refine sL (i := .goto 35) rfl rfl ?_
    refine sL (pc' := 53) (i := .istore_n 3) (ls' := [some (.ref 179), some (.int (iI 38)), some (.int (iI (16 * ((q : Nat) : Int)))), some (.int (iI 0)), none]) rfl rfl ?_
    refine sKi (p := 54) rfl rfl ?_
    refine sL (pc' := 56) (i := .istore 4) (ls' := [some (.ref 179), some (.int (iI 38)), some (.int (iI (16 * ((q : Nat) : Int)))), some (.int (iI 0)), some (.int (iI 0))]) rfl rfl ?_
    refine sSh (T := (wKw S 192 (16 * q) 0 (fun r => jn 0 (f r) (g r)))) (congrArg sH (wKw_0 _ _ _ _).symm) ?_
    refine sIt (A := fun i => [some (.ref 179), some (.int (iI 38)), some (.int (iI (16 * ((q : Nat) : Int)))), some (.int (iI 0)), some (.int (iI ((i : Nat) : Int)))]) (B := fun i => (wKw S 192 (16 * q) i (fun r => jn 0 (f r) (g r)))) (fun _ => True) 16 True.intro (fun i hi56 hI56 ih56 => ?_) (fun hI56 => ?_)
    · have hi56 := hi56
      refine sL (pc' := 58) (i := .iload 4) rfl rfl ?_
      refine sKb (p := 60) rfl rfl ?_
      refine sIc_ge (p := 63) rfl rfl ⟨by omega, by omega⟩ ⟨by omega, by omega⟩ (fun c2 => ?_) (fun c2 => ?_)
      · exfalso; omega
      · have c2 := c2
        refine sL (pc' := 64) (i := .aload_n 0) rfl rfl ?_
        refine sGc (p := 67) rfl rfl (sk_179 _) rfl rfl rfl ?_
        refine sL (pc' := 68) (i := .iload_n 2) rfl rfl ?_
        refine sL (pc' := 70) (i := .iload 4) rfl rfl ?_
        refine sAd (p := 71) rfl rfl ?_
        refine sL (pc' := 72) (i := .iload_n 3) rfl rfl ?_
        refine sL (pc' := 73) (i := .aload_n 0) rfl rfl ?_
        refine sGc (p := 76) rfl rfl (sk_179 _) rfl rfl rfl ?_
        refine sL (pc' := 77) (i := .iload_n 2) rfl rfl ?_
        refine sL (pc' := 79) (i := .iload 4) rfl rfl ?_
        refine sAd (p := 80) rfl rfl ?_
        refine sAl (p := 81) (i := (16 * q) + i) rfl rfl (sk_192 _) (by omega) ⟨by omega, by omega⟩ (wKw_ss hf hi56) ?_
        refine sL (pc' := 82) (i := .aload_n 0) rfl rfl ?_
        refine sGc (p := 85) rfl rfl (sk_179 _) rfl rfl rfl ?_
        refine sL (pc' := 86) (i := .iload_n 2) rfl rfl ?_
        refine sKb (p := 88) rfl rfl ?_
        refine sAd (p := 89) rfl rfl ?_
        refine sL (pc' := 91) (i := .iload 4) rfl rfl ?_
        refine sAd (p := 92) rfl rfl ?_
        refine sAl (p := 93) (i := ((16 * q) + 16) + i) rfl rfl (sk_192 _) (by omega) ⟨by omega, by omega⟩ (wKw_r (o2 := 16 * q + 16) hg hi56 (Or.inr (Or.inr (Or.inl (by omega)))) (by omega)) ?_
        refine sCs (p := 96) (as := [_, _, _]) rfl rfl rfl rfl (by decide) (Nat.le_of_ble_eq_true rfl) rfl (Nat.le_of_ble_eq_true rfl) rfl (by omega) (m_joined (op := 0) (by omega)) ?_
        refine sWl (p := 97) (i := (16 * q) + i) rfl rfl (sk_192 _) (by omega) ⟨by omega, by omega⟩ ?_
        refine sInX (z := ((i : Nat) : Int)) (ls' := [some (.ref 179), some (.int (iI 38)), some (.int (iI (16 * ((q : Nat) : Int)))), some (.int (iI 0)), some (.int (iI (((i : Nat) : Int) + 1)))]) (p := 100) rfl rfl (Nat.le_of_ble_eq_true rfl) rfl rfl ?_
        refine sL (i := .goto (-44)) rfl rfl ?_
        refine sRo (ls := [some (.ref 179), some (.int (iI 38)), some (.int (iI (16 * ((q : Nat) : Int)))), some (.int (iI 0)), some (.int (iI ((i + 1 : Nat) : Int)))]) (T := (wKw S 192 (16 * q) (i + 1) (fun r => jn 0 (f r) (g r)))) (And.intro rfl (And.intro rfl (And.intro rfl (And.intro rfl (And.intro rfl (True.intro)))))) (congrArg sH (wKw_s (by omega) (jw_pkw _ _ _ _))) (ih56 ?_)
        exact True.intro
    · have hI56 := hI56
      refine sL (pc' := 58) (i := .iload 4) rfl rfl ?_
      refine sKb (p := 60) rfl rfl ?_
      refine sIc_ge (p := 63) rfl rfl ⟨by omega, by omega⟩ ⟨by omega, by omega⟩ (fun c3 => ?_) (fun c3 => ?_)
      · have c3 := c3
        refine sL (pc' := 104) (i := .aload_n 0) rfl rfl ?_
        refine sL (pc' := 105) (i := .aload_n 0) rfl rfl ?_
        refine sGc (p := 108) rfl rfl (sk_179 _) rfl rfl rfl ?_
        refine sL (pc' := 109) (i := .iload_n 2) rfl rfl ?_
        refine sCv (p := 112) (as := [_, _]) rfl rfl rfl rfl (by decide) (Nat.le_of_ble_eq_true rfl) rfl (Nat.le_of_ble_eq_true rfl) (sk_179 _) rfl (by omega) (m_trim (o := 16 * q) hv (sk_192 _) ⟨by omega, by omega⟩ (rowS_wRw S 192 (16 * q) (fun r => jn 0 (f r) (g r)))) ?_
        refine sL (pc' := 113) (i := .aload_n 0) rfl rfl ?_
        refine sL (pc' := 114) (i := .dup) rfl rfl ?_
        refine sGi (p := 117) rfl rfl (sk_179 _) rfl rfl rfl ht ?_
        refine sKi (p := 118) rfl rfl ?_
        refine sSb (p := 119) rfl rfl ?_
        refine sPi (z := (((q + 2 : Nat) : Int) - 1)) (p := 122) rfl rfl (sk_179 _) rfl rfl rfl rfl ?_
        refine sEn (i := .return_) rfl (rfl) ?_
        refine ⟨rfl, congrArg sH ?_⟩
        rw [show (((q + 2 : Nat) : Int) - 1) = ((q + 1 : Nat) : Int) from by omega]
        exact congrArg (fun T => wI T 179 30 ((q + 1 : Nat) : Int)) (wRw_wRw S 192 (16 * q) _ _)
      · exact absurd c3 (by decide)
theorem m_joinTop_124 (hv : vM S n sz) (ht : SI S 179 30 = ((q + 2 : Nat) : Int)) (hq : q + 2 ≤ 220) (hf : rowS S 192 (16 * q) f) (hg : rowS S 192 (16 * q + 16) g) : sM X 1 201 [.ref 179, .int (iI 124)] S (sV none (wI (wRw S 192 (16 * q) (fun r => jn 1 (f r) (g r) && decide (r < pr sz n))) 179 30 ((q + 1 : Nat) : Int))) := by
  refine sIni (ls := [some (.ref 179), some (.int (iI 124)), none, none, none]) rfl ?_
  refine sKb (p := 2) rfl rfl ?_
  refine sL (pc' := 3) (i := .aload_n 0) rfl rfl ?_
  refine sGi (p := 6) rfl rfl (sk_179 _) rfl rfl rfl ht ?_
  refine sKi (p := 7) rfl rfl ?_
  refine sSb (p := 8) rfl rfl ?_
  rw [show (((q + 2 : Nat) : Int) - 2) = ((q : Nat) : Int) from by omega]
  refine sMu (p := 9) rfl rfl ?_
  refine sL (pc' := 10) (i := .istore_n 2) (ls' := [some (.ref 179), some (.int (iI 124)), some (.int (iI (16 * ((q : Nat) : Int)))), none, none]) rfl rfl ?_
  refine sL (pc' := 11) (i := .iload_n 1) rfl rfl ?_
  refine sKb (p := 13) rfl rfl ?_
  refine sIc_ne (p := 16) rfl rfl ⟨by omega, by omega⟩ ⟨by omega, by omega⟩ (fun c1 => ?_) (fun c1 => ?_)
  · have c1 := c1
    refine sL (pc' := 21) (i := .iload_n 1) rfl rfl ?_
    refine sKb (p := 23) rfl rfl ?_
    refine sIc_ne (p := 26) rfl rfl ⟨by omega, by omega⟩ ⟨by omega, by omega⟩ (fun c2 => ?_) (fun c2 => ?_)
    · exact absurd c2 (by decide)
    · have c2 := c2
      refine sKi (p := 27) rfl rfl ?_
      refine sL (i := .goto 25) rfl rfl ?_
      refine sL (pc' := 53) (i := .istore_n 3) (ls' := [some (.ref 179), some (.int (iI 124)), some (.int (iI (16 * ((q : Nat) : Int)))), some (.int (iI 1)), none]) rfl rfl ?_
      refine sKi (p := 54) rfl rfl ?_
      refine sL (pc' := 56) (i := .istore 4) (ls' := [some (.ref 179), some (.int (iI 124)), some (.int (iI (16 * ((q : Nat) : Int)))), some (.int (iI 1)), some (.int (iI 0))]) rfl rfl ?_
      refine sSh (T := (wKw S 192 (16 * q) 0 (fun r => jn 1 (f r) (g r)))) (congrArg sH (wKw_0 _ _ _ _).symm) ?_
      refine sIt (A := fun i => [some (.ref 179), some (.int (iI 124)), some (.int (iI (16 * ((q : Nat) : Int)))), some (.int (iI 1)), some (.int (iI ((i : Nat) : Int)))]) (B := fun i => (wKw S 192 (16 * q) i (fun r => jn 1 (f r) (g r)))) (fun _ => True) 16 True.intro (fun i hi56 hI56 ih56 => ?_) (fun hI56 => ?_)
      · have hi56 := hi56
        refine sL (pc' := 58) (i := .iload 4) rfl rfl ?_
        refine sKb (p := 60) rfl rfl ?_
        refine sIc_ge (p := 63) rfl rfl ⟨by omega, by omega⟩ ⟨by omega, by omega⟩ (fun c3 => ?_) (fun c3 => ?_)
        · exfalso; omega
        · have c3 := c3
          refine sL (pc' := 64) (i := .aload_n 0) rfl rfl ?_
          refine sGc (p := 67) rfl rfl (sk_179 _) rfl rfl rfl ?_
          refine sL (pc' := 68) (i := .iload_n 2) rfl rfl ?_
          refine sL (pc' := 70) (i := .iload 4) rfl rfl ?_
          refine sAd (p := 71) rfl rfl ?_
          refine sL (pc' := 72) (i := .iload_n 3) rfl rfl ?_
          refine sL (pc' := 73) (i := .aload_n 0) rfl rfl ?_
          refine sGc (p := 76) rfl rfl (sk_179 _) rfl rfl rfl ?_
          refine sL (pc' := 77) (i := .iload_n 2) rfl rfl ?_
          refine sL (pc' := 79) (i := .iload 4) rfl rfl ?_
          refine sAd (p := 80) rfl rfl ?_
          refine sAl (p := 81) (i := (16 * q) + i) rfl rfl (sk_192 _) (by omega) ⟨by omega, by omega⟩ (wKw_ss hf hi56) ?_
          refine sL (pc' := 82) (i := .aload_n 0) rfl rfl ?_
          refine sGc (p := 85) rfl rfl (sk_179 _) rfl rfl rfl ?_
          refine sL (pc' := 86) (i := .iload_n 2) rfl rfl ?_
          refine sKb (p := 88) rfl rfl ?_
          refine sAd (p := 89) rfl rfl ?_
          refine sL (pc' := 91) (i := .iload 4) rfl rfl ?_
          refine sAd (p := 92) rfl rfl ?_
          refine sAl (p := 93) (i := ((16 * q) + 16) + i) rfl rfl (sk_192 _) (by omega) ⟨by omega, by omega⟩ (wKw_r (o2 := 16 * q + 16) hg hi56 (Or.inr (Or.inr (Or.inl (by omega)))) (by omega)) ?_
          refine sCs (p := 96) (as := [_, _, _]) rfl rfl rfl rfl (by decide) (Nat.le_of_ble_eq_true rfl) rfl (Nat.le_of_ble_eq_true rfl) rfl (by omega) (m_joined (op := 1) (by omega)) ?_
          refine sWl (p := 97) (i := (16 * q) + i) rfl rfl (sk_192 _) (by omega) ⟨by omega, by omega⟩ ?_
          refine sInX (z := ((i : Nat) : Int)) (ls' := [some (.ref 179), some (.int (iI 124)), some (.int (iI (16 * ((q : Nat) : Int)))), some (.int (iI 1)), some (.int (iI (((i : Nat) : Int) + 1)))]) (p := 100) rfl rfl (Nat.le_of_ble_eq_true rfl) rfl rfl ?_
          refine sL (i := .goto (-44)) rfl rfl ?_
          refine sRo (ls := [some (.ref 179), some (.int (iI 124)), some (.int (iI (16 * ((q : Nat) : Int)))), some (.int (iI 1)), some (.int (iI ((i + 1 : Nat) : Int)))]) (T := (wKw S 192 (16 * q) (i + 1) (fun r => jn 1 (f r) (g r)))) (And.intro rfl (And.intro rfl (And.intro rfl (And.intro rfl (And.intro rfl (True.intro)))))) (congrArg sH (wKw_s (by omega) (jw_pkw _ _ _ _))) (ih56 ?_)
          exact True.intro
      · have hI56 := hI56
        refine sL (pc' := 58) (i := .iload 4) rfl rfl ?_
        refine sKb (p := 60) rfl rfl ?_
        refine sIc_ge (p := 63) rfl rfl ⟨by omega, by omega⟩ ⟨by omega, by omega⟩ (fun c4 => ?_) (fun c4 => ?_)
        · have c4 := c4
          refine sL (pc' := 104) (i := .aload_n 0) rfl rfl ?_
          refine sL (pc' := 105) (i := .aload_n 0) rfl rfl ?_
          refine sGc (p := 108) rfl rfl (sk_179 _) rfl rfl rfl ?_
          refine sL (pc' := 109) (i := .iload_n 2) rfl rfl ?_
          refine sCv (p := 112) (as := [_, _]) rfl rfl rfl rfl (by decide) (Nat.le_of_ble_eq_true rfl) rfl (Nat.le_of_ble_eq_true rfl) (sk_179 _) rfl (by omega) (m_trim (o := 16 * q) hv (sk_192 _) ⟨by omega, by omega⟩ (rowS_wRw S 192 (16 * q) (fun r => jn 1 (f r) (g r)))) ?_
          refine sL (pc' := 113) (i := .aload_n 0) rfl rfl ?_
          refine sL (pc' := 114) (i := .dup) rfl rfl ?_
          refine sGi (p := 117) rfl rfl (sk_179 _) rfl rfl rfl ht ?_
          refine sKi (p := 118) rfl rfl ?_
          refine sSb (p := 119) rfl rfl ?_
          refine sPi (z := (((q + 2 : Nat) : Int) - 1)) (p := 122) rfl rfl (sk_179 _) rfl rfl rfl rfl ?_
          refine sEn (i := .return_) rfl (rfl) ?_
          refine ⟨rfl, congrArg sH ?_⟩
          rw [show (((q + 2 : Nat) : Int) - 1) = ((q + 1 : Nat) : Int) from by omega]
          exact congrArg (fun T => wI T 179 30 ((q + 1 : Nat) : Int)) (wRw_wRw S 192 (16 * q) _ _)
        · exact absurd c4 (by decide)
  · exact absurd c1 (by decide)
theorem m_joinTop_94 (hv : vM S n sz) (ht : SI S 179 30 = ((q + 2 : Nat) : Int)) (hq : q + 2 ≤ 220) (hf : rowS S 192 (16 * q) f) (hg : rowS S 192 (16 * q + 16) g) : sM X 1 201 [.ref 179, .int (iI 94)] S (sV none (wI (wRw S 192 (16 * q) (fun r => jn 2 (f r) (g r) && decide (r < pr sz n))) 179 30 ((q + 1 : Nat) : Int))) := by
  refine sIni (ls := [some (.ref 179), some (.int (iI 94)), none, none, none]) rfl ?_
  refine sKb (p := 2) rfl rfl ?_
  refine sL (pc' := 3) (i := .aload_n 0) rfl rfl ?_
  refine sGi (p := 6) rfl rfl (sk_179 _) rfl rfl rfl ht ?_
  refine sKi (p := 7) rfl rfl ?_
  refine sSb (p := 8) rfl rfl ?_
  rw [show (((q + 2 : Nat) : Int) - 2) = ((q : Nat) : Int) from by omega]
  refine sMu (p := 9) rfl rfl ?_
  refine sL (pc' := 10) (i := .istore_n 2) (ls' := [some (.ref 179), some (.int (iI 94)), some (.int (iI (16 * ((q : Nat) : Int)))), none, none]) rfl rfl ?_
  refine sL (pc' := 11) (i := .iload_n 1) rfl rfl ?_
  refine sKb (p := 13) rfl rfl ?_
  refine sIc_ne (p := 16) rfl rfl ⟨by omega, by omega⟩ ⟨by omega, by omega⟩ (fun c1 => ?_) (fun c1 => ?_)
  · have c1 := c1
    refine sL (pc' := 21) (i := .iload_n 1) rfl rfl ?_
    refine sKb (p := 23) rfl rfl ?_
    refine sIc_ne (p := 26) rfl rfl ⟨by omega, by omega⟩ ⟨by omega, by omega⟩ (fun c2 => ?_) (fun c2 => ?_)
    · have c2 := c2
      refine sL (pc' := 31) (i := .iload_n 1) rfl rfl ?_
      refine sKb (p := 33) rfl rfl ?_
      refine sIc_ne (p := 36) rfl rfl ⟨by omega, by omega⟩ ⟨by omega, by omega⟩ (fun c3 => ?_) (fun c3 => ?_)
      · exact absurd c3 (by decide)
      · have c3 := c3
        refine sKi (p := 37) rfl rfl ?_
        refine sL (i := .goto 15) rfl rfl ?_
        refine sL (pc' := 53) (i := .istore_n 3) (ls' := [some (.ref 179), some (.int (iI 94)), some (.int (iI (16 * ((q : Nat) : Int)))), some (.int (iI 2)), none]) rfl rfl ?_
        refine sKi (p := 54) rfl rfl ?_
        refine sL (pc' := 56) (i := .istore 4) (ls' := [some (.ref 179), some (.int (iI 94)), some (.int (iI (16 * ((q : Nat) : Int)))), some (.int (iI 2)), some (.int (iI 0))]) rfl rfl ?_
        refine sSh (T := (wKw S 192 (16 * q) 0 (fun r => jn 2 (f r) (g r)))) (congrArg sH (wKw_0 _ _ _ _).symm) ?_
        refine sIt (A := fun i => [some (.ref 179), some (.int (iI 94)), some (.int (iI (16 * ((q : Nat) : Int)))), some (.int (iI 2)), some (.int (iI ((i : Nat) : Int)))]) (B := fun i => (wKw S 192 (16 * q) i (fun r => jn 2 (f r) (g r)))) (fun _ => True) 16 True.intro (fun i hi56 hI56 ih56 => ?_) (fun hI56 => ?_)
        · have hi56 := hi56
          refine sL (pc' := 58) (i := .iload 4) rfl rfl ?_
          refine sKb (p := 60) rfl rfl ?_
          refine sIc_ge (p := 63) rfl rfl ⟨by omega, by omega⟩ ⟨by omega, by omega⟩ (fun c4 => ?_) (fun c4 => ?_)
          · exfalso; omega
          · have c4 := c4
            refine sL (pc' := 64) (i := .aload_n 0) rfl rfl ?_
            refine sGc (p := 67) rfl rfl (sk_179 _) rfl rfl rfl ?_
            refine sL (pc' := 68) (i := .iload_n 2) rfl rfl ?_
            refine sL (pc' := 70) (i := .iload 4) rfl rfl ?_
            refine sAd (p := 71) rfl rfl ?_
            refine sL (pc' := 72) (i := .iload_n 3) rfl rfl ?_
            refine sL (pc' := 73) (i := .aload_n 0) rfl rfl ?_
            refine sGc (p := 76) rfl rfl (sk_179 _) rfl rfl rfl ?_
            refine sL (pc' := 77) (i := .iload_n 2) rfl rfl ?_
            refine sL (pc' := 79) (i := .iload 4) rfl rfl ?_
            refine sAd (p := 80) rfl rfl ?_
            refine sAl (p := 81) (i := (16 * q) + i) rfl rfl (sk_192 _) (by omega) ⟨by omega, by omega⟩ (wKw_ss hf hi56) ?_
            refine sL (pc' := 82) (i := .aload_n 0) rfl rfl ?_
            refine sGc (p := 85) rfl rfl (sk_179 _) rfl rfl rfl ?_
            refine sL (pc' := 86) (i := .iload_n 2) rfl rfl ?_
            refine sKb (p := 88) rfl rfl ?_
            refine sAd (p := 89) rfl rfl ?_
            refine sL (pc' := 91) (i := .iload 4) rfl rfl ?_
            refine sAd (p := 92) rfl rfl ?_
            refine sAl (p := 93) (i := ((16 * q) + 16) + i) rfl rfl (sk_192 _) (by omega) ⟨by omega, by omega⟩ (wKw_r (o2 := 16 * q + 16) hg hi56 (Or.inr (Or.inr (Or.inl (by omega)))) (by omega)) ?_
            refine sCs (p := 96) (as := [_, _, _]) rfl rfl rfl rfl (by decide) (Nat.le_of_ble_eq_true rfl) rfl (Nat.le_of_ble_eq_true rfl) rfl (by omega) (m_joined (op := 2) (by omega)) ?_
            refine sWl (p := 97) (i := (16 * q) + i) rfl rfl (sk_192 _) (by omega) ⟨by omega, by omega⟩ ?_
            refine sInX (z := ((i : Nat) : Int)) (ls' := [some (.ref 179), some (.int (iI 94)), some (.int (iI (16 * ((q : Nat) : Int)))), some (.int (iI 2)), some (.int (iI (((i : Nat) : Int) + 1)))]) (p := 100) rfl rfl (Nat.le_of_ble_eq_true rfl) rfl rfl ?_
            refine sL (i := .goto (-44)) rfl rfl ?_
            refine sRo (ls := [some (.ref 179), some (.int (iI 94)), some (.int (iI (16 * ((q : Nat) : Int)))), some (.int (iI 2)), some (.int (iI ((i + 1 : Nat) : Int)))]) (T := (wKw S 192 (16 * q) (i + 1) (fun r => jn 2 (f r) (g r)))) (And.intro rfl (And.intro rfl (And.intro rfl (And.intro rfl (And.intro rfl (True.intro)))))) (congrArg sH (wKw_s (by omega) (jw_pkw _ _ _ _))) (ih56 ?_)
            exact True.intro
        · have hI56 := hI56
          refine sL (pc' := 58) (i := .iload 4) rfl rfl ?_
          refine sKb (p := 60) rfl rfl ?_
          refine sIc_ge (p := 63) rfl rfl ⟨by omega, by omega⟩ ⟨by omega, by omega⟩ (fun c5 => ?_) (fun c5 => ?_)
          · have c5 := c5
            refine sL (pc' := 104) (i := .aload_n 0) rfl rfl ?_
            refine sL (pc' := 105) (i := .aload_n 0) rfl rfl ?_
            refine sGc (p := 108) rfl rfl (sk_179 _) rfl rfl rfl ?_
            refine sL (pc' := 109) (i := .iload_n 2) rfl rfl ?_
            refine sCv (p := 112) (as := [_, _]) rfl rfl rfl rfl (by decide) (Nat.le_of_ble_eq_true rfl) rfl (Nat.le_of_ble_eq_true rfl) (sk_179 _) rfl (by omega) (m_trim (o := 16 * q) hv (sk_192 _) ⟨by omega, by omega⟩ (rowS_wRw S 192 (16 * q) (fun r => jn 2 (f r) (g r)))) ?_
            refine sL (pc' := 113) (i := .aload_n 0) rfl rfl ?_
            refine sL (pc' := 114) (i := .dup) rfl rfl ?_
            refine sGi (p := 117) rfl rfl (sk_179 _) rfl rfl rfl ht ?_
            refine sKi (p := 118) rfl rfl ?_
            refine sSb (p := 119) rfl rfl ?_
            refine sPi (z := (((q + 2 : Nat) : Int) - 1)) (p := 122) rfl rfl (sk_179 _) rfl rfl rfl rfl ?_
            refine sEn (i := .return_) rfl (rfl) ?_
            refine ⟨rfl, congrArg sH ?_⟩
            rw [show (((q + 2 : Nat) : Int) - 1) = ((q + 1 : Nat) : Int) from by omega]
            exact congrArg (fun T => wI T 179 30 ((q + 1 : Nat) : Int)) (wRw_wRw S 192 (16 * q) _ _)
          · exact absurd c5 (by decide)
    · exact absurd c2 (by decide)
  · exact absurd c1 (by decide)
theorem m_joinTop_200 (hv : vM S n sz) (ht : SI S 179 30 = ((q + 2 : Nat) : Int)) (hq : q + 2 ≤ 220) (hf : rowS S 192 (16 * q) f) (hg : rowS S 192 (16 * q + 16) g) : sM X 1 201 [.ref 179, .int (iI 200)] S (sV none (wI (wRw S 192 (16 * q) (fun r => jn 3 (f r) (g r) && decide (r < pr sz n))) 179 30 ((q + 1 : Nat) : Int))) := by
  refine sIni (ls := [some (.ref 179), some (.int (iI 200)), none, none, none]) rfl ?_
  refine sKb (p := 2) rfl rfl ?_
  refine sL (pc' := 3) (i := .aload_n 0) rfl rfl ?_
  refine sGi (p := 6) rfl rfl (sk_179 _) rfl rfl rfl ht ?_
  refine sKi (p := 7) rfl rfl ?_
  refine sSb (p := 8) rfl rfl ?_
  rw [show (((q + 2 : Nat) : Int) - 2) = ((q : Nat) : Int) from by omega]
  refine sMu (p := 9) rfl rfl ?_
  refine sL (pc' := 10) (i := .istore_n 2) (ls' := [some (.ref 179), some (.int (iI 200)), some (.int (iI (16 * ((q : Nat) : Int)))), none, none]) rfl rfl ?_
  refine sL (pc' := 11) (i := .iload_n 1) rfl rfl ?_
  refine sKb (p := 13) rfl rfl ?_
  refine sIc_ne (p := 16) rfl rfl ⟨by omega, by omega⟩ ⟨by omega, by omega⟩ (fun c1 => ?_) (fun c1 => ?_)
  · have c1 := c1
    refine sL (pc' := 21) (i := .iload_n 1) rfl rfl ?_
    refine sKb (p := 23) rfl rfl ?_
    refine sIc_ne (p := 26) rfl rfl ⟨by omega, by omega⟩ ⟨by omega, by omega⟩ (fun c2 => ?_) (fun c2 => ?_)
    · have c2 := c2
      refine sL (pc' := 31) (i := .iload_n 1) rfl rfl ?_
      refine sKb (p := 33) rfl rfl ?_
      refine sIc_ne (p := 36) rfl rfl ⟨by omega, by omega⟩ ⟨by omega, by omega⟩ (fun c3 => ?_) (fun c3 => ?_)
      · have c3 := c3
        refine sL (pc' := 41) (i := .iload_n 1) rfl rfl ?_
        refine sKs (p := 44) rfl rfl ?_
        refine sIc_ne (p := 47) rfl rfl ⟨by omega, by omega⟩ ⟨by omega, by omega⟩ (fun c4 => ?_) (fun c4 => ?_)
        · exact absurd c4 (by decide)
        · have c4 := c4
          refine sKi (p := 48) rfl rfl ?_
          refine sL (i := .goto 4) rfl rfl ?_
          refine sL (pc' := 53) (i := .istore_n 3) (ls' := [some (.ref 179), some (.int (iI 200)), some (.int (iI (16 * ((q : Nat) : Int)))), some (.int (iI 3)), none]) rfl rfl ?_
          refine sKi (p := 54) rfl rfl ?_
          refine sL (pc' := 56) (i := .istore 4) (ls' := [some (.ref 179), some (.int (iI 200)), some (.int (iI (16 * ((q : Nat) : Int)))), some (.int (iI 3)), some (.int (iI 0))]) rfl rfl ?_
          refine sSh (T := (wKw S 192 (16 * q) 0 (fun r => jn 3 (f r) (g r)))) (congrArg sH (wKw_0 _ _ _ _).symm) ?_
          refine sIt (A := fun i => [some (.ref 179), some (.int (iI 200)), some (.int (iI (16 * ((q : Nat) : Int)))), some (.int (iI 3)), some (.int (iI ((i : Nat) : Int)))]) (B := fun i => (wKw S 192 (16 * q) i (fun r => jn 3 (f r) (g r)))) (fun _ => True) 16 True.intro (fun i hi56 hI56 ih56 => ?_) (fun hI56 => ?_)
          · have hi56 := hi56
            refine sL (pc' := 58) (i := .iload 4) rfl rfl ?_
            refine sKb (p := 60) rfl rfl ?_
            refine sIc_ge (p := 63) rfl rfl ⟨by omega, by omega⟩ ⟨by omega, by omega⟩ (fun c5 => ?_) (fun c5 => ?_)
            · exfalso; omega
            · have c5 := c5
              refine sL (pc' := 64) (i := .aload_n 0) rfl rfl ?_
              refine sGc (p := 67) rfl rfl (sk_179 _) rfl rfl rfl ?_
              refine sL (pc' := 68) (i := .iload_n 2) rfl rfl ?_
              refine sL (pc' := 70) (i := .iload 4) rfl rfl ?_
              refine sAd (p := 71) rfl rfl ?_
              refine sL (pc' := 72) (i := .iload_n 3) rfl rfl ?_
              refine sL (pc' := 73) (i := .aload_n 0) rfl rfl ?_
              refine sGc (p := 76) rfl rfl (sk_179 _) rfl rfl rfl ?_
              refine sL (pc' := 77) (i := .iload_n 2) rfl rfl ?_
              refine sL (pc' := 79) (i := .iload 4) rfl rfl ?_
              refine sAd (p := 80) rfl rfl ?_
              refine sAl (p := 81) (i := (16 * q) + i) rfl rfl (sk_192 _) (by omega) ⟨by omega, by omega⟩ (wKw_ss hf hi56) ?_
              refine sL (pc' := 82) (i := .aload_n 0) rfl rfl ?_
              refine sGc (p := 85) rfl rfl (sk_179 _) rfl rfl rfl ?_
              refine sL (pc' := 86) (i := .iload_n 2) rfl rfl ?_
              refine sKb (p := 88) rfl rfl ?_
              refine sAd (p := 89) rfl rfl ?_
              refine sL (pc' := 91) (i := .iload 4) rfl rfl ?_
              refine sAd (p := 92) rfl rfl ?_
              refine sAl (p := 93) (i := ((16 * q) + 16) + i) rfl rfl (sk_192 _) (by omega) ⟨by omega, by omega⟩ (wKw_r (o2 := 16 * q + 16) hg hi56 (Or.inr (Or.inr (Or.inl (by omega)))) (by omega)) ?_
              refine sCs (p := 96) (as := [_, _, _]) rfl rfl rfl rfl (by decide) (Nat.le_of_ble_eq_true rfl) rfl (Nat.le_of_ble_eq_true rfl) rfl (by omega) (m_joined (op := 3) (by omega)) ?_
              refine sWl (p := 97) (i := (16 * q) + i) rfl rfl (sk_192 _) (by omega) ⟨by omega, by omega⟩ ?_
              refine sInX (z := ((i : Nat) : Int)) (ls' := [some (.ref 179), some (.int (iI 200)), some (.int (iI (16 * ((q : Nat) : Int)))), some (.int (iI 3)), some (.int (iI (((i : Nat) : Int) + 1)))]) (p := 100) rfl rfl (Nat.le_of_ble_eq_true rfl) rfl rfl ?_
              refine sL (i := .goto (-44)) rfl rfl ?_
              refine sRo (ls := [some (.ref 179), some (.int (iI 200)), some (.int (iI (16 * ((q : Nat) : Int)))), some (.int (iI 3)), some (.int (iI ((i + 1 : Nat) : Int)))]) (T := (wKw S 192 (16 * q) (i + 1) (fun r => jn 3 (f r) (g r)))) (And.intro rfl (And.intro rfl (And.intro rfl (And.intro rfl (And.intro rfl (True.intro)))))) (congrArg sH (wKw_s (by omega) (jw_pkw _ _ _ _))) (ih56 ?_)
              exact True.intro
          · have hI56 := hI56
            refine sL (pc' := 58) (i := .iload 4) rfl rfl ?_
            refine sKb (p := 60) rfl rfl ?_
            refine sIc_ge (p := 63) rfl rfl ⟨by omega, by omega⟩ ⟨by omega, by omega⟩ (fun c6 => ?_) (fun c6 => ?_)
            · have c6 := c6
              refine sL (pc' := 104) (i := .aload_n 0) rfl rfl ?_
              refine sL (pc' := 105) (i := .aload_n 0) rfl rfl ?_
              refine sGc (p := 108) rfl rfl (sk_179 _) rfl rfl rfl ?_
              refine sL (pc' := 109) (i := .iload_n 2) rfl rfl ?_
              refine sCv (p := 112) (as := [_, _]) rfl rfl rfl rfl (by decide) (Nat.le_of_ble_eq_true rfl) rfl (Nat.le_of_ble_eq_true rfl) (sk_179 _) rfl (by omega) (m_trim (o := 16 * q) hv (sk_192 _) ⟨by omega, by omega⟩ (rowS_wRw S 192 (16 * q) (fun r => jn 3 (f r) (g r)))) ?_
              refine sL (pc' := 113) (i := .aload_n 0) rfl rfl ?_
              refine sL (pc' := 114) (i := .dup) rfl rfl ?_
              refine sGi (p := 117) rfl rfl (sk_179 _) rfl rfl rfl ht ?_
              refine sKi (p := 118) rfl rfl ?_
              refine sSb (p := 119) rfl rfl ?_
              refine sPi (z := (((q + 2 : Nat) : Int) - 1)) (p := 122) rfl rfl (sk_179 _) rfl rfl rfl rfl ?_
              refine sEn (i := .return_) rfl (rfl) ?_
              refine ⟨rfl, congrArg sH ?_⟩
              rw [show (((q + 2 : Nat) : Int) - 1) = ((q + 1 : Nat) : Int) from by omega]
              exact congrArg (fun T => wI T 179 30 ((q + 1 : Nat) : Int)) (wRw_wRw S 192 (16 * q) _ _)
            · exact absurd c6 (by decide)
      · exact absurd c3 (by decide)
    · exact absurd c2 (by decide)
  · exact absurd c1 (by decide)
theorem m_joinTop_201 (hv : vM S n sz) (ht : SI S 179 30 = ((q + 2 : Nat) : Int)) (hq : q + 2 ≤ 220) (hf : rowS S 192 (16 * q) f) (hg : rowS S 192 (16 * q + 16) g) : sM X 1 201 [.ref 179, .int (iI 201)] S (sV none (wI (wRw S 192 (16 * q) (fun r => jn 4 (f r) (g r) && decide (r < pr sz n))) 179 30 ((q + 1 : Nat) : Int))) := by
  refine sIni (ls := [some (.ref 179), some (.int (iI 201)), none, none, none]) rfl ?_
  refine sKb (p := 2) rfl rfl ?_
  refine sL (pc' := 3) (i := .aload_n 0) rfl rfl ?_
  refine sGi (p := 6) rfl rfl (sk_179 _) rfl rfl rfl ht ?_
  refine sKi (p := 7) rfl rfl ?_
  refine sSb (p := 8) rfl rfl ?_
  rw [show (((q + 2 : Nat) : Int) - 2) = ((q : Nat) : Int) from by omega]
  refine sMu (p := 9) rfl rfl ?_
  refine sL (pc' := 10) (i := .istore_n 2) (ls' := [some (.ref 179), some (.int (iI 201)), some (.int (iI (16 * ((q : Nat) : Int)))), none, none]) rfl rfl ?_
  refine sL (pc' := 11) (i := .iload_n 1) rfl rfl ?_
  refine sKb (p := 13) rfl rfl ?_
  refine sIc_ne (p := 16) rfl rfl ⟨by omega, by omega⟩ ⟨by omega, by omega⟩ (fun c1 => ?_) (fun c1 => ?_)
  · have c1 := c1
    refine sL (pc' := 21) (i := .iload_n 1) rfl rfl ?_
    refine sKb (p := 23) rfl rfl ?_
    refine sIc_ne (p := 26) rfl rfl ⟨by omega, by omega⟩ ⟨by omega, by omega⟩ (fun c2 => ?_) (fun c2 => ?_)
    · have c2 := c2
      refine sL (pc' := 31) (i := .iload_n 1) rfl rfl ?_
      refine sKb (p := 33) rfl rfl ?_
      refine sIc_ne (p := 36) rfl rfl ⟨by omega, by omega⟩ ⟨by omega, by omega⟩ (fun c3 => ?_) (fun c3 => ?_)
      · have c3 := c3
        refine sL (pc' := 41) (i := .iload_n 1) rfl rfl ?_
        refine sKs (p := 44) rfl rfl ?_
        refine sIc_ne (p := 47) rfl rfl ⟨by omega, by omega⟩ ⟨by omega, by omega⟩ (fun c4 => ?_) (fun c4 => ?_)
        · have c4 := c4
          refine sKi (p := 52) rfl rfl ?_
          refine sL (pc' := 53) (i := .istore_n 3) (ls' := [some (.ref 179), some (.int (iI 201)), some (.int (iI (16 * ((q : Nat) : Int)))), some (.int (iI 4)), none]) rfl rfl ?_
          refine sKi (p := 54) rfl rfl ?_
          refine sL (pc' := 56) (i := .istore 4) (ls' := [some (.ref 179), some (.int (iI 201)), some (.int (iI (16 * ((q : Nat) : Int)))), some (.int (iI 4)), some (.int (iI 0))]) rfl rfl ?_
          refine sSh (T := (wKw S 192 (16 * q) 0 (fun r => jn 4 (f r) (g r)))) (congrArg sH (wKw_0 _ _ _ _).symm) ?_
          refine sIt (A := fun i => [some (.ref 179), some (.int (iI 201)), some (.int (iI (16 * ((q : Nat) : Int)))), some (.int (iI 4)), some (.int (iI ((i : Nat) : Int)))]) (B := fun i => (wKw S 192 (16 * q) i (fun r => jn 4 (f r) (g r)))) (fun _ => True) 16 True.intro (fun i hi56 hI56 ih56 => ?_) (fun hI56 => ?_)
          · have hi56 := hi56
            refine sL (pc' := 58) (i := .iload 4) rfl rfl ?_
            refine sKb (p := 60) rfl rfl ?_
            refine sIc_ge (p := 63) rfl rfl ⟨by omega, by omega⟩ ⟨by omega, by omega⟩ (fun c5 => ?_) (fun c5 => ?_)
            · exfalso; omega
            · have c5 := c5
              refine sL (pc' := 64) (i := .aload_n 0) rfl rfl ?_
              refine sGc (p := 67) rfl rfl (sk_179 _) rfl rfl rfl ?_
              refine sL (pc' := 68) (i := .iload_n 2) rfl rfl ?_
              refine sL (pc' := 70) (i := .iload 4) rfl rfl ?_
              refine sAd (p := 71) rfl rfl ?_
              refine sL (pc' := 72) (i := .iload_n 3) rfl rfl ?_
              refine sL (pc' := 73) (i := .aload_n 0) rfl rfl ?_
              refine sGc (p := 76) rfl rfl (sk_179 _) rfl rfl rfl ?_
              refine sL (pc' := 77) (i := .iload_n 2) rfl rfl ?_
              refine sL (pc' := 79) (i := .iload 4) rfl rfl ?_
              refine sAd (p := 80) rfl rfl ?_
              refine sAl (p := 81) (i := (16 * q) + i) rfl rfl (sk_192 _) (by omega) ⟨by omega, by omega⟩ (wKw_ss hf hi56) ?_
              refine sL (pc' := 82) (i := .aload_n 0) rfl rfl ?_
              refine sGc (p := 85) rfl rfl (sk_179 _) rfl rfl rfl ?_
              refine sL (pc' := 86) (i := .iload_n 2) rfl rfl ?_
              refine sKb (p := 88) rfl rfl ?_
              refine sAd (p := 89) rfl rfl ?_
              refine sL (pc' := 91) (i := .iload 4) rfl rfl ?_
              refine sAd (p := 92) rfl rfl ?_
              refine sAl (p := 93) (i := ((16 * q) + 16) + i) rfl rfl (sk_192 _) (by omega) ⟨by omega, by omega⟩ (wKw_r (o2 := 16 * q + 16) hg hi56 (Or.inr (Or.inr (Or.inl (by omega)))) (by omega)) ?_
              refine sCs (p := 96) (as := [_, _, _]) rfl rfl rfl rfl (by decide) (Nat.le_of_ble_eq_true rfl) rfl (Nat.le_of_ble_eq_true rfl) rfl (by omega) (m_joined (op := 4) (by omega)) ?_
              refine sWl (p := 97) (i := (16 * q) + i) rfl rfl (sk_192 _) (by omega) ⟨by omega, by omega⟩ ?_
              refine sInX (z := ((i : Nat) : Int)) (ls' := [some (.ref 179), some (.int (iI 201)), some (.int (iI (16 * ((q : Nat) : Int)))), some (.int (iI 4)), some (.int (iI (((i : Nat) : Int) + 1)))]) (p := 100) rfl rfl (Nat.le_of_ble_eq_true rfl) rfl rfl ?_
              refine sL (i := .goto (-44)) rfl rfl ?_
              refine sRo (ls := [some (.ref 179), some (.int (iI 201)), some (.int (iI (16 * ((q : Nat) : Int)))), some (.int (iI 4)), some (.int (iI ((i + 1 : Nat) : Int)))]) (T := (wKw S 192 (16 * q) (i + 1) (fun r => jn 4 (f r) (g r)))) (And.intro rfl (And.intro rfl (And.intro rfl (And.intro rfl (And.intro rfl (True.intro)))))) (congrArg sH (wKw_s (by omega) (jw_pkw _ _ _ _))) (ih56 ?_)
              exact True.intro
          · have hI56 := hI56
            refine sL (pc' := 58) (i := .iload 4) rfl rfl ?_
            refine sKb (p := 60) rfl rfl ?_
            refine sIc_ge (p := 63) rfl rfl ⟨by omega, by omega⟩ ⟨by omega, by omega⟩ (fun c6 => ?_) (fun c6 => ?_)
            · have c6 := c6
              refine sL (pc' := 104) (i := .aload_n 0) rfl rfl ?_
              refine sL (pc' := 105) (i := .aload_n 0) rfl rfl ?_
              refine sGc (p := 108) rfl rfl (sk_179 _) rfl rfl rfl ?_
              refine sL (pc' := 109) (i := .iload_n 2) rfl rfl ?_
              refine sCv (p := 112) (as := [_, _]) rfl rfl rfl rfl (by decide) (Nat.le_of_ble_eq_true rfl) rfl (Nat.le_of_ble_eq_true rfl) (sk_179 _) rfl (by omega) (m_trim (o := 16 * q) hv (sk_192 _) ⟨by omega, by omega⟩ (rowS_wRw S 192 (16 * q) (fun r => jn 4 (f r) (g r)))) ?_
              refine sL (pc' := 113) (i := .aload_n 0) rfl rfl ?_
              refine sL (pc' := 114) (i := .dup) rfl rfl ?_
              refine sGi (p := 117) rfl rfl (sk_179 _) rfl rfl rfl ht ?_
              refine sKi (p := 118) rfl rfl ?_
              refine sSb (p := 119) rfl rfl ?_
              refine sPi (z := (((q + 2 : Nat) : Int) - 1)) (p := 122) rfl rfl (sk_179 _) rfl rfl rfl rfl ?_
              refine sEn (i := .return_) rfl (rfl) ?_
              refine ⟨rfl, congrArg sH ?_⟩
              rw [show (((q + 2 : Nat) : Int) - 1) = ((q + 1 : Nat) : Int) from by omega]
              exact congrArg (fun T => wI T 179 30 ((q + 1 : Nat) : Int)) (wRw_wRw S 192 (16 * q) _ _)
            · exact absurd c6 (by decide)
        · exact absurd c4 (by decide)
      · exact absurd c3 (by decide)
    · exact absurd c2 (by decide)
  · exact absurd c1 (by decide)
end MJ
