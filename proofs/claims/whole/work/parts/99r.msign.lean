/-! ===== the reference's tokens: signs, words ===== -/
def bdS (S : ST) (kz k p : Int) : ST := if kz = 0 then wI (wI S 179 14 k) 179 28 p else S
/-- the state behind sign -/
def sgS (S : ST) (y : Nat → Nat) (s a : Nat) (kz : Int) : ST := wI (wI (if tK y s a = 265 then bdS S kz 1 ((a : Nat) : Int) else S) 179 24 (if tK y s a = 256 then 200 else if tK y s a = 257 then 201 else ((y a : Nat) : Int))) 179 23 ((tE y s a : Nat) : Int)
section MS
variable {X : List Int32} {S : ST} {y : Nat → Nat} {s a : Nat} {kz : Int}
theorem m_bad {k p : Int} (h : SI S 179 14 = kz) (hz : 0 ≤ kz ∧ kz ≤ 5) : sM X 0 194 [.ref 179, .int (iI k), .int (iI p)] S (sV none (bdS S kz k p)) := by
  unfold bdS
  by_cases c : kz = 0
  · rw [if_pos c]
    exact m_bad_a (h.trans c)
  · rw [if_neg c]
    exact m_bad_d h (by omega)
theorem bdS_f {k p : Int} {c j : Nat} (h : c ≠ 179 ∨ (j ≠ 14 ∧ j ≠ 28)) : SI (bdS S kz k p) c j = SI S c j := by
  unfold bdS
  split
  · rw [SI_wI, if_neg (by omega), SI_wI, if_neg (by omega)]
  · rfl
theorem tK_y (h : a < s) (hL : isL (y a) = false) (hD : isD (y a) = false) : tK y s a = (if y a = 61 ∧ bA y s (a + 1) = 62 then 256 else if y a = 60 ∧ bA y s (a + 1) = 61 ∧ bA y s (a + 2) = 62 then 257 else if isY (y a) then y a else 265) ∧ tE y s a = (if y a = 61 ∧ bA y s (a + 1) = 62 then a + 2 else if y a = 60 ∧ bA y s (a + 1) = 61 ∧ bA y s (a + 2) = 62 then a + 3 else a + 1) := by
  constructor
  · unfold tK
    rw [if_neg (fun z => z h), hL, hD, if_neg (fun z : false = true => by cases z), if_neg (fun z : false = true => by cases z)]
  · unfold tE
    rw [if_neg (fun z => z h), hL, hD, if_neg (fun z : false = true => by cases z), if_neg (fun z : false = true => by cases z)]
theorem m_word_true : sM X 0 196 [.int (iI 116), .int (iI 114), .int (iI 117), .int (iI 101), .int (iI 0)] S (sV (some (.long (lI 1953658213))) S) := by
  refine sIni (ls := [some (.int (iI 116)), some (.int (iI 114)), some (.int (iI 117)), some (.int (iI 101)), some (.int (iI 0)), none, none]) rfl ?_
  refine sL (pc' := 1) (i := .iload_n 0) rfl rfl ?_
  refine sI2l (p := 2) rfl rfl ⟨by omega, by omega⟩ ?_
  refine sKb (p := 4) rfl rfl ?_
  refine sL (pc' := 5) (i := .lshl) rfl rfl ?_
  rw [show lI 116 <<< ((iI 16).toInt64 &&& 63) = lI 7602176 from by decide]
  refine sL (pc' := 6) (i := .iload_n 1) rfl rfl ?_
  refine sKb (p := 8) rfl rfl ?_
  refine sL (pc' := 9) (i := .ishl) rfl rfl ?_
  rw [show iI 114 <<< (iI 8 &&& 31) = iI 29184 from by decide]
  refine sI2l (p := 10) rfl rfl ⟨by omega, by omega⟩ ?_
  refine sL (pc' := 11) (i := .lor) rfl rfl ?_
  rw [show lI 7602176 ||| lI 29184 = lI 7631360 from by decide]
  refine sL (pc' := 12) (i := .iload_n 2) rfl rfl ?_
  refine sI2l (p := 13) rfl rfl ⟨by omega, by omega⟩ ?_
  refine sL (pc' := 14) (i := .lor) rfl rfl ?_
  rw [show lI 7631360 ||| lI 117 = lI 7631477 from by decide]
  refine sL (pc' := 16) (i := .lstore 5) (ls' := [some (.int (iI 116)), some (.int (iI 114)), some (.int (iI 117)), some (.int (iI 101)), some (.int (iI 0)), some (.long (lI 7631477)), none]) rfl rfl ?_
  refine sL (pc' := 17) (i := .iload_n 3) rfl rfl ?_
  refine sIf_ne (p := 20) rfl rfl ⟨by omega, by omega⟩ (fun c1 => ?_) (fun c1 => ?_)
  · have c1 := c1
    refine sL (pc' := 27) (i := .lload 5) rfl rfl ?_
    refine sKb (p := 29) rfl rfl ?_
    refine sL (pc' := 30) (i := .lshl) rfl rfl ?_
    rw [show lI 7631477 <<< ((iI 8).toInt64 &&& 63) = lI 1953658112 from by decide]
    refine sL (pc' := 31) (i := .iload_n 3) rfl rfl ?_
    refine sI2l (p := 32) rfl rfl ⟨by omega, by omega⟩ ?_
    refine sL (pc' := 33) (i := .lor) rfl rfl ?_
    rw [show lI 1953658112 ||| lI 101 = lI 1953658213 from by decide]
    refine sL (pc' := 35) (i := .lstore 5) (ls' := [some (.int (iI 116)), some (.int (iI 114)), some (.int (iI 117)), some (.int (iI 101)), some (.int (iI 0)), some (.long (lI 1953658213)), none]) rfl rfl ?_
    refine sL (pc' := 37) (i := .iload 4) rfl rfl ?_
    refine sIf_ne (p := 40) rfl rfl ⟨by omega, by omega⟩ (fun c2 => ?_) (fun c2 => ?_)
    · exact absurd c2 (by decide)
    · have c2 := c2
      refine sL (pc' := 42) (i := .lload 5) rfl rfl ?_
      refine sL (i := .goto 12) rfl rfl ?_
      refine sEn (i := .lreturn) rfl (rfl) ?_
      exact ⟨rfl, rfl⟩
  · exact absurd c1 (by decide)
theorem m_word_false : sM X 0 196 [.int (iI 102), .int (iI 97), .int (iI 108), .int (iI 115), .int (iI 101)] S (sV (some (.long (lI 439721161573))) S) := by
  refine sIni (ls := [some (.int (iI 102)), some (.int (iI 97)), some (.int (iI 108)), some (.int (iI 115)), some (.int (iI 101)), none, none]) rfl ?_
  refine sL (pc' := 1) (i := .iload_n 0) rfl rfl ?_
  refine sI2l (p := 2) rfl rfl ⟨by omega, by omega⟩ ?_
  refine sKb (p := 4) rfl rfl ?_
  refine sL (pc' := 5) (i := .lshl) rfl rfl ?_
  rw [show lI 102 <<< ((iI 16).toInt64 &&& 63) = lI 6684672 from by decide]
  refine sL (pc' := 6) (i := .iload_n 1) rfl rfl ?_
  refine sKb (p := 8) rfl rfl ?_
  refine sL (pc' := 9) (i := .ishl) rfl rfl ?_
  rw [show iI 97 <<< (iI 8 &&& 31) = iI 24832 from by decide]
  refine sI2l (p := 10) rfl rfl ⟨by omega, by omega⟩ ?_
  refine sL (pc' := 11) (i := .lor) rfl rfl ?_
  rw [show lI 6684672 ||| lI 24832 = lI 6709504 from by decide]
  refine sL (pc' := 12) (i := .iload_n 2) rfl rfl ?_
  refine sI2l (p := 13) rfl rfl ⟨by omega, by omega⟩ ?_
  refine sL (pc' := 14) (i := .lor) rfl rfl ?_
  rw [show lI 6709504 ||| lI 108 = lI 6709612 from by decide]
  refine sL (pc' := 16) (i := .lstore 5) (ls' := [some (.int (iI 102)), some (.int (iI 97)), some (.int (iI 108)), some (.int (iI 115)), some (.int (iI 101)), some (.long (lI 6709612)), none]) rfl rfl ?_
  refine sL (pc' := 17) (i := .iload_n 3) rfl rfl ?_
  refine sIf_ne (p := 20) rfl rfl ⟨by omega, by omega⟩ (fun c1 => ?_) (fun c1 => ?_)
  · have c1 := c1
    refine sL (pc' := 27) (i := .lload 5) rfl rfl ?_
    refine sKb (p := 29) rfl rfl ?_
    refine sL (pc' := 30) (i := .lshl) rfl rfl ?_
    rw [show lI 6709612 <<< ((iI 8).toInt64 &&& 63) = lI 1717660672 from by decide]
    refine sL (pc' := 31) (i := .iload_n 3) rfl rfl ?_
    refine sI2l (p := 32) rfl rfl ⟨by omega, by omega⟩ ?_
    refine sL (pc' := 33) (i := .lor) rfl rfl ?_
    rw [show lI 1717660672 ||| lI 115 = lI 1717660787 from by decide]
    refine sL (pc' := 35) (i := .lstore 5) (ls' := [some (.int (iI 102)), some (.int (iI 97)), some (.int (iI 108)), some (.int (iI 115)), some (.int (iI 101)), some (.long (lI 1717660787)), none]) rfl rfl ?_
    refine sL (pc' := 37) (i := .iload 4) rfl rfl ?_
    refine sIf_ne (p := 40) rfl rfl ⟨by omega, by omega⟩ (fun c2 => ?_) (fun c2 => ?_)
    · have c2 := c2
      refine sL (pc' := 47) (i := .lload 5) rfl rfl ?_
      refine sKb (p := 49) rfl rfl ?_
      refine sL (pc' := 50) (i := .lshl) rfl rfl ?_
      rw [show lI 1717660787 <<< ((iI 8).toInt64 &&& 63) = lI 439721161472 from by decide]
      refine sL (pc' := 52) (i := .iload 4) rfl rfl ?_
      refine sI2l (p := 53) rfl rfl ⟨by omega, by omega⟩ ?_
      refine sL (pc' := 54) (i := .lor) rfl rfl ?_
      rw [show lI 439721161472 ||| lI 101 = lI 439721161573 from by decide]
      refine sEn (i := .lreturn) rfl (rfl) ?_
      exact ⟨rfl, rfl⟩
    · exact absurd c2 (by decide)
  · exact absurd c1 (by decide)
theorem m_word_some : sM X 0 196 [.int (iI 115), .int (iI 111), .int (iI 109), .int (iI 101), .int (iI 0)] S (sV (some (.long (lI 1936682341))) S) := by
  refine sIni (ls := [some (.int (iI 115)), some (.int (iI 111)), some (.int (iI 109)), some (.int (iI 101)), some (.int (iI 0)), none, none]) rfl ?_
  refine sL (pc' := 1) (i := .iload_n 0) rfl rfl ?_
  refine sI2l (p := 2) rfl rfl ⟨by omega, by omega⟩ ?_
  refine sKb (p := 4) rfl rfl ?_
  refine sL (pc' := 5) (i := .lshl) rfl rfl ?_
  rw [show lI 115 <<< ((iI 16).toInt64 &&& 63) = lI 7536640 from by decide]
  refine sL (pc' := 6) (i := .iload_n 1) rfl rfl ?_
  refine sKb (p := 8) rfl rfl ?_
  refine sL (pc' := 9) (i := .ishl) rfl rfl ?_
  rw [show iI 111 <<< (iI 8 &&& 31) = iI 28416 from by decide]
  refine sI2l (p := 10) rfl rfl ⟨by omega, by omega⟩ ?_
  refine sL (pc' := 11) (i := .lor) rfl rfl ?_
  rw [show lI 7536640 ||| lI 28416 = lI 7565056 from by decide]
  refine sL (pc' := 12) (i := .iload_n 2) rfl rfl ?_
  refine sI2l (p := 13) rfl rfl ⟨by omega, by omega⟩ ?_
  refine sL (pc' := 14) (i := .lor) rfl rfl ?_
  rw [show lI 7565056 ||| lI 109 = lI 7565165 from by decide]
  refine sL (pc' := 16) (i := .lstore 5) (ls' := [some (.int (iI 115)), some (.int (iI 111)), some (.int (iI 109)), some (.int (iI 101)), some (.int (iI 0)), some (.long (lI 7565165)), none]) rfl rfl ?_
  refine sL (pc' := 17) (i := .iload_n 3) rfl rfl ?_
  refine sIf_ne (p := 20) rfl rfl ⟨by omega, by omega⟩ (fun c1 => ?_) (fun c1 => ?_)
  · have c1 := c1
    refine sL (pc' := 27) (i := .lload 5) rfl rfl ?_
    refine sKb (p := 29) rfl rfl ?_
    refine sL (pc' := 30) (i := .lshl) rfl rfl ?_
    rw [show lI 7565165 <<< ((iI 8).toInt64 &&& 63) = lI 1936682240 from by decide]
    refine sL (pc' := 31) (i := .iload_n 3) rfl rfl ?_
    refine sI2l (p := 32) rfl rfl ⟨by omega, by omega⟩ ?_
    refine sL (pc' := 33) (i := .lor) rfl rfl ?_
    rw [show lI 1936682240 ||| lI 101 = lI 1936682341 from by decide]
    refine sL (pc' := 35) (i := .lstore 5) (ls' := [some (.int (iI 115)), some (.int (iI 111)), some (.int (iI 109)), some (.int (iI 101)), some (.int (iI 0)), some (.long (lI 1936682341)), none]) rfl rfl ?_
    refine sL (pc' := 37) (i := .iload 4) rfl rfl ?_
    refine sIf_ne (p := 40) rfl rfl ⟨by omega, by omega⟩ (fun c2 => ?_) (fun c2 => ?_)
    · exact absurd c2 (by decide)
    · have c2 := c2
      refine sL (pc' := 42) (i := .lload 5) rfl rfl ?_
      refine sL (i := .goto 12) rfl rfl ?_
      refine sEn (i := .lreturn) rfl (rfl) ?_
      exact ⟨rfl, rfl⟩
  · exact absurd c1 (by decide)
theorem m_word_all : sM X 0 196 [.int (iI 97), .int (iI 108), .int (iI 108), .int (iI 0), .int (iI 0)] S (sV (some (.long (lI 6384748))) S) := by
  refine sIni (ls := [some (.int (iI 97)), some (.int (iI 108)), some (.int (iI 108)), some (.int (iI 0)), some (.int (iI 0)), none, none]) rfl ?_
  refine sL (pc' := 1) (i := .iload_n 0) rfl rfl ?_
  refine sI2l (p := 2) rfl rfl ⟨by omega, by omega⟩ ?_
  refine sKb (p := 4) rfl rfl ?_
  refine sL (pc' := 5) (i := .lshl) rfl rfl ?_
  rw [show lI 97 <<< ((iI 16).toInt64 &&& 63) = lI 6356992 from by decide]
  refine sL (pc' := 6) (i := .iload_n 1) rfl rfl ?_
  refine sKb (p := 8) rfl rfl ?_
  refine sL (pc' := 9) (i := .ishl) rfl rfl ?_
  rw [show iI 108 <<< (iI 8 &&& 31) = iI 27648 from by decide]
  refine sI2l (p := 10) rfl rfl ⟨by omega, by omega⟩ ?_
  refine sL (pc' := 11) (i := .lor) rfl rfl ?_
  rw [show lI 6356992 ||| lI 27648 = lI 6384640 from by decide]
  refine sL (pc' := 12) (i := .iload_n 2) rfl rfl ?_
  refine sI2l (p := 13) rfl rfl ⟨by omega, by omega⟩ ?_
  refine sL (pc' := 14) (i := .lor) rfl rfl ?_
  rw [show lI 6384640 ||| lI 108 = lI 6384748 from by decide]
  refine sL (pc' := 16) (i := .lstore 5) (ls' := [some (.int (iI 97)), some (.int (iI 108)), some (.int (iI 108)), some (.int (iI 0)), some (.int (iI 0)), some (.long (lI 6384748)), none]) rfl rfl ?_
  refine sL (pc' := 17) (i := .iload_n 3) rfl rfl ?_
  refine sIf_ne (p := 20) rfl rfl ⟨by omega, by omega⟩ (fun c1 => ?_) (fun c1 => ?_)
  · exact absurd c1 (by decide)
  · have c1 := c1
    refine sL (pc' := 22) (i := .lload 5) rfl rfl ?_
    refine sL (i := .goto 11) rfl rfl ?_
    refine sL (pc' := 35) (i := .lstore 5) (ls' := [some (.int (iI 97)), some (.int (iI 108)), some (.int (iI 108)), some (.int (iI 0)), some (.int (iI 0)), some (.long (lI 6384748)), none]) rfl rfl ?_
    refine sL (pc' := 37) (i := .iload 4) rfl rfl ?_
    refine sIf_ne (p := 40) rfl rfl ⟨by omega, by omega⟩ (fun c2 => ?_) (fun c2 => ?_)
    · exact absurd c2 (by decide)
    · have c2 := c2
      refine sL (pc' := 42) (i := .lload 5) rfl rfl ?_
      refine sL (i := .goto 12) rfl rfl ?_
      refine sEn (i := .lreturn) rfl (rfl) ?_
      exact ⟨rfl, rfl⟩
theorem m_sign (ht : mt S y s) (hp : SI S 179 23 = ((a : Nat) : Int)) (hst : SI S 179 25 = ((a : Nat) : Int)) (hk : SI S 179 14 = kz) (hz : 0 ≤ kz ∧ kz ≤ 5) (ha : a < s) (hL : isL (y a) = false) (hD : isD (y a) = false) : sM X 1 198 [.ref 179, .int (iI ((y a : Nat) : Int))] S (sV none (sgS S y s a kz)) := by
  have hs := ht.1
  have hya := ht.2.1 a
  have hb1 := bA_b (y := y) (s := s) ht.2.1 (a + 1)
  have hb2 := bA_b (y := y) (s := s) ht.2.1 (a + 2)
  obtain ⟨eK, eE⟩ := tK_y ha hL hD
  unfold sgS

  by_cases q1 : y a = 61 ∧ bA y s (a + 1) = 62
  · rw [if_pos q1] at eK eE
    rw [eK, eE, if_neg (by decide), if_pos rfl]
    refine sIni (ls := [some (.ref 179), some (.int (iI ((y a : Nat) : Int))), none, none, none]) rfl ?_
    refine sL (pc' := 1) (i := .iload_n 1) rfl rfl ?_
    refine sKb (p := 3) rfl rfl ?_
    refine sIc_ne (p := 6) rfl rfl ⟨by omega, by omega⟩ ⟨by omega, by omega⟩ (fun c1 => ?_) (fun c1 => ?_)
    · exfalso; omega
    · have c1 := c1
      refine sL (pc' := 7) (i := .aload_n 0) rfl rfl ?_
      refine sL (pc' := 8) (i := .aload_n 0) rfl rfl ?_
      refine sGi (p := 11) rfl rfl (sk_179 _) rfl rfl rfl hp ?_
      refine sKi (p := 12) rfl rfl ?_
      refine sAd (p := 13) rfl rfl ?_
      refine sCv (p := 16) (as := [_]) rfl rfl rfl rfl (by decide) (Nat.le_of_ble_eq_true rfl) rfl (Nat.le_of_ble_eq_true rfl) (sk_179 _) rfl (by omega) (m_look (p := a + 1) ht (by omega)) ?_
      refine sKb (p := 18) rfl rfl ?_
      refine sIc_ne (p := 21) rfl rfl ⟨by omega, by omega⟩ ⟨by omega, by omega⟩ (fun c2 => ?_) (fun c2 => ?_)
      · exfalso; omega
      · have c2 := c2
        refine sKi (p := 22) rfl rfl ?_
        refine sL (i := .goto 4) rfl rfl ?_
        refine sL (pc' := 27) (i := .istore_n 2) (ls' := [some (.ref 179), some (.int (iI ((y a : Nat) : Int))), some (.int (iI 1)), none, none]) rfl rfl ?_
        refine sL (pc' := 28) (i := .iload_n 1) rfl rfl ?_
        refine sKb (p := 30) rfl rfl ?_
        refine sIc_ne (p := 33) rfl rfl ⟨by omega, by omega⟩ ⟨by omega, by omega⟩ (fun c3 => ?_) (fun c3 => ?_)
        · have c3 := c3
          refine sKi (p := 68) rfl rfl ?_
          refine sL (pc' := 69) (i := .istore_n 3) (ls' := [some (.ref 179), some (.int (iI ((y a : Nat) : Int))), some (.int (iI 1)), some (.int (iI 0)), none]) rfl rfl ?_
          refine sL (pc' := 70) (i := .iload_n 1) rfl rfl ?_
          refine sKb (p := 72) rfl rfl ?_
          refine sIc_eq (p := 75) rfl rfl ⟨by omega, by omega⟩ ⟨by omega, by omega⟩ (fun c4 => ?_) (fun c4 => ?_)
          · exfalso; omega
          · have c4 := c4
            refine sL (pc' := 76) (i := .iload_n 1) rfl rfl ?_
            refine sKb (p := 78) rfl rfl ?_
            refine sIc_eq (p := 81) rfl rfl ⟨by omega, by omega⟩ ⟨by omega, by omega⟩ (fun c5 => ?_) (fun c5 => ?_)
            · exfalso; omega
            · have c5 := c5
              refine sL (pc' := 82) (i := .iload_n 1) rfl rfl ?_
              refine sKb (p := 84) rfl rfl ?_
              refine sIc_eq (p := 87) rfl rfl ⟨by omega, by omega⟩ ⟨by omega, by omega⟩ (fun c6 => ?_) (fun c6 => ?_)
              · exfalso; omega
              · have c6 := c6
                refine sL (pc' := 88) (i := .iload_n 1) rfl rfl ?_
                refine sKb (p := 90) rfl rfl ?_
                refine sIc_eq (p := 93) rfl rfl ⟨by omega, by omega⟩ ⟨by omega, by omega⟩ (fun c7 => ?_) (fun c7 => ?_)
                · exfalso; omega
                · have c7 := c7
                  refine sL (pc' := 94) (i := .iload_n 1) rfl rfl ?_
                  refine sKb (p := 96) rfl rfl ?_
                  refine sIc_eq (p := 99) rfl rfl ⟨by omega, by omega⟩ ⟨by omega, by omega⟩ (fun c8 => ?_) (fun c8 => ?_)
                  · exfalso; omega
                  · have c8 := c8
                    refine sL (pc' := 100) (i := .iload_n 1) rfl rfl ?_
                    refine sKb (p := 102) rfl rfl ?_
                    refine sIc_eq (p := 105) rfl rfl ⟨by omega, by omega⟩ ⟨by omega, by omega⟩ (fun c9 => ?_) (fun c9 => ?_)
                    · exfalso; omega
                    · have c9 := c9
                      refine sL (pc' := 106) (i := .iload_n 1) rfl rfl ?_
                      refine sKb (p := 108) rfl rfl ?_
                      refine sIc_eq (p := 111) rfl rfl ⟨by omega, by omega⟩ ⟨by omega, by omega⟩ (fun c10 => ?_) (fun c10 => ?_)
                      · exfalso; omega
                      · have c10 := c10
                        refine sL (pc' := 112) (i := .iload_n 1) rfl rfl ?_
                        refine sKb (p := 114) rfl rfl ?_
                        refine sIc_eq (p := 117) rfl rfl ⟨by omega, by omega⟩ ⟨by omega, by omega⟩ (fun c11 => ?_) (fun c11 => ?_)
                        · have c11 := c11
                          refine sKi (p := 142) rfl rfl ?_
                          refine sL (i := .goto 4) rfl rfl ?_
                          refine sL (pc' := 148) (i := .istore 4) (ls' := [some (.ref 179), some (.int (iI ((y a : Nat) : Int))), some (.int (iI 1)), some (.int (iI 0)), some (.int (iI 1))]) rfl rfl ?_
                          refine sL (pc' := 149) (i := .iload_n 2) rfl rfl ?_
                          refine sIf_ne (p := 152) rfl rfl ⟨by omega, by omega⟩ (fun c12 => ?_) (fun c12 => ?_)
                          · have c12 := c12
                            refine sL (pc' := 171) (i := .aload_n 0) rfl rfl ?_
                            refine sL (pc' := 172) (i := .iload_n 2) rfl rfl ?_
                            refine sIf_eq (p := 175) rfl rfl ⟨by omega, by omega⟩ (fun c13 => ?_) (fun c13 => ?_)
                            · exact absurd c13 (by decide)
                            · have c13 := c13
                              refine sKs (p := 178) rfl rfl ?_
                              refine sL (i := .goto 14) rfl rfl ?_
                              refine sPi (z := 200) (p := 195) rfl rfl (sk_179 _) rfl rfl rfl rfl ?_
                              refine sL (pc' := 196) (i := .aload_n 0) rfl rfl ?_
                              refine sL (pc' := 197) (i := .dup) rfl rfl ?_
                              refine sGi (p := 200) rfl rfl (sk_179 _) rfl rfl rfl ((rI_nj (by decide)).trans hp) ?_
                              refine sL (pc' := 201) (i := .iload_n 2) rfl rfl ?_
                              refine sIf_eq (p := 204) rfl rfl ⟨by omega, by omega⟩ (fun c14 => ?_) (fun c14 => ?_)
                              · exact absurd c14 (by decide)
                              · have c14 := c14
                                refine sKi (p := 205) rfl rfl ?_
                                refine sL (i := .goto 12) rfl rfl ?_
                                refine sAd (p := 218) rfl rfl ?_
                                refine sPi (z := (((a : Nat) : Int) + 2)) (p := 221) rfl rfl (sk_179 _) rfl rfl rfl rfl ?_
                                refine sEn (i := .return_) rfl (rfl) ?_
                                exact ⟨rfl, rfl⟩
                          · exact absurd c12 (by decide)
                        · exfalso; omega
        · exfalso; omega
  · rw [if_neg q1] at eK eE
    by_cases q2 : y a = 60 ∧ bA y s (a + 1) = 61 ∧ bA y s (a + 2) = 62
    · rw [if_pos q2] at eK eE
      rw [eK, eE, if_neg (by decide), if_neg (by decide), if_pos rfl]
      refine sIni (ls := [some (.ref 179), some (.int (iI ((y a : Nat) : Int))), none, none, none]) rfl ?_
      refine sL (pc' := 1) (i := .iload_n 1) rfl rfl ?_
      refine sKb (p := 3) rfl rfl ?_
      refine sIc_ne (p := 6) rfl rfl ⟨by omega, by omega⟩ ⟨by omega, by omega⟩ (fun c1 => ?_) (fun c1 => ?_)
      · have c1 := c1
        refine sKi (p := 26) rfl rfl ?_
        refine sL (pc' := 27) (i := .istore_n 2) (ls' := [some (.ref 179), some (.int (iI ((y a : Nat) : Int))), some (.int (iI 0)), none, none]) rfl rfl ?_
        refine sL (pc' := 28) (i := .iload_n 1) rfl rfl ?_
        refine sKb (p := 30) rfl rfl ?_
        refine sIc_ne (p := 33) rfl rfl ⟨by omega, by omega⟩ ⟨by omega, by omega⟩ (fun c2 => ?_) (fun c2 => ?_)
        · exfalso; omega
        · have c2 := c2
          refine sL (pc' := 34) (i := .aload_n 0) rfl rfl ?_
          refine sL (pc' := 35) (i := .aload_n 0) rfl rfl ?_
          refine sGi (p := 38) rfl rfl (sk_179 _) rfl rfl rfl hp ?_
          refine sKi (p := 39) rfl rfl ?_
          refine sAd (p := 40) rfl rfl ?_
          refine sCv (p := 43) (as := [_]) rfl rfl rfl rfl (by decide) (Nat.le_of_ble_eq_true rfl) rfl (Nat.le_of_ble_eq_true rfl) (sk_179 _) rfl (by omega) (m_look (p := a + 1) ht (by omega)) ?_
          refine sKb (p := 45) rfl rfl ?_
          refine sIc_ne (p := 48) rfl rfl ⟨by omega, by omega⟩ ⟨by omega, by omega⟩ (fun c3 => ?_) (fun c3 => ?_)
          · exfalso; omega
          · have c3 := c3
            refine sL (pc' := 49) (i := .aload_n 0) rfl rfl ?_
            refine sL (pc' := 50) (i := .aload_n 0) rfl rfl ?_
            refine sGi (p := 53) rfl rfl (sk_179 _) rfl rfl rfl hp ?_
            refine sKi (p := 54) rfl rfl ?_
            refine sAd (p := 55) rfl rfl ?_
            refine sCv (p := 58) (as := [_]) rfl rfl rfl rfl (by decide) (Nat.le_of_ble_eq_true rfl) rfl (Nat.le_of_ble_eq_true rfl) (sk_179 _) rfl (by omega) (m_look (p := a + 2) ht (by omega)) ?_
            refine sKb (p := 60) rfl rfl ?_
            refine sIc_ne (p := 63) rfl rfl ⟨by omega, by omega⟩ ⟨by omega, by omega⟩ (fun c4 => ?_) (fun c4 => ?_)
            · exfalso; omega
            · have c4 := c4
              refine sKi (p := 64) rfl rfl ?_
              refine sL (i := .goto 4) rfl rfl ?_
              refine sL (pc' := 69) (i := .istore_n 3) (ls' := [some (.ref 179), some (.int (iI ((y a : Nat) : Int))), some (.int (iI 0)), some (.int (iI 1)), none]) rfl rfl ?_
              refine sL (pc' := 70) (i := .iload_n 1) rfl rfl ?_
              refine sKb (p := 72) rfl rfl ?_
              refine sIc_eq (p := 75) rfl rfl ⟨by omega, by omega⟩ ⟨by omega, by omega⟩ (fun c5 => ?_) (fun c5 => ?_)
              · exfalso; omega
              · have c5 := c5
                refine sL (pc' := 76) (i := .iload_n 1) rfl rfl ?_
                refine sKb (p := 78) rfl rfl ?_
                refine sIc_eq (p := 81) rfl rfl ⟨by omega, by omega⟩ ⟨by omega, by omega⟩ (fun c6 => ?_) (fun c6 => ?_)
                · exfalso; omega
                · have c6 := c6
                  refine sL (pc' := 82) (i := .iload_n 1) rfl rfl ?_
                  refine sKb (p := 84) rfl rfl ?_
                  refine sIc_eq (p := 87) rfl rfl ⟨by omega, by omega⟩ ⟨by omega, by omega⟩ (fun c7 => ?_) (fun c7 => ?_)
                  · exfalso; omega
                  · have c7 := c7
                    refine sL (pc' := 88) (i := .iload_n 1) rfl rfl ?_
                    refine sKb (p := 90) rfl rfl ?_
                    refine sIc_eq (p := 93) rfl rfl ⟨by omega, by omega⟩ ⟨by omega, by omega⟩ (fun c8 => ?_) (fun c8 => ?_)
                    · exfalso; omega
                    · have c8 := c8
                      refine sL (pc' := 94) (i := .iload_n 1) rfl rfl ?_
                      refine sKb (p := 96) rfl rfl ?_
                      refine sIc_eq (p := 99) rfl rfl ⟨by omega, by omega⟩ ⟨by omega, by omega⟩ (fun c9 => ?_) (fun c9 => ?_)
                      · exfalso; omega
                      · have c9 := c9
                        refine sL (pc' := 100) (i := .iload_n 1) rfl rfl ?_
                        refine sKb (p := 102) rfl rfl ?_
                        refine sIc_eq (p := 105) rfl rfl ⟨by omega, by omega⟩ ⟨by omega, by omega⟩ (fun c10 => ?_) (fun c10 => ?_)
                        · exfalso; omega
                        · have c10 := c10
                          refine sL (pc' := 106) (i := .iload_n 1) rfl rfl ?_
                          refine sKb (p := 108) rfl rfl ?_
                          refine sIc_eq (p := 111) rfl rfl ⟨by omega, by omega⟩ ⟨by omega, by omega⟩ (fun c11 => ?_) (fun c11 => ?_)
                          · exfalso; omega
                          · have c11 := c11
                            refine sL (pc' := 112) (i := .iload_n 1) rfl rfl ?_
                            refine sKb (p := 114) rfl rfl ?_
                            refine sIc_eq (p := 117) rfl rfl ⟨by omega, by omega⟩ ⟨by omega, by omega⟩ (fun c12 => ?_) (fun c12 => ?_)
                            · exfalso; omega
                            · have c12 := c12
                              refine sL (pc' := 118) (i := .iload_n 1) rfl rfl ?_
                              refine sKb (p := 120) rfl rfl ?_
                              refine sIc_eq (p := 123) rfl rfl ⟨by omega, by omega⟩ ⟨by omega, by omega⟩ (fun c13 => ?_) (fun c13 => ?_)
                              · exfalso; omega
                              · have c13 := c13
                                refine sL (pc' := 124) (i := .iload_n 1) rfl rfl ?_
                                refine sKb (p := 126) rfl rfl ?_
                                refine sIc_eq (p := 129) rfl rfl ⟨by omega, by omega⟩ ⟨by omega, by omega⟩ (fun c14 => ?_) (fun c14 => ?_)
                                · exfalso; omega
                                · have c14 := c14
                                  refine sL (pc' := 130) (i := .iload_n 1) rfl rfl ?_
                                  refine sKb (p := 132) rfl rfl ?_
                                  refine sIc_eq (p := 135) rfl rfl ⟨by omega, by omega⟩ ⟨by omega, by omega⟩ (fun c15 => ?_) (fun c15 => ?_)
                                  · exfalso; omega
                                  · have c15 := c15
                                    refine sL (pc' := 136) (i := .iload_n 1) rfl rfl ?_
                                    refine sKb (p := 138) rfl rfl ?_
                                    refine sIc_ne (p := 141) rfl rfl ⟨by omega, by omega⟩ ⟨by omega, by omega⟩ (fun c16 => ?_) (fun c16 => ?_)
                                    · have c16 := c16
                                      refine sKi (p := 146) rfl rfl ?_
                                      refine sL (pc' := 148) (i := .istore 4) (ls' := [some (.ref 179), some (.int (iI ((y a : Nat) : Int))), some (.int (iI 0)), some (.int (iI 1)), some (.int (iI 0))]) rfl rfl ?_
                                      refine sL (pc' := 149) (i := .iload_n 2) rfl rfl ?_
                                      refine sIf_ne (p := 152) rfl rfl ⟨by omega, by omega⟩ (fun c17 => ?_) (fun c17 => ?_)
                                      · exact absurd c17 (by decide)
                                      · have c17 := c17
                                        refine sL (pc' := 153) (i := .iload_n 3) rfl rfl ?_
                                        refine sIf_ne (p := 156) rfl rfl ⟨by omega, by omega⟩ (fun c18 => ?_) (fun c18 => ?_)
                                        · have c18 := c18
                                          refine sL (pc' := 171) (i := .aload_n 0) rfl rfl ?_
                                          refine sL (pc' := 172) (i := .iload_n 2) rfl rfl ?_
                                          refine sIf_eq (p := 175) rfl rfl ⟨by omega, by omega⟩ (fun c19 => ?_) (fun c19 => ?_)
                                          · have c19 := c19
                                            refine sL (pc' := 182) (i := .iload_n 3) rfl rfl ?_
                                            refine sIf_eq (p := 185) rfl rfl ⟨by omega, by omega⟩ (fun c20 => ?_) (fun c20 => ?_)
                                            · exact absurd c20 (by decide)
                                            · have c20 := c20
                                              refine sKs (p := 188) rfl rfl ?_
                                              refine sL (i := .goto 4) rfl rfl ?_
                                              refine sPi (z := 201) (p := 195) rfl rfl (sk_179 _) rfl rfl rfl rfl ?_
                                              refine sL (pc' := 196) (i := .aload_n 0) rfl rfl ?_
                                              refine sL (pc' := 197) (i := .dup) rfl rfl ?_
                                              refine sGi (p := 200) rfl rfl (sk_179 _) rfl rfl rfl ((rI_nj (by decide)).trans hp) ?_
                                              refine sL (pc' := 201) (i := .iload_n 2) rfl rfl ?_
                                              refine sIf_eq (p := 204) rfl rfl ⟨by omega, by omega⟩ (fun c21 => ?_) (fun c21 => ?_)
                                              · have c21 := c21
                                                refine sL (pc' := 209) (i := .iload_n 3) rfl rfl ?_
                                                refine sIf_eq (p := 212) rfl rfl ⟨by omega, by omega⟩ (fun c22 => ?_) (fun c22 => ?_)
                                                · exact absurd c22 (by decide)
                                                · have c22 := c22
                                                  refine sKi (p := 213) rfl rfl ?_
                                                  refine sL (i := .goto 4) rfl rfl ?_
                                                  refine sAd (p := 218) rfl rfl ?_
                                                  refine sPi (z := (((a : Nat) : Int) + 3)) (p := 221) rfl rfl (sk_179 _) rfl rfl rfl rfl ?_
                                                  refine sEn (i := .return_) rfl (rfl) ?_
                                                  exact ⟨rfl, rfl⟩
                                              · exact absurd c21 (by decide)
                                          · exact absurd c19 (by decide)
                                        · exact absurd c18 (by decide)
                                    · exfalso; omega
      · exfalso; omega
    · rw [if_neg q2] at eK eE
      by_cases q3 : y a = 35 ∨ y a = 38 ∨ y a = 124 ∨ y a = 94 ∨ y a = 33 ∨ y a = 40 ∨ y a = 41 ∨ y a = 61 ∨ y a = 58 ∨ y a = 59 ∨ y a = 46 ∨ y a = 44
      · rw [show isY (y a) = true from decide_eq_true q3, if_pos rfl] at eK
        rw [eK, eE, if_neg (by omega), if_neg (by omega), if_neg (by omega)]
        rcases q3 with q3 | q3 | q3 | q3 | q3 | q3 | q3 | q3 | q3 | q3 | q3 | q3
        · skip
          refine sIni (ls := [some (.ref 179), some (.int (iI ((y a : Nat) : Int))), none, none, none]) rfl ?_
          refine sL (pc' := 1) (i := .iload_n 1) rfl rfl ?_
          refine sKb (p := 3) rfl rfl ?_
          refine sIc_ne (p := 6) rfl rfl ⟨by omega, by omega⟩ ⟨by omega, by omega⟩ (fun c1 => ?_) (fun c1 => ?_)
          · have c1 := c1
            refine sKi (p := 26) rfl rfl ?_
            refine sL (pc' := 27) (i := .istore_n 2) (ls' := [some (.ref 179), some (.int (iI ((y a : Nat) : Int))), some (.int (iI 0)), none, none]) rfl rfl ?_
            refine sL (pc' := 28) (i := .iload_n 1) rfl rfl ?_
            refine sKb (p := 30) rfl rfl ?_
            refine sIc_ne (p := 33) rfl rfl ⟨by omega, by omega⟩ ⟨by omega, by omega⟩ (fun c2 => ?_) (fun c2 => ?_)
            · have c2 := c2
              refine sKi (p := 68) rfl rfl ?_
              refine sL (pc' := 69) (i := .istore_n 3) (ls' := [some (.ref 179), some (.int (iI ((y a : Nat) : Int))), some (.int (iI 0)), some (.int (iI 0)), none]) rfl rfl ?_
              refine sL (pc' := 70) (i := .iload_n 1) rfl rfl ?_
              refine sKb (p := 72) rfl rfl ?_
              refine sIc_eq (p := 75) rfl rfl ⟨by omega, by omega⟩ ⟨by omega, by omega⟩ (fun c3 => ?_) (fun c3 => ?_)
              · have c3 := c3
                refine sKi (p := 142) rfl rfl ?_
                refine sL (i := .goto 4) rfl rfl ?_
                refine sL (pc' := 148) (i := .istore 4) (ls' := [some (.ref 179), some (.int (iI ((y a : Nat) : Int))), some (.int (iI 0)), some (.int (iI 0)), some (.int (iI 1))]) rfl rfl ?_
                refine sL (pc' := 149) (i := .iload_n 2) rfl rfl ?_
                refine sIf_ne (p := 152) rfl rfl ⟨by omega, by omega⟩ (fun c4 => ?_) (fun c4 => ?_)
                · exact absurd c4 (by decide)
                · have c4 := c4
                  refine sL (pc' := 153) (i := .iload_n 3) rfl rfl ?_
                  refine sIf_ne (p := 156) rfl rfl ⟨by omega, by omega⟩ (fun c5 => ?_) (fun c5 => ?_)
                  · exact absurd c5 (by decide)
                  · have c5 := c5
                    refine sL (pc' := 158) (i := .iload 4) rfl rfl ?_
                    refine sIf_ne (p := 161) rfl rfl ⟨by omega, by omega⟩ (fun c6 => ?_) (fun c6 => ?_)
                    · have c6 := c6
                      refine sL (pc' := 171) (i := .aload_n 0) rfl rfl ?_
                      refine sL (pc' := 172) (i := .iload_n 2) rfl rfl ?_
                      refine sIf_eq (p := 175) rfl rfl ⟨by omega, by omega⟩ (fun c7 => ?_) (fun c7 => ?_)
                      · have c7 := c7
                        refine sL (pc' := 182) (i := .iload_n 3) rfl rfl ?_
                        refine sIf_eq (p := 185) rfl rfl ⟨by omega, by omega⟩ (fun c8 => ?_) (fun c8 => ?_)
                        · have c8 := c8
                          refine sL (pc' := 192) (i := .iload_n 1) rfl rfl ?_
                          refine sPi (z := ((y a : Nat) : Int)) (p := 195) rfl rfl (sk_179 _) rfl rfl rfl rfl ?_
                          refine sL (pc' := 196) (i := .aload_n 0) rfl rfl ?_
                          refine sL (pc' := 197) (i := .dup) rfl rfl ?_
                          refine sGi (p := 200) rfl rfl (sk_179 _) rfl rfl rfl ((rI_nj (by decide)).trans hp) ?_
                          refine sL (pc' := 201) (i := .iload_n 2) rfl rfl ?_
                          refine sIf_eq (p := 204) rfl rfl ⟨by omega, by omega⟩ (fun c9 => ?_) (fun c9 => ?_)
                          · have c9 := c9
                            refine sL (pc' := 209) (i := .iload_n 3) rfl rfl ?_
                            refine sIf_eq (p := 212) rfl rfl ⟨by omega, by omega⟩ (fun c10 => ?_) (fun c10 => ?_)
                            · have c10 := c10
                              refine sKi (p := 217) rfl rfl ?_
                              refine sAd (p := 218) rfl rfl ?_
                              refine sPi (z := (((a : Nat) : Int) + 1)) (p := 221) rfl rfl (sk_179 _) rfl rfl rfl rfl ?_
                              refine sEn (i := .return_) rfl (rfl) ?_
                              exact ⟨rfl, rfl⟩
                            · exact absurd c10 (by decide)
                          · exact absurd c9 (by decide)
                        · exact absurd c8 (by decide)
                      · exact absurd c7 (by decide)
                    · exact absurd c6 (by decide)
              · exfalso; omega
            · exfalso; omega
          · exfalso; omega
        · skip
          refine sIni (ls := [some (.ref 179), some (.int (iI ((y a : Nat) : Int))), none, none, none]) rfl ?_
          refine sL (pc' := 1) (i := .iload_n 1) rfl rfl ?_
          refine sKb (p := 3) rfl rfl ?_
          refine sIc_ne (p := 6) rfl rfl ⟨by omega, by omega⟩ ⟨by omega, by omega⟩ (fun c1 => ?_) (fun c1 => ?_)
          · have c1 := c1
            refine sKi (p := 26) rfl rfl ?_
            refine sL (pc' := 27) (i := .istore_n 2) (ls' := [some (.ref 179), some (.int (iI ((y a : Nat) : Int))), some (.int (iI 0)), none, none]) rfl rfl ?_
            refine sL (pc' := 28) (i := .iload_n 1) rfl rfl ?_
            refine sKb (p := 30) rfl rfl ?_
            refine sIc_ne (p := 33) rfl rfl ⟨by omega, by omega⟩ ⟨by omega, by omega⟩ (fun c2 => ?_) (fun c2 => ?_)
            · have c2 := c2
              refine sKi (p := 68) rfl rfl ?_
              refine sL (pc' := 69) (i := .istore_n 3) (ls' := [some (.ref 179), some (.int (iI ((y a : Nat) : Int))), some (.int (iI 0)), some (.int (iI 0)), none]) rfl rfl ?_
              refine sL (pc' := 70) (i := .iload_n 1) rfl rfl ?_
              refine sKb (p := 72) rfl rfl ?_
              refine sIc_eq (p := 75) rfl rfl ⟨by omega, by omega⟩ ⟨by omega, by omega⟩ (fun c3 => ?_) (fun c3 => ?_)
              · exfalso; omega
              · have c3 := c3
                refine sL (pc' := 76) (i := .iload_n 1) rfl rfl ?_
                refine sKb (p := 78) rfl rfl ?_
                refine sIc_eq (p := 81) rfl rfl ⟨by omega, by omega⟩ ⟨by omega, by omega⟩ (fun c4 => ?_) (fun c4 => ?_)
                · have c4 := c4
                  refine sKi (p := 142) rfl rfl ?_
                  refine sL (i := .goto 4) rfl rfl ?_
                  refine sL (pc' := 148) (i := .istore 4) (ls' := [some (.ref 179), some (.int (iI ((y a : Nat) : Int))), some (.int (iI 0)), some (.int (iI 0)), some (.int (iI 1))]) rfl rfl ?_
                  refine sL (pc' := 149) (i := .iload_n 2) rfl rfl ?_
                  refine sIf_ne (p := 152) rfl rfl ⟨by omega, by omega⟩ (fun c5 => ?_) (fun c5 => ?_)
                  · exact absurd c5 (by decide)
                  · have c5 := c5
                    refine sL (pc' := 153) (i := .iload_n 3) rfl rfl ?_
                    refine sIf_ne (p := 156) rfl rfl ⟨by omega, by omega⟩ (fun c6 => ?_) (fun c6 => ?_)
                    · exact absurd c6 (by decide)
                    · have c6 := c6
                      refine sL (pc' := 158) (i := .iload 4) rfl rfl ?_
                      refine sIf_ne (p := 161) rfl rfl ⟨by omega, by omega⟩ (fun c7 => ?_) (fun c7 => ?_)
                      · have c7 := c7
                        refine sL (pc' := 171) (i := .aload_n 0) rfl rfl ?_
                        refine sL (pc' := 172) (i := .iload_n 2) rfl rfl ?_
                        refine sIf_eq (p := 175) rfl rfl ⟨by omega, by omega⟩ (fun c8 => ?_) (fun c8 => ?_)
                        · have c8 := c8
                          refine sL (pc' := 182) (i := .iload_n 3) rfl rfl ?_
                          refine sIf_eq (p := 185) rfl rfl ⟨by omega, by omega⟩ (fun c9 => ?_) (fun c9 => ?_)
                          · have c9 := c9
                            refine sL (pc' := 192) (i := .iload_n 1) rfl rfl ?_
                            refine sPi (z := ((y a : Nat) : Int)) (p := 195) rfl rfl (sk_179 _) rfl rfl rfl rfl ?_
                            refine sL (pc' := 196) (i := .aload_n 0) rfl rfl ?_
                            refine sL (pc' := 197) (i := .dup) rfl rfl ?_
                            refine sGi (p := 200) rfl rfl (sk_179 _) rfl rfl rfl ((rI_nj (by decide)).trans hp) ?_
                            refine sL (pc' := 201) (i := .iload_n 2) rfl rfl ?_
                            refine sIf_eq (p := 204) rfl rfl ⟨by omega, by omega⟩ (fun c10 => ?_) (fun c10 => ?_)
                            · have c10 := c10
                              refine sL (pc' := 209) (i := .iload_n 3) rfl rfl ?_
                              refine sIf_eq (p := 212) rfl rfl ⟨by omega, by omega⟩ (fun c11 => ?_) (fun c11 => ?_)
                              · have c11 := c11
                                refine sKi (p := 217) rfl rfl ?_
                                refine sAd (p := 218) rfl rfl ?_
                                refine sPi (z := (((a : Nat) : Int) + 1)) (p := 221) rfl rfl (sk_179 _) rfl rfl rfl rfl ?_
                                refine sEn (i := .return_) rfl (rfl) ?_
                                exact ⟨rfl, rfl⟩
                              · exact absurd c11 (by decide)
                            · exact absurd c10 (by decide)
                          · exact absurd c9 (by decide)
                        · exact absurd c8 (by decide)
                      · exact absurd c7 (by decide)
                · exfalso; omega
            · exfalso; omega
          · exfalso; omega
        · skip
          refine sIni (ls := [some (.ref 179), some (.int (iI ((y a : Nat) : Int))), none, none, none]) rfl ?_
          refine sL (pc' := 1) (i := .iload_n 1) rfl rfl ?_
          refine sKb (p := 3) rfl rfl ?_
          refine sIc_ne (p := 6) rfl rfl ⟨by omega, by omega⟩ ⟨by omega, by omega⟩ (fun c1 => ?_) (fun c1 => ?_)
          · have c1 := c1
            refine sKi (p := 26) rfl rfl ?_
            refine sL (pc' := 27) (i := .istore_n 2) (ls' := [some (.ref 179), some (.int (iI ((y a : Nat) : Int))), some (.int (iI 0)), none, none]) rfl rfl ?_
            refine sL (pc' := 28) (i := .iload_n 1) rfl rfl ?_
            refine sKb (p := 30) rfl rfl ?_
            refine sIc_ne (p := 33) rfl rfl ⟨by omega, by omega⟩ ⟨by omega, by omega⟩ (fun c2 => ?_) (fun c2 => ?_)
            · have c2 := c2
              refine sKi (p := 68) rfl rfl ?_
              refine sL (pc' := 69) (i := .istore_n 3) (ls' := [some (.ref 179), some (.int (iI ((y a : Nat) : Int))), some (.int (iI 0)), some (.int (iI 0)), none]) rfl rfl ?_
              refine sL (pc' := 70) (i := .iload_n 1) rfl rfl ?_
              refine sKb (p := 72) rfl rfl ?_
              refine sIc_eq (p := 75) rfl rfl ⟨by omega, by omega⟩ ⟨by omega, by omega⟩ (fun c3 => ?_) (fun c3 => ?_)
              · exfalso; omega
              · have c3 := c3
                refine sL (pc' := 76) (i := .iload_n 1) rfl rfl ?_
                refine sKb (p := 78) rfl rfl ?_
                refine sIc_eq (p := 81) rfl rfl ⟨by omega, by omega⟩ ⟨by omega, by omega⟩ (fun c4 => ?_) (fun c4 => ?_)
                · exfalso; omega
                · have c4 := c4
                  refine sL (pc' := 82) (i := .iload_n 1) rfl rfl ?_
                  refine sKb (p := 84) rfl rfl ?_
                  refine sIc_eq (p := 87) rfl rfl ⟨by omega, by omega⟩ ⟨by omega, by omega⟩ (fun c5 => ?_) (fun c5 => ?_)
                  · have c5 := c5
                    refine sKi (p := 142) rfl rfl ?_
                    refine sL (i := .goto 4) rfl rfl ?_
                    refine sL (pc' := 148) (i := .istore 4) (ls' := [some (.ref 179), some (.int (iI ((y a : Nat) : Int))), some (.int (iI 0)), some (.int (iI 0)), some (.int (iI 1))]) rfl rfl ?_
                    refine sL (pc' := 149) (i := .iload_n 2) rfl rfl ?_
                    refine sIf_ne (p := 152) rfl rfl ⟨by omega, by omega⟩ (fun c6 => ?_) (fun c6 => ?_)
                    · exact absurd c6 (by decide)
                    · have c6 := c6
                      refine sL (pc' := 153) (i := .iload_n 3) rfl rfl ?_
                      refine sIf_ne (p := 156) rfl rfl ⟨by omega, by omega⟩ (fun c7 => ?_) (fun c7 => ?_)
                      · exact absurd c7 (by decide)
                      · have c7 := c7
                        refine sL (pc' := 158) (i := .iload 4) rfl rfl ?_
                        refine sIf_ne (p := 161) rfl rfl ⟨by omega, by omega⟩ (fun c8 => ?_) (fun c8 => ?_)
                        · have c8 := c8
                          refine sL (pc' := 171) (i := .aload_n 0) rfl rfl ?_
                          refine sL (pc' := 172) (i := .iload_n 2) rfl rfl ?_
                          refine sIf_eq (p := 175) rfl rfl ⟨by omega, by omega⟩ (fun c9 => ?_) (fun c9 => ?_)
                          · have c9 := c9
                            refine sL (pc' := 182) (i := .iload_n 3) rfl rfl ?_
                            refine sIf_eq (p := 185) rfl rfl ⟨by omega, by omega⟩ (fun c10 => ?_) (fun c10 => ?_)
                            · have c10 := c10
                              refine sL (pc' := 192) (i := .iload_n 1) rfl rfl ?_
                              refine sPi (z := ((y a : Nat) : Int)) (p := 195) rfl rfl (sk_179 _) rfl rfl rfl rfl ?_
                              refine sL (pc' := 196) (i := .aload_n 0) rfl rfl ?_
                              refine sL (pc' := 197) (i := .dup) rfl rfl ?_
                              refine sGi (p := 200) rfl rfl (sk_179 _) rfl rfl rfl ((rI_nj (by decide)).trans hp) ?_
                              refine sL (pc' := 201) (i := .iload_n 2) rfl rfl ?_
                              refine sIf_eq (p := 204) rfl rfl ⟨by omega, by omega⟩ (fun c11 => ?_) (fun c11 => ?_)
                              · have c11 := c11
                                refine sL (pc' := 209) (i := .iload_n 3) rfl rfl ?_
                                refine sIf_eq (p := 212) rfl rfl ⟨by omega, by omega⟩ (fun c12 => ?_) (fun c12 => ?_)
                                · have c12 := c12
                                  refine sKi (p := 217) rfl rfl ?_
                                  refine sAd (p := 218) rfl rfl ?_
                                  refine sPi (z := (((a : Nat) : Int) + 1)) (p := 221) rfl rfl (sk_179 _) rfl rfl rfl rfl ?_
                                  refine sEn (i := .return_) rfl (rfl) ?_
                                  exact ⟨rfl, rfl⟩
                                · exact absurd c12 (by decide)
                              · exact absurd c11 (by decide)
                            · exact absurd c10 (by decide)
                          · exact absurd c9 (by decide)
                        · exact absurd c8 (by decide)
                  · exfalso; omega
            · exfalso; omega
          · exfalso; omega
        · skip
          refine sIni (ls := [some (.ref 179), some (.int (iI ((y a : Nat) : Int))), none, none, none]) rfl ?_
          refine sL (pc' := 1) (i := .iload_n 1) rfl rfl ?_
          refine sKb (p := 3) rfl rfl ?_
          refine sIc_ne (p := 6) rfl rfl ⟨by omega, by omega⟩ ⟨by omega, by omega⟩ (fun c1 => ?_) (fun c1 => ?_)
          · have c1 := c1
            refine sKi (p := 26) rfl rfl ?_
            refine sL (pc' := 27) (i := .istore_n 2) (ls' := [some (.ref 179), some (.int (iI ((y a : Nat) : Int))), some (.int (iI 0)), none, none]) rfl rfl ?_
            refine sL (pc' := 28) (i := .iload_n 1) rfl rfl ?_
            refine sKb (p := 30) rfl rfl ?_
            refine sIc_ne (p := 33) rfl rfl ⟨by omega, by omega⟩ ⟨by omega, by omega⟩ (fun c2 => ?_) (fun c2 => ?_)
            · have c2 := c2
              refine sKi (p := 68) rfl rfl ?_
              refine sL (pc' := 69) (i := .istore_n 3) (ls' := [some (.ref 179), some (.int (iI ((y a : Nat) : Int))), some (.int (iI 0)), some (.int (iI 0)), none]) rfl rfl ?_
              refine sL (pc' := 70) (i := .iload_n 1) rfl rfl ?_
              refine sKb (p := 72) rfl rfl ?_
              refine sIc_eq (p := 75) rfl rfl ⟨by omega, by omega⟩ ⟨by omega, by omega⟩ (fun c3 => ?_) (fun c3 => ?_)
              · exfalso; omega
              · have c3 := c3
                refine sL (pc' := 76) (i := .iload_n 1) rfl rfl ?_
                refine sKb (p := 78) rfl rfl ?_
                refine sIc_eq (p := 81) rfl rfl ⟨by omega, by omega⟩ ⟨by omega, by omega⟩ (fun c4 => ?_) (fun c4 => ?_)
                · exfalso; omega
                · have c4 := c4
                  refine sL (pc' := 82) (i := .iload_n 1) rfl rfl ?_
                  refine sKb (p := 84) rfl rfl ?_
                  refine sIc_eq (p := 87) rfl rfl ⟨by omega, by omega⟩ ⟨by omega, by omega⟩ (fun c5 => ?_) (fun c5 => ?_)
                  · exfalso; omega
                  · have c5 := c5
                    refine sL (pc' := 88) (i := .iload_n 1) rfl rfl ?_
                    refine sKb (p := 90) rfl rfl ?_
                    refine sIc_eq (p := 93) rfl rfl ⟨by omega, by omega⟩ ⟨by omega, by omega⟩ (fun c6 => ?_) (fun c6 => ?_)
                    · have c6 := c6
                      refine sKi (p := 142) rfl rfl ?_
                      refine sL (i := .goto 4) rfl rfl ?_
                      refine sL (pc' := 148) (i := .istore 4) (ls' := [some (.ref 179), some (.int (iI ((y a : Nat) : Int))), some (.int (iI 0)), some (.int (iI 0)), some (.int (iI 1))]) rfl rfl ?_
                      refine sL (pc' := 149) (i := .iload_n 2) rfl rfl ?_
                      refine sIf_ne (p := 152) rfl rfl ⟨by omega, by omega⟩ (fun c7 => ?_) (fun c7 => ?_)
                      · exact absurd c7 (by decide)
                      · have c7 := c7
                        refine sL (pc' := 153) (i := .iload_n 3) rfl rfl ?_
                        refine sIf_ne (p := 156) rfl rfl ⟨by omega, by omega⟩ (fun c8 => ?_) (fun c8 => ?_)
                        · exact absurd c8 (by decide)
                        · have c8 := c8
                          refine sL (pc' := 158) (i := .iload 4) rfl rfl ?_
                          refine sIf_ne (p := 161) rfl rfl ⟨by omega, by omega⟩ (fun c9 => ?_) (fun c9 => ?_)
                          · have c9 := c9
                            refine sL (pc' := 171) (i := .aload_n 0) rfl rfl ?_
                            refine sL (pc' := 172) (i := .iload_n 2) rfl rfl ?_
                            refine sIf_eq (p := 175) rfl rfl ⟨by omega, by omega⟩ (fun c10 => ?_) (fun c10 => ?_)
                            · have c10 := c10
                              refine sL (pc' := 182) (i := .iload_n 3) rfl rfl ?_
                              refine sIf_eq (p := 185) rfl rfl ⟨by omega, by omega⟩ (fun c11 => ?_) (fun c11 => ?_)
                              · have c11 := c11
                                refine sL (pc' := 192) (i := .iload_n 1) rfl rfl ?_
                                refine sPi (z := ((y a : Nat) : Int)) (p := 195) rfl rfl (sk_179 _) rfl rfl rfl rfl ?_
                                refine sL (pc' := 196) (i := .aload_n 0) rfl rfl ?_
                                refine sL (pc' := 197) (i := .dup) rfl rfl ?_
                                refine sGi (p := 200) rfl rfl (sk_179 _) rfl rfl rfl ((rI_nj (by decide)).trans hp) ?_
                                refine sL (pc' := 201) (i := .iload_n 2) rfl rfl ?_
                                refine sIf_eq (p := 204) rfl rfl ⟨by omega, by omega⟩ (fun c12 => ?_) (fun c12 => ?_)
                                · have c12 := c12
                                  refine sL (pc' := 209) (i := .iload_n 3) rfl rfl ?_
                                  refine sIf_eq (p := 212) rfl rfl ⟨by omega, by omega⟩ (fun c13 => ?_) (fun c13 => ?_)
                                  · have c13 := c13
                                    refine sKi (p := 217) rfl rfl ?_
                                    refine sAd (p := 218) rfl rfl ?_
                                    refine sPi (z := (((a : Nat) : Int) + 1)) (p := 221) rfl rfl (sk_179 _) rfl rfl rfl rfl ?_
                                    refine sEn (i := .return_) rfl (rfl) ?_
                                    exact ⟨rfl, rfl⟩
                                  · exact absurd c13 (by decide)
                                · exact absurd c12 (by decide)
                              · exact absurd c11 (by decide)
                            · exact absurd c10 (by decide)
                          · exact absurd c9 (by decide)
                    · exfalso; omega
            · exfalso; omega
          · exfalso; omega
        · skip
          refine sIni (ls := [some (.ref 179), some (.int (iI ((y a : Nat) : Int))), none, none, none]) rfl ?_
          refine sL (pc' := 1) (i := .iload_n 1) rfl rfl ?_
          refine sKb (p := 3) rfl rfl ?_
          refine sIc_ne (p := 6) rfl rfl ⟨by omega, by omega⟩ ⟨by omega, by omega⟩ (fun c1 => ?_) (fun c1 => ?_)
          · have c1 := c1
            refine sKi (p := 26) rfl rfl ?_
            refine sL (pc' := 27) (i := .istore_n 2) (ls' := [some (.ref 179), some (.int (iI ((y a : Nat) : Int))), some (.int (iI 0)), none, none]) rfl rfl ?_
            refine sL (pc' := 28) (i := .iload_n 1) rfl rfl ?_
            refine sKb (p := 30) rfl rfl ?_
            refine sIc_ne (p := 33) rfl rfl ⟨by omega, by omega⟩ ⟨by omega, by omega⟩ (fun c2 => ?_) (fun c2 => ?_)
            · have c2 := c2
              refine sKi (p := 68) rfl rfl ?_
              refine sL (pc' := 69) (i := .istore_n 3) (ls' := [some (.ref 179), some (.int (iI ((y a : Nat) : Int))), some (.int (iI 0)), some (.int (iI 0)), none]) rfl rfl ?_
              refine sL (pc' := 70) (i := .iload_n 1) rfl rfl ?_
              refine sKb (p := 72) rfl rfl ?_
              refine sIc_eq (p := 75) rfl rfl ⟨by omega, by omega⟩ ⟨by omega, by omega⟩ (fun c3 => ?_) (fun c3 => ?_)
              · exfalso; omega
              · have c3 := c3
                refine sL (pc' := 76) (i := .iload_n 1) rfl rfl ?_
                refine sKb (p := 78) rfl rfl ?_
                refine sIc_eq (p := 81) rfl rfl ⟨by omega, by omega⟩ ⟨by omega, by omega⟩ (fun c4 => ?_) (fun c4 => ?_)
                · exfalso; omega
                · have c4 := c4
                  refine sL (pc' := 82) (i := .iload_n 1) rfl rfl ?_
                  refine sKb (p := 84) rfl rfl ?_
                  refine sIc_eq (p := 87) rfl rfl ⟨by omega, by omega⟩ ⟨by omega, by omega⟩ (fun c5 => ?_) (fun c5 => ?_)
                  · exfalso; omega
                  · have c5 := c5
                    refine sL (pc' := 88) (i := .iload_n 1) rfl rfl ?_
                    refine sKb (p := 90) rfl rfl ?_
                    refine sIc_eq (p := 93) rfl rfl ⟨by omega, by omega⟩ ⟨by omega, by omega⟩ (fun c6 => ?_) (fun c6 => ?_)
                    · exfalso; omega
                    · have c6 := c6
                      refine sL (pc' := 94) (i := .iload_n 1) rfl rfl ?_
                      refine sKb (p := 96) rfl rfl ?_
                      refine sIc_eq (p := 99) rfl rfl ⟨by omega, by omega⟩ ⟨by omega, by omega⟩ (fun c7 => ?_) (fun c7 => ?_)
                      · have c7 := c7
                        refine sKi (p := 142) rfl rfl ?_
                        refine sL (i := .goto 4) rfl rfl ?_
                        refine sL (pc' := 148) (i := .istore 4) (ls' := [some (.ref 179), some (.int (iI ((y a : Nat) : Int))), some (.int (iI 0)), some (.int (iI 0)), some (.int (iI 1))]) rfl rfl ?_
                        refine sL (pc' := 149) (i := .iload_n 2) rfl rfl ?_
                        refine sIf_ne (p := 152) rfl rfl ⟨by omega, by omega⟩ (fun c8 => ?_) (fun c8 => ?_)
                        · exact absurd c8 (by decide)
                        · have c8 := c8
                          refine sL (pc' := 153) (i := .iload_n 3) rfl rfl ?_
                          refine sIf_ne (p := 156) rfl rfl ⟨by omega, by omega⟩ (fun c9 => ?_) (fun c9 => ?_)
                          · exact absurd c9 (by decide)
                          · have c9 := c9
                            refine sL (pc' := 158) (i := .iload 4) rfl rfl ?_
                            refine sIf_ne (p := 161) rfl rfl ⟨by omega, by omega⟩ (fun c10 => ?_) (fun c10 => ?_)
                            · have c10 := c10
                              refine sL (pc' := 171) (i := .aload_n 0) rfl rfl ?_
                              refine sL (pc' := 172) (i := .iload_n 2) rfl rfl ?_
                              refine sIf_eq (p := 175) rfl rfl ⟨by omega, by omega⟩ (fun c11 => ?_) (fun c11 => ?_)
                              · have c11 := c11
                                refine sL (pc' := 182) (i := .iload_n 3) rfl rfl ?_
                                refine sIf_eq (p := 185) rfl rfl ⟨by omega, by omega⟩ (fun c12 => ?_) (fun c12 => ?_)
                                · have c12 := c12
                                  refine sL (pc' := 192) (i := .iload_n 1) rfl rfl ?_
                                  refine sPi (z := ((y a : Nat) : Int)) (p := 195) rfl rfl (sk_179 _) rfl rfl rfl rfl ?_
                                  refine sL (pc' := 196) (i := .aload_n 0) rfl rfl ?_
                                  refine sL (pc' := 197) (i := .dup) rfl rfl ?_
                                  refine sGi (p := 200) rfl rfl (sk_179 _) rfl rfl rfl ((rI_nj (by decide)).trans hp) ?_
                                  refine sL (pc' := 201) (i := .iload_n 2) rfl rfl ?_
                                  refine sIf_eq (p := 204) rfl rfl ⟨by omega, by omega⟩ (fun c13 => ?_) (fun c13 => ?_)
                                  · have c13 := c13
                                    refine sL (pc' := 209) (i := .iload_n 3) rfl rfl ?_
                                    refine sIf_eq (p := 212) rfl rfl ⟨by omega, by omega⟩ (fun c14 => ?_) (fun c14 => ?_)
                                    · have c14 := c14
                                      refine sKi (p := 217) rfl rfl ?_
                                      refine sAd (p := 218) rfl rfl ?_
                                      refine sPi (z := (((a : Nat) : Int) + 1)) (p := 221) rfl rfl (sk_179 _) rfl rfl rfl rfl ?_
                                      refine sEn (i := .return_) rfl (rfl) ?_
                                      exact ⟨rfl, rfl⟩
                                    · exact absurd c14 (by decide)
                                  · exact absurd c13 (by decide)
                                · exact absurd c12 (by decide)
                              · exact absurd c11 (by decide)
                            · exact absurd c10 (by decide)
                      · exfalso; omega
            · exfalso; omega
          · exfalso; omega
        · skip
          refine sIni (ls := [some (.ref 179), some (.int (iI ((y a : Nat) : Int))), none, none, none]) rfl ?_
          refine sL (pc' := 1) (i := .iload_n 1) rfl rfl ?_
          refine sKb (p := 3) rfl rfl ?_
          refine sIc_ne (p := 6) rfl rfl ⟨by omega, by omega⟩ ⟨by omega, by omega⟩ (fun c1 => ?_) (fun c1 => ?_)
          · have c1 := c1
            refine sKi (p := 26) rfl rfl ?_
            refine sL (pc' := 27) (i := .istore_n 2) (ls' := [some (.ref 179), some (.int (iI ((y a : Nat) : Int))), some (.int (iI 0)), none, none]) rfl rfl ?_
            refine sL (pc' := 28) (i := .iload_n 1) rfl rfl ?_
            refine sKb (p := 30) rfl rfl ?_
            refine sIc_ne (p := 33) rfl rfl ⟨by omega, by omega⟩ ⟨by omega, by omega⟩ (fun c2 => ?_) (fun c2 => ?_)
            · have c2 := c2
              refine sKi (p := 68) rfl rfl ?_
              refine sL (pc' := 69) (i := .istore_n 3) (ls' := [some (.ref 179), some (.int (iI ((y a : Nat) : Int))), some (.int (iI 0)), some (.int (iI 0)), none]) rfl rfl ?_
              refine sL (pc' := 70) (i := .iload_n 1) rfl rfl ?_
              refine sKb (p := 72) rfl rfl ?_
              refine sIc_eq (p := 75) rfl rfl ⟨by omega, by omega⟩ ⟨by omega, by omega⟩ (fun c3 => ?_) (fun c3 => ?_)
              · exfalso; omega
              · have c3 := c3
                refine sL (pc' := 76) (i := .iload_n 1) rfl rfl ?_
                refine sKb (p := 78) rfl rfl ?_
                refine sIc_eq (p := 81) rfl rfl ⟨by omega, by omega⟩ ⟨by omega, by omega⟩ (fun c4 => ?_) (fun c4 => ?_)
                · exfalso; omega
                · have c4 := c4
                  refine sL (pc' := 82) (i := .iload_n 1) rfl rfl ?_
                  refine sKb (p := 84) rfl rfl ?_
                  refine sIc_eq (p := 87) rfl rfl ⟨by omega, by omega⟩ ⟨by omega, by omega⟩ (fun c5 => ?_) (fun c5 => ?_)
                  · exfalso; omega
                  · have c5 := c5
                    refine sL (pc' := 88) (i := .iload_n 1) rfl rfl ?_
                    refine sKb (p := 90) rfl rfl ?_
                    refine sIc_eq (p := 93) rfl rfl ⟨by omega, by omega⟩ ⟨by omega, by omega⟩ (fun c6 => ?_) (fun c6 => ?_)
                    · exfalso; omega
                    · have c6 := c6
                      refine sL (pc' := 94) (i := .iload_n 1) rfl rfl ?_
                      refine sKb (p := 96) rfl rfl ?_
                      refine sIc_eq (p := 99) rfl rfl ⟨by omega, by omega⟩ ⟨by omega, by omega⟩ (fun c7 => ?_) (fun c7 => ?_)
                      · exfalso; omega
                      · have c7 := c7
                        refine sL (pc' := 100) (i := .iload_n 1) rfl rfl ?_
                        refine sKb (p := 102) rfl rfl ?_
                        refine sIc_eq (p := 105) rfl rfl ⟨by omega, by omega⟩ ⟨by omega, by omega⟩ (fun c8 => ?_) (fun c8 => ?_)
                        · have c8 := c8
                          refine sKi (p := 142) rfl rfl ?_
                          refine sL (i := .goto 4) rfl rfl ?_
                          refine sL (pc' := 148) (i := .istore 4) (ls' := [some (.ref 179), some (.int (iI ((y a : Nat) : Int))), some (.int (iI 0)), some (.int (iI 0)), some (.int (iI 1))]) rfl rfl ?_
                          refine sL (pc' := 149) (i := .iload_n 2) rfl rfl ?_
                          refine sIf_ne (p := 152) rfl rfl ⟨by omega, by omega⟩ (fun c9 => ?_) (fun c9 => ?_)
                          · exact absurd c9 (by decide)
                          · have c9 := c9
                            refine sL (pc' := 153) (i := .iload_n 3) rfl rfl ?_
                            refine sIf_ne (p := 156) rfl rfl ⟨by omega, by omega⟩ (fun c10 => ?_) (fun c10 => ?_)
                            · exact absurd c10 (by decide)
                            · have c10 := c10
                              refine sL (pc' := 158) (i := .iload 4) rfl rfl ?_
                              refine sIf_ne (p := 161) rfl rfl ⟨by omega, by omega⟩ (fun c11 => ?_) (fun c11 => ?_)
                              · have c11 := c11
                                refine sL (pc' := 171) (i := .aload_n 0) rfl rfl ?_
                                refine sL (pc' := 172) (i := .iload_n 2) rfl rfl ?_
                                refine sIf_eq (p := 175) rfl rfl ⟨by omega, by omega⟩ (fun c12 => ?_) (fun c12 => ?_)
                                · have c12 := c12
                                  refine sL (pc' := 182) (i := .iload_n 3) rfl rfl ?_
                                  refine sIf_eq (p := 185) rfl rfl ⟨by omega, by omega⟩ (fun c13 => ?_) (fun c13 => ?_)
                                  · have c13 := c13
                                    refine sL (pc' := 192) (i := .iload_n 1) rfl rfl ?_
                                    refine sPi (z := ((y a : Nat) : Int)) (p := 195) rfl rfl (sk_179 _) rfl rfl rfl rfl ?_
                                    refine sL (pc' := 196) (i := .aload_n 0) rfl rfl ?_
                                    refine sL (pc' := 197) (i := .dup) rfl rfl ?_
                                    refine sGi (p := 200) rfl rfl (sk_179 _) rfl rfl rfl ((rI_nj (by decide)).trans hp) ?_
                                    refine sL (pc' := 201) (i := .iload_n 2) rfl rfl ?_
                                    refine sIf_eq (p := 204) rfl rfl ⟨by omega, by omega⟩ (fun c14 => ?_) (fun c14 => ?_)
                                    · have c14 := c14
                                      refine sL (pc' := 209) (i := .iload_n 3) rfl rfl ?_
                                      refine sIf_eq (p := 212) rfl rfl ⟨by omega, by omega⟩ (fun c15 => ?_) (fun c15 => ?_)
                                      · have c15 := c15
                                        refine sKi (p := 217) rfl rfl ?_
                                        refine sAd (p := 218) rfl rfl ?_
                                        refine sPi (z := (((a : Nat) : Int) + 1)) (p := 221) rfl rfl (sk_179 _) rfl rfl rfl rfl ?_
                                        refine sEn (i := .return_) rfl (rfl) ?_
                                        exact ⟨rfl, rfl⟩
                                      · exact absurd c15 (by decide)
                                    · exact absurd c14 (by decide)
                                  · exact absurd c13 (by decide)
                                · exact absurd c12 (by decide)
                              · exact absurd c11 (by decide)
                        · exfalso; omega
            · exfalso; omega
          · exfalso; omega
        · skip
          refine sIni (ls := [some (.ref 179), some (.int (iI ((y a : Nat) : Int))), none, none, none]) rfl ?_
          refine sL (pc' := 1) (i := .iload_n 1) rfl rfl ?_
          refine sKb (p := 3) rfl rfl ?_
          refine sIc_ne (p := 6) rfl rfl ⟨by omega, by omega⟩ ⟨by omega, by omega⟩ (fun c1 => ?_) (fun c1 => ?_)
          · have c1 := c1
            refine sKi (p := 26) rfl rfl ?_
            refine sL (pc' := 27) (i := .istore_n 2) (ls' := [some (.ref 179), some (.int (iI ((y a : Nat) : Int))), some (.int (iI 0)), none, none]) rfl rfl ?_
            refine sL (pc' := 28) (i := .iload_n 1) rfl rfl ?_
            refine sKb (p := 30) rfl rfl ?_
            refine sIc_ne (p := 33) rfl rfl ⟨by omega, by omega⟩ ⟨by omega, by omega⟩ (fun c2 => ?_) (fun c2 => ?_)
            · have c2 := c2
              refine sKi (p := 68) rfl rfl ?_
              refine sL (pc' := 69) (i := .istore_n 3) (ls' := [some (.ref 179), some (.int (iI ((y a : Nat) : Int))), some (.int (iI 0)), some (.int (iI 0)), none]) rfl rfl ?_
              refine sL (pc' := 70) (i := .iload_n 1) rfl rfl ?_
              refine sKb (p := 72) rfl rfl ?_
              refine sIc_eq (p := 75) rfl rfl ⟨by omega, by omega⟩ ⟨by omega, by omega⟩ (fun c3 => ?_) (fun c3 => ?_)
              · exfalso; omega
              · have c3 := c3
                refine sL (pc' := 76) (i := .iload_n 1) rfl rfl ?_
                refine sKb (p := 78) rfl rfl ?_
                refine sIc_eq (p := 81) rfl rfl ⟨by omega, by omega⟩ ⟨by omega, by omega⟩ (fun c4 => ?_) (fun c4 => ?_)
                · exfalso; omega
                · have c4 := c4
                  refine sL (pc' := 82) (i := .iload_n 1) rfl rfl ?_
                  refine sKb (p := 84) rfl rfl ?_
                  refine sIc_eq (p := 87) rfl rfl ⟨by omega, by omega⟩ ⟨by omega, by omega⟩ (fun c5 => ?_) (fun c5 => ?_)
                  · exfalso; omega
                  · have c5 := c5
                    refine sL (pc' := 88) (i := .iload_n 1) rfl rfl ?_
                    refine sKb (p := 90) rfl rfl ?_
                    refine sIc_eq (p := 93) rfl rfl ⟨by omega, by omega⟩ ⟨by omega, by omega⟩ (fun c6 => ?_) (fun c6 => ?_)
                    · exfalso; omega
                    · have c6 := c6
                      refine sL (pc' := 94) (i := .iload_n 1) rfl rfl ?_
                      refine sKb (p := 96) rfl rfl ?_
                      refine sIc_eq (p := 99) rfl rfl ⟨by omega, by omega⟩ ⟨by omega, by omega⟩ (fun c7 => ?_) (fun c7 => ?_)
                      · exfalso; omega
                      · have c7 := c7
                        refine sL (pc' := 100) (i := .iload_n 1) rfl rfl ?_
                        refine sKb (p := 102) rfl rfl ?_
                        refine sIc_eq (p := 105) rfl rfl ⟨by omega, by omega⟩ ⟨by omega, by omega⟩ (fun c8 => ?_) (fun c8 => ?_)
                        · exfalso; omega
                        · have c8 := c8
                          refine sL (pc' := 106) (i := .iload_n 1) rfl rfl ?_
                          refine sKb (p := 108) rfl rfl ?_
                          refine sIc_eq (p := 111) rfl rfl ⟨by omega, by omega⟩ ⟨by omega, by omega⟩ (fun c9 => ?_) (fun c9 => ?_)
                          · have c9 := c9
                            refine sKi (p := 142) rfl rfl ?_
                            refine sL (i := .goto 4) rfl rfl ?_
                            refine sL (pc' := 148) (i := .istore 4) (ls' := [some (.ref 179), some (.int (iI ((y a : Nat) : Int))), some (.int (iI 0)), some (.int (iI 0)), some (.int (iI 1))]) rfl rfl ?_
                            refine sL (pc' := 149) (i := .iload_n 2) rfl rfl ?_
                            refine sIf_ne (p := 152) rfl rfl ⟨by omega, by omega⟩ (fun c10 => ?_) (fun c10 => ?_)
                            · exact absurd c10 (by decide)
                            · have c10 := c10
                              refine sL (pc' := 153) (i := .iload_n 3) rfl rfl ?_
                              refine sIf_ne (p := 156) rfl rfl ⟨by omega, by omega⟩ (fun c11 => ?_) (fun c11 => ?_)
                              · exact absurd c11 (by decide)
                              · have c11 := c11
                                refine sL (pc' := 158) (i := .iload 4) rfl rfl ?_
                                refine sIf_ne (p := 161) rfl rfl ⟨by omega, by omega⟩ (fun c12 => ?_) (fun c12 => ?_)
                                · have c12 := c12
                                  refine sL (pc' := 171) (i := .aload_n 0) rfl rfl ?_
                                  refine sL (pc' := 172) (i := .iload_n 2) rfl rfl ?_
                                  refine sIf_eq (p := 175) rfl rfl ⟨by omega, by omega⟩ (fun c13 => ?_) (fun c13 => ?_)
                                  · have c13 := c13
                                    refine sL (pc' := 182) (i := .iload_n 3) rfl rfl ?_
                                    refine sIf_eq (p := 185) rfl rfl ⟨by omega, by omega⟩ (fun c14 => ?_) (fun c14 => ?_)
                                    · have c14 := c14
                                      refine sL (pc' := 192) (i := .iload_n 1) rfl rfl ?_
                                      refine sPi (z := ((y a : Nat) : Int)) (p := 195) rfl rfl (sk_179 _) rfl rfl rfl rfl ?_
                                      refine sL (pc' := 196) (i := .aload_n 0) rfl rfl ?_
                                      refine sL (pc' := 197) (i := .dup) rfl rfl ?_
                                      refine sGi (p := 200) rfl rfl (sk_179 _) rfl rfl rfl ((rI_nj (by decide)).trans hp) ?_
                                      refine sL (pc' := 201) (i := .iload_n 2) rfl rfl ?_
                                      refine sIf_eq (p := 204) rfl rfl ⟨by omega, by omega⟩ (fun c15 => ?_) (fun c15 => ?_)
                                      · have c15 := c15
                                        refine sL (pc' := 209) (i := .iload_n 3) rfl rfl ?_
                                        refine sIf_eq (p := 212) rfl rfl ⟨by omega, by omega⟩ (fun c16 => ?_) (fun c16 => ?_)
                                        · have c16 := c16
                                          refine sKi (p := 217) rfl rfl ?_
                                          refine sAd (p := 218) rfl rfl ?_
                                          refine sPi (z := (((a : Nat) : Int) + 1)) (p := 221) rfl rfl (sk_179 _) rfl rfl rfl rfl ?_
                                          refine sEn (i := .return_) rfl (rfl) ?_
                                          exact ⟨rfl, rfl⟩
                                        · exact absurd c16 (by decide)
                                      · exact absurd c15 (by decide)
                                    · exact absurd c14 (by decide)
                                  · exact absurd c13 (by decide)
                                · exact absurd c12 (by decide)
                          · exfalso; omega
            · exfalso; omega
          · exfalso; omega
        · skip
          refine sIni (ls := [some (.ref 179), some (.int (iI ((y a : Nat) : Int))), none, none, none]) rfl ?_
          refine sL (pc' := 1) (i := .iload_n 1) rfl rfl ?_
          refine sKb (p := 3) rfl rfl ?_
          refine sIc_ne (p := 6) rfl rfl ⟨by omega, by omega⟩ ⟨by omega, by omega⟩ (fun c1 => ?_) (fun c1 => ?_)
          · exfalso; omega
          · have c1 := c1
            refine sL (pc' := 7) (i := .aload_n 0) rfl rfl ?_
            refine sL (pc' := 8) (i := .aload_n 0) rfl rfl ?_
            refine sGi (p := 11) rfl rfl (sk_179 _) rfl rfl rfl hp ?_
            refine sKi (p := 12) rfl rfl ?_
            refine sAd (p := 13) rfl rfl ?_
            refine sCv (p := 16) (as := [_]) rfl rfl rfl rfl (by decide) (Nat.le_of_ble_eq_true rfl) rfl (Nat.le_of_ble_eq_true rfl) (sk_179 _) rfl (by omega) (m_look (p := a + 1) ht (by omega)) ?_
            refine sKb (p := 18) rfl rfl ?_
            refine sIc_ne (p := 21) rfl rfl ⟨by omega, by omega⟩ ⟨by omega, by omega⟩ (fun c2 => ?_) (fun c2 => ?_)
            · have c2 := c2
              refine sKi (p := 26) rfl rfl ?_
              refine sL (pc' := 27) (i := .istore_n 2) (ls' := [some (.ref 179), some (.int (iI ((y a : Nat) : Int))), some (.int (iI 0)), none, none]) rfl rfl ?_
              refine sL (pc' := 28) (i := .iload_n 1) rfl rfl ?_
              refine sKb (p := 30) rfl rfl ?_
              refine sIc_ne (p := 33) rfl rfl ⟨by omega, by omega⟩ ⟨by omega, by omega⟩ (fun c3 => ?_) (fun c3 => ?_)
              · have c3 := c3
                refine sKi (p := 68) rfl rfl ?_
                refine sL (pc' := 69) (i := .istore_n 3) (ls' := [some (.ref 179), some (.int (iI ((y a : Nat) : Int))), some (.int (iI 0)), some (.int (iI 0)), none]) rfl rfl ?_
                refine sL (pc' := 70) (i := .iload_n 1) rfl rfl ?_
                refine sKb (p := 72) rfl rfl ?_
                refine sIc_eq (p := 75) rfl rfl ⟨by omega, by omega⟩ ⟨by omega, by omega⟩ (fun c4 => ?_) (fun c4 => ?_)
                · exfalso; omega
                · have c4 := c4
                  refine sL (pc' := 76) (i := .iload_n 1) rfl rfl ?_
                  refine sKb (p := 78) rfl rfl ?_
                  refine sIc_eq (p := 81) rfl rfl ⟨by omega, by omega⟩ ⟨by omega, by omega⟩ (fun c5 => ?_) (fun c5 => ?_)
                  · exfalso; omega
                  · have c5 := c5
                    refine sL (pc' := 82) (i := .iload_n 1) rfl rfl ?_
                    refine sKb (p := 84) rfl rfl ?_
                    refine sIc_eq (p := 87) rfl rfl ⟨by omega, by omega⟩ ⟨by omega, by omega⟩ (fun c6 => ?_) (fun c6 => ?_)
                    · exfalso; omega
                    · have c6 := c6
                      refine sL (pc' := 88) (i := .iload_n 1) rfl rfl ?_
                      refine sKb (p := 90) rfl rfl ?_
                      refine sIc_eq (p := 93) rfl rfl ⟨by omega, by omega⟩ ⟨by omega, by omega⟩ (fun c7 => ?_) (fun c7 => ?_)
                      · exfalso; omega
                      · have c7 := c7
                        refine sL (pc' := 94) (i := .iload_n 1) rfl rfl ?_
                        refine sKb (p := 96) rfl rfl ?_
                        refine sIc_eq (p := 99) rfl rfl ⟨by omega, by omega⟩ ⟨by omega, by omega⟩ (fun c8 => ?_) (fun c8 => ?_)
                        · exfalso; omega
                        · have c8 := c8
                          refine sL (pc' := 100) (i := .iload_n 1) rfl rfl ?_
                          refine sKb (p := 102) rfl rfl ?_
                          refine sIc_eq (p := 105) rfl rfl ⟨by omega, by omega⟩ ⟨by omega, by omega⟩ (fun c9 => ?_) (fun c9 => ?_)
                          · exfalso; omega
                          · have c9 := c9
                            refine sL (pc' := 106) (i := .iload_n 1) rfl rfl ?_
                            refine sKb (p := 108) rfl rfl ?_
                            refine sIc_eq (p := 111) rfl rfl ⟨by omega, by omega⟩ ⟨by omega, by omega⟩ (fun c10 => ?_) (fun c10 => ?_)
                            · exfalso; omega
                            · have c10 := c10
                              refine sL (pc' := 112) (i := .iload_n 1) rfl rfl ?_
                              refine sKb (p := 114) rfl rfl ?_
                              refine sIc_eq (p := 117) rfl rfl ⟨by omega, by omega⟩ ⟨by omega, by omega⟩ (fun c11 => ?_) (fun c11 => ?_)
                              · have c11 := c11
                                refine sKi (p := 142) rfl rfl ?_
                                refine sL (i := .goto 4) rfl rfl ?_
                                refine sL (pc' := 148) (i := .istore 4) (ls' := [some (.ref 179), some (.int (iI ((y a : Nat) : Int))), some (.int (iI 0)), some (.int (iI 0)), some (.int (iI 1))]) rfl rfl ?_
                                refine sL (pc' := 149) (i := .iload_n 2) rfl rfl ?_
                                refine sIf_ne (p := 152) rfl rfl ⟨by omega, by omega⟩ (fun c12 => ?_) (fun c12 => ?_)
                                · exact absurd c12 (by decide)
                                · have c12 := c12
                                  refine sL (pc' := 153) (i := .iload_n 3) rfl rfl ?_
                                  refine sIf_ne (p := 156) rfl rfl ⟨by omega, by omega⟩ (fun c13 => ?_) (fun c13 => ?_)
                                  · exact absurd c13 (by decide)
                                  · have c13 := c13
                                    refine sL (pc' := 158) (i := .iload 4) rfl rfl ?_
                                    refine sIf_ne (p := 161) rfl rfl ⟨by omega, by omega⟩ (fun c14 => ?_) (fun c14 => ?_)
                                    · have c14 := c14
                                      refine sL (pc' := 171) (i := .aload_n 0) rfl rfl ?_
                                      refine sL (pc' := 172) (i := .iload_n 2) rfl rfl ?_
                                      refine sIf_eq (p := 175) rfl rfl ⟨by omega, by omega⟩ (fun c15 => ?_) (fun c15 => ?_)
                                      · have c15 := c15
                                        refine sL (pc' := 182) (i := .iload_n 3) rfl rfl ?_
                                        refine sIf_eq (p := 185) rfl rfl ⟨by omega, by omega⟩ (fun c16 => ?_) (fun c16 => ?_)
                                        · have c16 := c16
                                          refine sL (pc' := 192) (i := .iload_n 1) rfl rfl ?_
                                          refine sPi (z := ((y a : Nat) : Int)) (p := 195) rfl rfl (sk_179 _) rfl rfl rfl rfl ?_
                                          refine sL (pc' := 196) (i := .aload_n 0) rfl rfl ?_
                                          refine sL (pc' := 197) (i := .dup) rfl rfl ?_
                                          refine sGi (p := 200) rfl rfl (sk_179 _) rfl rfl rfl ((rI_nj (by decide)).trans hp) ?_
                                          refine sL (pc' := 201) (i := .iload_n 2) rfl rfl ?_
                                          refine sIf_eq (p := 204) rfl rfl ⟨by omega, by omega⟩ (fun c17 => ?_) (fun c17 => ?_)
                                          · have c17 := c17
                                            refine sL (pc' := 209) (i := .iload_n 3) rfl rfl ?_
                                            refine sIf_eq (p := 212) rfl rfl ⟨by omega, by omega⟩ (fun c18 => ?_) (fun c18 => ?_)
                                            · have c18 := c18
                                              refine sKi (p := 217) rfl rfl ?_
                                              refine sAd (p := 218) rfl rfl ?_
                                              refine sPi (z := (((a : Nat) : Int) + 1)) (p := 221) rfl rfl (sk_179 _) rfl rfl rfl rfl ?_
                                              refine sEn (i := .return_) rfl (rfl) ?_
                                              exact ⟨rfl, rfl⟩
                                            · exact absurd c18 (by decide)
                                          · exact absurd c17 (by decide)
                                        · exact absurd c16 (by decide)
                                      · exact absurd c15 (by decide)
                                    · exact absurd c14 (by decide)
                              · exfalso; omega
              · exfalso; omega
            · exfalso; omega
        · skip
          refine sIni (ls := [some (.ref 179), some (.int (iI ((y a : Nat) : Int))), none, none, none]) rfl ?_
          refine sL (pc' := 1) (i := .iload_n 1) rfl rfl ?_
          refine sKb (p := 3) rfl rfl ?_
          refine sIc_ne (p := 6) rfl rfl ⟨by omega, by omega⟩ ⟨by omega, by omega⟩ (fun c1 => ?_) (fun c1 => ?_)
          · have c1 := c1
            refine sKi (p := 26) rfl rfl ?_
            refine sL (pc' := 27) (i := .istore_n 2) (ls' := [some (.ref 179), some (.int (iI ((y a : Nat) : Int))), some (.int (iI 0)), none, none]) rfl rfl ?_
            refine sL (pc' := 28) (i := .iload_n 1) rfl rfl ?_
            refine sKb (p := 30) rfl rfl ?_
            refine sIc_ne (p := 33) rfl rfl ⟨by omega, by omega⟩ ⟨by omega, by omega⟩ (fun c2 => ?_) (fun c2 => ?_)
            · have c2 := c2
              refine sKi (p := 68) rfl rfl ?_
              refine sL (pc' := 69) (i := .istore_n 3) (ls' := [some (.ref 179), some (.int (iI ((y a : Nat) : Int))), some (.int (iI 0)), some (.int (iI 0)), none]) rfl rfl ?_
              refine sL (pc' := 70) (i := .iload_n 1) rfl rfl ?_
              refine sKb (p := 72) rfl rfl ?_
              refine sIc_eq (p := 75) rfl rfl ⟨by omega, by omega⟩ ⟨by omega, by omega⟩ (fun c3 => ?_) (fun c3 => ?_)
              · exfalso; omega
              · have c3 := c3
                refine sL (pc' := 76) (i := .iload_n 1) rfl rfl ?_
                refine sKb (p := 78) rfl rfl ?_
                refine sIc_eq (p := 81) rfl rfl ⟨by omega, by omega⟩ ⟨by omega, by omega⟩ (fun c4 => ?_) (fun c4 => ?_)
                · exfalso; omega
                · have c4 := c4
                  refine sL (pc' := 82) (i := .iload_n 1) rfl rfl ?_
                  refine sKb (p := 84) rfl rfl ?_
                  refine sIc_eq (p := 87) rfl rfl ⟨by omega, by omega⟩ ⟨by omega, by omega⟩ (fun c5 => ?_) (fun c5 => ?_)
                  · exfalso; omega
                  · have c5 := c5
                    refine sL (pc' := 88) (i := .iload_n 1) rfl rfl ?_
                    refine sKb (p := 90) rfl rfl ?_
                    refine sIc_eq (p := 93) rfl rfl ⟨by omega, by omega⟩ ⟨by omega, by omega⟩ (fun c6 => ?_) (fun c6 => ?_)
                    · exfalso; omega
                    · have c6 := c6
                      refine sL (pc' := 94) (i := .iload_n 1) rfl rfl ?_
                      refine sKb (p := 96) rfl rfl ?_
                      refine sIc_eq (p := 99) rfl rfl ⟨by omega, by omega⟩ ⟨by omega, by omega⟩ (fun c7 => ?_) (fun c7 => ?_)
                      · exfalso; omega
                      · have c7 := c7
                        refine sL (pc' := 100) (i := .iload_n 1) rfl rfl ?_
                        refine sKb (p := 102) rfl rfl ?_
                        refine sIc_eq (p := 105) rfl rfl ⟨by omega, by omega⟩ ⟨by omega, by omega⟩ (fun c8 => ?_) (fun c8 => ?_)
                        · exfalso; omega
                        · have c8 := c8
                          refine sL (pc' := 106) (i := .iload_n 1) rfl rfl ?_
                          refine sKb (p := 108) rfl rfl ?_
                          refine sIc_eq (p := 111) rfl rfl ⟨by omega, by omega⟩ ⟨by omega, by omega⟩ (fun c9 => ?_) (fun c9 => ?_)
                          · exfalso; omega
                          · have c9 := c9
                            refine sL (pc' := 112) (i := .iload_n 1) rfl rfl ?_
                            refine sKb (p := 114) rfl rfl ?_
                            refine sIc_eq (p := 117) rfl rfl ⟨by omega, by omega⟩ ⟨by omega, by omega⟩ (fun c10 => ?_) (fun c10 => ?_)
                            · exfalso; omega
                            · have c10 := c10
                              refine sL (pc' := 118) (i := .iload_n 1) rfl rfl ?_
                              refine sKb (p := 120) rfl rfl ?_
                              refine sIc_eq (p := 123) rfl rfl ⟨by omega, by omega⟩ ⟨by omega, by omega⟩ (fun c11 => ?_) (fun c11 => ?_)
                              · have c11 := c11
                                refine sKi (p := 142) rfl rfl ?_
                                refine sL (i := .goto 4) rfl rfl ?_
                                refine sL (pc' := 148) (i := .istore 4) (ls' := [some (.ref 179), some (.int (iI ((y a : Nat) : Int))), some (.int (iI 0)), some (.int (iI 0)), some (.int (iI 1))]) rfl rfl ?_
                                refine sL (pc' := 149) (i := .iload_n 2) rfl rfl ?_
                                refine sIf_ne (p := 152) rfl rfl ⟨by omega, by omega⟩ (fun c12 => ?_) (fun c12 => ?_)
                                · exact absurd c12 (by decide)
                                · have c12 := c12
                                  refine sL (pc' := 153) (i := .iload_n 3) rfl rfl ?_
                                  refine sIf_ne (p := 156) rfl rfl ⟨by omega, by omega⟩ (fun c13 => ?_) (fun c13 => ?_)
                                  · exact absurd c13 (by decide)
                                  · have c13 := c13
                                    refine sL (pc' := 158) (i := .iload 4) rfl rfl ?_
                                    refine sIf_ne (p := 161) rfl rfl ⟨by omega, by omega⟩ (fun c14 => ?_) (fun c14 => ?_)
                                    · have c14 := c14
                                      refine sL (pc' := 171) (i := .aload_n 0) rfl rfl ?_
                                      refine sL (pc' := 172) (i := .iload_n 2) rfl rfl ?_
                                      refine sIf_eq (p := 175) rfl rfl ⟨by omega, by omega⟩ (fun c15 => ?_) (fun c15 => ?_)
                                      · have c15 := c15
                                        refine sL (pc' := 182) (i := .iload_n 3) rfl rfl ?_
                                        refine sIf_eq (p := 185) rfl rfl ⟨by omega, by omega⟩ (fun c16 => ?_) (fun c16 => ?_)
                                        · have c16 := c16
                                          refine sL (pc' := 192) (i := .iload_n 1) rfl rfl ?_
                                          refine sPi (z := ((y a : Nat) : Int)) (p := 195) rfl rfl (sk_179 _) rfl rfl rfl rfl ?_
                                          refine sL (pc' := 196) (i := .aload_n 0) rfl rfl ?_
                                          refine sL (pc' := 197) (i := .dup) rfl rfl ?_
                                          refine sGi (p := 200) rfl rfl (sk_179 _) rfl rfl rfl ((rI_nj (by decide)).trans hp) ?_
                                          refine sL (pc' := 201) (i := .iload_n 2) rfl rfl ?_
                                          refine sIf_eq (p := 204) rfl rfl ⟨by omega, by omega⟩ (fun c17 => ?_) (fun c17 => ?_)
                                          · have c17 := c17
                                            refine sL (pc' := 209) (i := .iload_n 3) rfl rfl ?_
                                            refine sIf_eq (p := 212) rfl rfl ⟨by omega, by omega⟩ (fun c18 => ?_) (fun c18 => ?_)
                                            · have c18 := c18
                                              refine sKi (p := 217) rfl rfl ?_
                                              refine sAd (p := 218) rfl rfl ?_
                                              refine sPi (z := (((a : Nat) : Int) + 1)) (p := 221) rfl rfl (sk_179 _) rfl rfl rfl rfl ?_
                                              refine sEn (i := .return_) rfl (rfl) ?_
                                              exact ⟨rfl, rfl⟩
                                            · exact absurd c18 (by decide)
                                          · exact absurd c17 (by decide)
                                        · exact absurd c16 (by decide)
                                      · exact absurd c15 (by decide)
                                    · exact absurd c14 (by decide)
                              · exfalso; omega
            · exfalso; omega
          · exfalso; omega
        · skip
          refine sIni (ls := [some (.ref 179), some (.int (iI ((y a : Nat) : Int))), none, none, none]) rfl ?_
          refine sL (pc' := 1) (i := .iload_n 1) rfl rfl ?_
          refine sKb (p := 3) rfl rfl ?_
          refine sIc_ne (p := 6) rfl rfl ⟨by omega, by omega⟩ ⟨by omega, by omega⟩ (fun c1 => ?_) (fun c1 => ?_)
          · have c1 := c1
            refine sKi (p := 26) rfl rfl ?_
            refine sL (pc' := 27) (i := .istore_n 2) (ls' := [some (.ref 179), some (.int (iI ((y a : Nat) : Int))), some (.int (iI 0)), none, none]) rfl rfl ?_
            refine sL (pc' := 28) (i := .iload_n 1) rfl rfl ?_
            refine sKb (p := 30) rfl rfl ?_
            refine sIc_ne (p := 33) rfl rfl ⟨by omega, by omega⟩ ⟨by omega, by omega⟩ (fun c2 => ?_) (fun c2 => ?_)
            · have c2 := c2
              refine sKi (p := 68) rfl rfl ?_
              refine sL (pc' := 69) (i := .istore_n 3) (ls' := [some (.ref 179), some (.int (iI ((y a : Nat) : Int))), some (.int (iI 0)), some (.int (iI 0)), none]) rfl rfl ?_
              refine sL (pc' := 70) (i := .iload_n 1) rfl rfl ?_
              refine sKb (p := 72) rfl rfl ?_
              refine sIc_eq (p := 75) rfl rfl ⟨by omega, by omega⟩ ⟨by omega, by omega⟩ (fun c3 => ?_) (fun c3 => ?_)
              · exfalso; omega
              · have c3 := c3
                refine sL (pc' := 76) (i := .iload_n 1) rfl rfl ?_
                refine sKb (p := 78) rfl rfl ?_
                refine sIc_eq (p := 81) rfl rfl ⟨by omega, by omega⟩ ⟨by omega, by omega⟩ (fun c4 => ?_) (fun c4 => ?_)
                · exfalso; omega
                · have c4 := c4
                  refine sL (pc' := 82) (i := .iload_n 1) rfl rfl ?_
                  refine sKb (p := 84) rfl rfl ?_
                  refine sIc_eq (p := 87) rfl rfl ⟨by omega, by omega⟩ ⟨by omega, by omega⟩ (fun c5 => ?_) (fun c5 => ?_)
                  · exfalso; omega
                  · have c5 := c5
                    refine sL (pc' := 88) (i := .iload_n 1) rfl rfl ?_
                    refine sKb (p := 90) rfl rfl ?_
                    refine sIc_eq (p := 93) rfl rfl ⟨by omega, by omega⟩ ⟨by omega, by omega⟩ (fun c6 => ?_) (fun c6 => ?_)
                    · exfalso; omega
                    · have c6 := c6
                      refine sL (pc' := 94) (i := .iload_n 1) rfl rfl ?_
                      refine sKb (p := 96) rfl rfl ?_
                      refine sIc_eq (p := 99) rfl rfl ⟨by omega, by omega⟩ ⟨by omega, by omega⟩ (fun c7 => ?_) (fun c7 => ?_)
                      · exfalso; omega
                      · have c7 := c7
                        refine sL (pc' := 100) (i := .iload_n 1) rfl rfl ?_
                        refine sKb (p := 102) rfl rfl ?_
                        refine sIc_eq (p := 105) rfl rfl ⟨by omega, by omega⟩ ⟨by omega, by omega⟩ (fun c8 => ?_) (fun c8 => ?_)
                        · exfalso; omega
                        · have c8 := c8
                          refine sL (pc' := 106) (i := .iload_n 1) rfl rfl ?_
                          refine sKb (p := 108) rfl rfl ?_
                          refine sIc_eq (p := 111) rfl rfl ⟨by omega, by omega⟩ ⟨by omega, by omega⟩ (fun c9 => ?_) (fun c9 => ?_)
                          · exfalso; omega
                          · have c9 := c9
                            refine sL (pc' := 112) (i := .iload_n 1) rfl rfl ?_
                            refine sKb (p := 114) rfl rfl ?_
                            refine sIc_eq (p := 117) rfl rfl ⟨by omega, by omega⟩ ⟨by omega, by omega⟩ (fun c10 => ?_) (fun c10 => ?_)
                            · exfalso; omega
                            · have c10 := c10
                              refine sL (pc' := 118) (i := .iload_n 1) rfl rfl ?_
                              refine sKb (p := 120) rfl rfl ?_
                              refine sIc_eq (p := 123) rfl rfl ⟨by omega, by omega⟩ ⟨by omega, by omega⟩ (fun c11 => ?_) (fun c11 => ?_)
                              · exfalso; omega
                              · have c11 := c11
                                refine sL (pc' := 124) (i := .iload_n 1) rfl rfl ?_
                                refine sKb (p := 126) rfl rfl ?_
                                refine sIc_eq (p := 129) rfl rfl ⟨by omega, by omega⟩ ⟨by omega, by omega⟩ (fun c12 => ?_) (fun c12 => ?_)
                                · have c12 := c12
                                  refine sKi (p := 142) rfl rfl ?_
                                  refine sL (i := .goto 4) rfl rfl ?_
                                  refine sL (pc' := 148) (i := .istore 4) (ls' := [some (.ref 179), some (.int (iI ((y a : Nat) : Int))), some (.int (iI 0)), some (.int (iI 0)), some (.int (iI 1))]) rfl rfl ?_
                                  refine sL (pc' := 149) (i := .iload_n 2) rfl rfl ?_
                                  refine sIf_ne (p := 152) rfl rfl ⟨by omega, by omega⟩ (fun c13 => ?_) (fun c13 => ?_)
                                  · exact absurd c13 (by decide)
                                  · have c13 := c13
                                    refine sL (pc' := 153) (i := .iload_n 3) rfl rfl ?_
                                    refine sIf_ne (p := 156) rfl rfl ⟨by omega, by omega⟩ (fun c14 => ?_) (fun c14 => ?_)
                                    · exact absurd c14 (by decide)
                                    · have c14 := c14
                                      refine sL (pc' := 158) (i := .iload 4) rfl rfl ?_
                                      refine sIf_ne (p := 161) rfl rfl ⟨by omega, by omega⟩ (fun c15 => ?_) (fun c15 => ?_)
                                      · have c15 := c15
                                        refine sL (pc' := 171) (i := .aload_n 0) rfl rfl ?_
                                        refine sL (pc' := 172) (i := .iload_n 2) rfl rfl ?_
                                        refine sIf_eq (p := 175) rfl rfl ⟨by omega, by omega⟩ (fun c16 => ?_) (fun c16 => ?_)
                                        · have c16 := c16
                                          refine sL (pc' := 182) (i := .iload_n 3) rfl rfl ?_
                                          refine sIf_eq (p := 185) rfl rfl ⟨by omega, by omega⟩ (fun c17 => ?_) (fun c17 => ?_)
                                          · have c17 := c17
                                            refine sL (pc' := 192) (i := .iload_n 1) rfl rfl ?_
                                            refine sPi (z := ((y a : Nat) : Int)) (p := 195) rfl rfl (sk_179 _) rfl rfl rfl rfl ?_
                                            refine sL (pc' := 196) (i := .aload_n 0) rfl rfl ?_
                                            refine sL (pc' := 197) (i := .dup) rfl rfl ?_
                                            refine sGi (p := 200) rfl rfl (sk_179 _) rfl rfl rfl ((rI_nj (by decide)).trans hp) ?_
                                            refine sL (pc' := 201) (i := .iload_n 2) rfl rfl ?_
                                            refine sIf_eq (p := 204) rfl rfl ⟨by omega, by omega⟩ (fun c18 => ?_) (fun c18 => ?_)
                                            · have c18 := c18
                                              refine sL (pc' := 209) (i := .iload_n 3) rfl rfl ?_
                                              refine sIf_eq (p := 212) rfl rfl ⟨by omega, by omega⟩ (fun c19 => ?_) (fun c19 => ?_)
                                              · have c19 := c19
                                                refine sKi (p := 217) rfl rfl ?_
                                                refine sAd (p := 218) rfl rfl ?_
                                                refine sPi (z := (((a : Nat) : Int) + 1)) (p := 221) rfl rfl (sk_179 _) rfl rfl rfl rfl ?_
                                                refine sEn (i := .return_) rfl (rfl) ?_
                                                exact ⟨rfl, rfl⟩
                                              · exact absurd c19 (by decide)
                                            · exact absurd c18 (by decide)
                                          · exact absurd c17 (by decide)
                                        · exact absurd c16 (by decide)
                                      · exact absurd c15 (by decide)
                                · exfalso; omega
            · exfalso; omega
          · exfalso; omega
        · skip
          refine sIni (ls := [some (.ref 179), some (.int (iI ((y a : Nat) : Int))), none, none, none]) rfl ?_
          refine sL (pc' := 1) (i := .iload_n 1) rfl rfl ?_
          refine sKb (p := 3) rfl rfl ?_
          refine sIc_ne (p := 6) rfl rfl ⟨by omega, by omega⟩ ⟨by omega, by omega⟩ (fun c1 => ?_) (fun c1 => ?_)
          · have c1 := c1
            refine sKi (p := 26) rfl rfl ?_
            refine sL (pc' := 27) (i := .istore_n 2) (ls' := [some (.ref 179), some (.int (iI ((y a : Nat) : Int))), some (.int (iI 0)), none, none]) rfl rfl ?_
            refine sL (pc' := 28) (i := .iload_n 1) rfl rfl ?_
            refine sKb (p := 30) rfl rfl ?_
            refine sIc_ne (p := 33) rfl rfl ⟨by omega, by omega⟩ ⟨by omega, by omega⟩ (fun c2 => ?_) (fun c2 => ?_)
            · have c2 := c2
              refine sKi (p := 68) rfl rfl ?_
              refine sL (pc' := 69) (i := .istore_n 3) (ls' := [some (.ref 179), some (.int (iI ((y a : Nat) : Int))), some (.int (iI 0)), some (.int (iI 0)), none]) rfl rfl ?_
              refine sL (pc' := 70) (i := .iload_n 1) rfl rfl ?_
              refine sKb (p := 72) rfl rfl ?_
              refine sIc_eq (p := 75) rfl rfl ⟨by omega, by omega⟩ ⟨by omega, by omega⟩ (fun c3 => ?_) (fun c3 => ?_)
              · exfalso; omega
              · have c3 := c3
                refine sL (pc' := 76) (i := .iload_n 1) rfl rfl ?_
                refine sKb (p := 78) rfl rfl ?_
                refine sIc_eq (p := 81) rfl rfl ⟨by omega, by omega⟩ ⟨by omega, by omega⟩ (fun c4 => ?_) (fun c4 => ?_)
                · exfalso; omega
                · have c4 := c4
                  refine sL (pc' := 82) (i := .iload_n 1) rfl rfl ?_
                  refine sKb (p := 84) rfl rfl ?_
                  refine sIc_eq (p := 87) rfl rfl ⟨by omega, by omega⟩ ⟨by omega, by omega⟩ (fun c5 => ?_) (fun c5 => ?_)
                  · exfalso; omega
                  · have c5 := c5
                    refine sL (pc' := 88) (i := .iload_n 1) rfl rfl ?_
                    refine sKb (p := 90) rfl rfl ?_
                    refine sIc_eq (p := 93) rfl rfl ⟨by omega, by omega⟩ ⟨by omega, by omega⟩ (fun c6 => ?_) (fun c6 => ?_)
                    · exfalso; omega
                    · have c6 := c6
                      refine sL (pc' := 94) (i := .iload_n 1) rfl rfl ?_
                      refine sKb (p := 96) rfl rfl ?_
                      refine sIc_eq (p := 99) rfl rfl ⟨by omega, by omega⟩ ⟨by omega, by omega⟩ (fun c7 => ?_) (fun c7 => ?_)
                      · exfalso; omega
                      · have c7 := c7
                        refine sL (pc' := 100) (i := .iload_n 1) rfl rfl ?_
                        refine sKb (p := 102) rfl rfl ?_
                        refine sIc_eq (p := 105) rfl rfl ⟨by omega, by omega⟩ ⟨by omega, by omega⟩ (fun c8 => ?_) (fun c8 => ?_)
                        · exfalso; omega
                        · have c8 := c8
                          refine sL (pc' := 106) (i := .iload_n 1) rfl rfl ?_
                          refine sKb (p := 108) rfl rfl ?_
                          refine sIc_eq (p := 111) rfl rfl ⟨by omega, by omega⟩ ⟨by omega, by omega⟩ (fun c9 => ?_) (fun c9 => ?_)
                          · exfalso; omega
                          · have c9 := c9
                            refine sL (pc' := 112) (i := .iload_n 1) rfl rfl ?_
                            refine sKb (p := 114) rfl rfl ?_
                            refine sIc_eq (p := 117) rfl rfl ⟨by omega, by omega⟩ ⟨by omega, by omega⟩ (fun c10 => ?_) (fun c10 => ?_)
                            · exfalso; omega
                            · have c10 := c10
                              refine sL (pc' := 118) (i := .iload_n 1) rfl rfl ?_
                              refine sKb (p := 120) rfl rfl ?_
                              refine sIc_eq (p := 123) rfl rfl ⟨by omega, by omega⟩ ⟨by omega, by omega⟩ (fun c11 => ?_) (fun c11 => ?_)
                              · exfalso; omega
                              · have c11 := c11
                                refine sL (pc' := 124) (i := .iload_n 1) rfl rfl ?_
                                refine sKb (p := 126) rfl rfl ?_
                                refine sIc_eq (p := 129) rfl rfl ⟨by omega, by omega⟩ ⟨by omega, by omega⟩ (fun c12 => ?_) (fun c12 => ?_)
                                · exfalso; omega
                                · have c12 := c12
                                  refine sL (pc' := 130) (i := .iload_n 1) rfl rfl ?_
                                  refine sKb (p := 132) rfl rfl ?_
                                  refine sIc_eq (p := 135) rfl rfl ⟨by omega, by omega⟩ ⟨by omega, by omega⟩ (fun c13 => ?_) (fun c13 => ?_)
                                  · have c13 := c13
                                    refine sKi (p := 142) rfl rfl ?_
                                    refine sL (i := .goto 4) rfl rfl ?_
                                    refine sL (pc' := 148) (i := .istore 4) (ls' := [some (.ref 179), some (.int (iI ((y a : Nat) : Int))), some (.int (iI 0)), some (.int (iI 0)), some (.int (iI 1))]) rfl rfl ?_
                                    refine sL (pc' := 149) (i := .iload_n 2) rfl rfl ?_
                                    refine sIf_ne (p := 152) rfl rfl ⟨by omega, by omega⟩ (fun c14 => ?_) (fun c14 => ?_)
                                    · exact absurd c14 (by decide)
                                    · have c14 := c14
                                      refine sL (pc' := 153) (i := .iload_n 3) rfl rfl ?_
                                      refine sIf_ne (p := 156) rfl rfl ⟨by omega, by omega⟩ (fun c15 => ?_) (fun c15 => ?_)
                                      · exact absurd c15 (by decide)
                                      · have c15 := c15
                                        refine sL (pc' := 158) (i := .iload 4) rfl rfl ?_
                                        refine sIf_ne (p := 161) rfl rfl ⟨by omega, by omega⟩ (fun c16 => ?_) (fun c16 => ?_)
                                        · have c16 := c16
                                          refine sL (pc' := 171) (i := .aload_n 0) rfl rfl ?_
                                          refine sL (pc' := 172) (i := .iload_n 2) rfl rfl ?_
                                          refine sIf_eq (p := 175) rfl rfl ⟨by omega, by omega⟩ (fun c17 => ?_) (fun c17 => ?_)
                                          · have c17 := c17
                                            refine sL (pc' := 182) (i := .iload_n 3) rfl rfl ?_
                                            refine sIf_eq (p := 185) rfl rfl ⟨by omega, by omega⟩ (fun c18 => ?_) (fun c18 => ?_)
                                            · have c18 := c18
                                              refine sL (pc' := 192) (i := .iload_n 1) rfl rfl ?_
                                              refine sPi (z := ((y a : Nat) : Int)) (p := 195) rfl rfl (sk_179 _) rfl rfl rfl rfl ?_
                                              refine sL (pc' := 196) (i := .aload_n 0) rfl rfl ?_
                                              refine sL (pc' := 197) (i := .dup) rfl rfl ?_
                                              refine sGi (p := 200) rfl rfl (sk_179 _) rfl rfl rfl ((rI_nj (by decide)).trans hp) ?_
                                              refine sL (pc' := 201) (i := .iload_n 2) rfl rfl ?_
                                              refine sIf_eq (p := 204) rfl rfl ⟨by omega, by omega⟩ (fun c19 => ?_) (fun c19 => ?_)
                                              · have c19 := c19
                                                refine sL (pc' := 209) (i := .iload_n 3) rfl rfl ?_
                                                refine sIf_eq (p := 212) rfl rfl ⟨by omega, by omega⟩ (fun c20 => ?_) (fun c20 => ?_)
                                                · have c20 := c20
                                                  refine sKi (p := 217) rfl rfl ?_
                                                  refine sAd (p := 218) rfl rfl ?_
                                                  refine sPi (z := (((a : Nat) : Int) + 1)) (p := 221) rfl rfl (sk_179 _) rfl rfl rfl rfl ?_
                                                  refine sEn (i := .return_) rfl (rfl) ?_
                                                  exact ⟨rfl, rfl⟩
                                                · exact absurd c20 (by decide)
                                              · exact absurd c19 (by decide)
                                            · exact absurd c18 (by decide)
                                          · exact absurd c17 (by decide)
                                        · exact absurd c16 (by decide)
                                  · exfalso; omega
            · exfalso; omega
          · exfalso; omega
        · skip
          refine sIni (ls := [some (.ref 179), some (.int (iI ((y a : Nat) : Int))), none, none, none]) rfl ?_
          refine sL (pc' := 1) (i := .iload_n 1) rfl rfl ?_
          refine sKb (p := 3) rfl rfl ?_
          refine sIc_ne (p := 6) rfl rfl ⟨by omega, by omega⟩ ⟨by omega, by omega⟩ (fun c1 => ?_) (fun c1 => ?_)
          · have c1 := c1
            refine sKi (p := 26) rfl rfl ?_
            refine sL (pc' := 27) (i := .istore_n 2) (ls' := [some (.ref 179), some (.int (iI ((y a : Nat) : Int))), some (.int (iI 0)), none, none]) rfl rfl ?_
            refine sL (pc' := 28) (i := .iload_n 1) rfl rfl ?_
            refine sKb (p := 30) rfl rfl ?_
            refine sIc_ne (p := 33) rfl rfl ⟨by omega, by omega⟩ ⟨by omega, by omega⟩ (fun c2 => ?_) (fun c2 => ?_)
            · have c2 := c2
              refine sKi (p := 68) rfl rfl ?_
              refine sL (pc' := 69) (i := .istore_n 3) (ls' := [some (.ref 179), some (.int (iI ((y a : Nat) : Int))), some (.int (iI 0)), some (.int (iI 0)), none]) rfl rfl ?_
              refine sL (pc' := 70) (i := .iload_n 1) rfl rfl ?_
              refine sKb (p := 72) rfl rfl ?_
              refine sIc_eq (p := 75) rfl rfl ⟨by omega, by omega⟩ ⟨by omega, by omega⟩ (fun c3 => ?_) (fun c3 => ?_)
              · exfalso; omega
              · have c3 := c3
                refine sL (pc' := 76) (i := .iload_n 1) rfl rfl ?_
                refine sKb (p := 78) rfl rfl ?_
                refine sIc_eq (p := 81) rfl rfl ⟨by omega, by omega⟩ ⟨by omega, by omega⟩ (fun c4 => ?_) (fun c4 => ?_)
                · exfalso; omega
                · have c4 := c4
                  refine sL (pc' := 82) (i := .iload_n 1) rfl rfl ?_
                  refine sKb (p := 84) rfl rfl ?_
                  refine sIc_eq (p := 87) rfl rfl ⟨by omega, by omega⟩ ⟨by omega, by omega⟩ (fun c5 => ?_) (fun c5 => ?_)
                  · exfalso; omega
                  · have c5 := c5
                    refine sL (pc' := 88) (i := .iload_n 1) rfl rfl ?_
                    refine sKb (p := 90) rfl rfl ?_
                    refine sIc_eq (p := 93) rfl rfl ⟨by omega, by omega⟩ ⟨by omega, by omega⟩ (fun c6 => ?_) (fun c6 => ?_)
                    · exfalso; omega
                    · have c6 := c6
                      refine sL (pc' := 94) (i := .iload_n 1) rfl rfl ?_
                      refine sKb (p := 96) rfl rfl ?_
                      refine sIc_eq (p := 99) rfl rfl ⟨by omega, by omega⟩ ⟨by omega, by omega⟩ (fun c7 => ?_) (fun c7 => ?_)
                      · exfalso; omega
                      · have c7 := c7
                        refine sL (pc' := 100) (i := .iload_n 1) rfl rfl ?_
                        refine sKb (p := 102) rfl rfl ?_
                        refine sIc_eq (p := 105) rfl rfl ⟨by omega, by omega⟩ ⟨by omega, by omega⟩ (fun c8 => ?_) (fun c8 => ?_)
                        · exfalso; omega
                        · have c8 := c8
                          refine sL (pc' := 106) (i := .iload_n 1) rfl rfl ?_
                          refine sKb (p := 108) rfl rfl ?_
                          refine sIc_eq (p := 111) rfl rfl ⟨by omega, by omega⟩ ⟨by omega, by omega⟩ (fun c9 => ?_) (fun c9 => ?_)
                          · exfalso; omega
                          · have c9 := c9
                            refine sL (pc' := 112) (i := .iload_n 1) rfl rfl ?_
                            refine sKb (p := 114) rfl rfl ?_
                            refine sIc_eq (p := 117) rfl rfl ⟨by omega, by omega⟩ ⟨by omega, by omega⟩ (fun c10 => ?_) (fun c10 => ?_)
                            · exfalso; omega
                            · have c10 := c10
                              refine sL (pc' := 118) (i := .iload_n 1) rfl rfl ?_
                              refine sKb (p := 120) rfl rfl ?_
                              refine sIc_eq (p := 123) rfl rfl ⟨by omega, by omega⟩ ⟨by omega, by omega⟩ (fun c11 => ?_) (fun c11 => ?_)
                              · exfalso; omega
                              · have c11 := c11
                                refine sL (pc' := 124) (i := .iload_n 1) rfl rfl ?_
                                refine sKb (p := 126) rfl rfl ?_
                                refine sIc_eq (p := 129) rfl rfl ⟨by omega, by omega⟩ ⟨by omega, by omega⟩ (fun c12 => ?_) (fun c12 => ?_)
                                · exfalso; omega
                                · have c12 := c12
                                  refine sL (pc' := 130) (i := .iload_n 1) rfl rfl ?_
                                  refine sKb (p := 132) rfl rfl ?_
                                  refine sIc_eq (p := 135) rfl rfl ⟨by omega, by omega⟩ ⟨by omega, by omega⟩ (fun c13 => ?_) (fun c13 => ?_)
                                  · exfalso; omega
                                  · have c13 := c13
                                    refine sL (pc' := 136) (i := .iload_n 1) rfl rfl ?_
                                    refine sKb (p := 138) rfl rfl ?_
                                    refine sIc_ne (p := 141) rfl rfl ⟨by omega, by omega⟩ ⟨by omega, by omega⟩ (fun c14 => ?_) (fun c14 => ?_)
                                    · exfalso; omega
                                    · have c14 := c14
                                      refine sKi (p := 142) rfl rfl ?_
                                      refine sL (i := .goto 4) rfl rfl ?_
                                      refine sL (pc' := 148) (i := .istore 4) (ls' := [some (.ref 179), some (.int (iI ((y a : Nat) : Int))), some (.int (iI 0)), some (.int (iI 0)), some (.int (iI 1))]) rfl rfl ?_
                                      refine sL (pc' := 149) (i := .iload_n 2) rfl rfl ?_
                                      refine sIf_ne (p := 152) rfl rfl ⟨by omega, by omega⟩ (fun c15 => ?_) (fun c15 => ?_)
                                      · exact absurd c15 (by decide)
                                      · have c15 := c15
                                        refine sL (pc' := 153) (i := .iload_n 3) rfl rfl ?_
                                        refine sIf_ne (p := 156) rfl rfl ⟨by omega, by omega⟩ (fun c16 => ?_) (fun c16 => ?_)
                                        · exact absurd c16 (by decide)
                                        · have c16 := c16
                                          refine sL (pc' := 158) (i := .iload 4) rfl rfl ?_
                                          refine sIf_ne (p := 161) rfl rfl ⟨by omega, by omega⟩ (fun c17 => ?_) (fun c17 => ?_)
                                          · have c17 := c17
                                            refine sL (pc' := 171) (i := .aload_n 0) rfl rfl ?_
                                            refine sL (pc' := 172) (i := .iload_n 2) rfl rfl ?_
                                            refine sIf_eq (p := 175) rfl rfl ⟨by omega, by omega⟩ (fun c18 => ?_) (fun c18 => ?_)
                                            · have c18 := c18
                                              refine sL (pc' := 182) (i := .iload_n 3) rfl rfl ?_
                                              refine sIf_eq (p := 185) rfl rfl ⟨by omega, by omega⟩ (fun c19 => ?_) (fun c19 => ?_)
                                              · have c19 := c19
                                                refine sL (pc' := 192) (i := .iload_n 1) rfl rfl ?_
                                                refine sPi (z := ((y a : Nat) : Int)) (p := 195) rfl rfl (sk_179 _) rfl rfl rfl rfl ?_
                                                refine sL (pc' := 196) (i := .aload_n 0) rfl rfl ?_
                                                refine sL (pc' := 197) (i := .dup) rfl rfl ?_
                                                refine sGi (p := 200) rfl rfl (sk_179 _) rfl rfl rfl ((rI_nj (by decide)).trans hp) ?_
                                                refine sL (pc' := 201) (i := .iload_n 2) rfl rfl ?_
                                                refine sIf_eq (p := 204) rfl rfl ⟨by omega, by omega⟩ (fun c20 => ?_) (fun c20 => ?_)
                                                · have c20 := c20
                                                  refine sL (pc' := 209) (i := .iload_n 3) rfl rfl ?_
                                                  refine sIf_eq (p := 212) rfl rfl ⟨by omega, by omega⟩ (fun c21 => ?_) (fun c21 => ?_)
                                                  · have c21 := c21
                                                    refine sKi (p := 217) rfl rfl ?_
                                                    refine sAd (p := 218) rfl rfl ?_
                                                    refine sPi (z := (((a : Nat) : Int) + 1)) (p := 221) rfl rfl (sk_179 _) rfl rfl rfl rfl ?_
                                                    refine sEn (i := .return_) rfl (rfl) ?_
                                                    exact ⟨rfl, rfl⟩
                                                  · exact absurd c21 (by decide)
                                                · exact absurd c20 (by decide)
                                              · exact absurd c19 (by decide)
                                            · exact absurd c18 (by decide)
                                          · exact absurd c17 (by decide)
            · exfalso; omega
          · exfalso; omega
      · rw [show isY (y a) = false from decide_eq_false q3, if_neg (fun z : false = true => by cases z)] at eK
        rw [eK, eE, if_pos rfl, if_neg (by decide), if_neg (by decide)]
        by_cases q4 : y a = 60
        · by_cases q5 : bA y s (a + 1) = 61
          · skip
            refine sIni (ls := [some (.ref 179), some (.int (iI ((y a : Nat) : Int))), none, none, none]) rfl ?_
            refine sL (pc' := 1) (i := .iload_n 1) rfl rfl ?_
            refine sKb (p := 3) rfl rfl ?_
            refine sIc_ne (p := 6) rfl rfl ⟨by omega, by omega⟩ ⟨by omega, by omega⟩ (fun c1 => ?_) (fun c1 => ?_)
            · have c1 := c1
              refine sKi (p := 26) rfl rfl ?_
              refine sL (pc' := 27) (i := .istore_n 2) (ls' := [some (.ref 179), some (.int (iI ((y a : Nat) : Int))), some (.int (iI 0)), none, none]) rfl rfl ?_
              refine sL (pc' := 28) (i := .iload_n 1) rfl rfl ?_
              refine sKb (p := 30) rfl rfl ?_
              refine sIc_ne (p := 33) rfl rfl ⟨by omega, by omega⟩ ⟨by omega, by omega⟩ (fun c2 => ?_) (fun c2 => ?_)
              · exfalso; omega
              · have c2 := c2
                refine sL (pc' := 34) (i := .aload_n 0) rfl rfl ?_
                refine sL (pc' := 35) (i := .aload_n 0) rfl rfl ?_
                refine sGi (p := 38) rfl rfl (sk_179 _) rfl rfl rfl hp ?_
                refine sKi (p := 39) rfl rfl ?_
                refine sAd (p := 40) rfl rfl ?_
                refine sCv (p := 43) (as := [_]) rfl rfl rfl rfl (by decide) (Nat.le_of_ble_eq_true rfl) rfl (Nat.le_of_ble_eq_true rfl) (sk_179 _) rfl (by omega) (m_look (p := a + 1) ht (by omega)) ?_
                refine sKb (p := 45) rfl rfl ?_
                refine sIc_ne (p := 48) rfl rfl ⟨by omega, by omega⟩ ⟨by omega, by omega⟩ (fun c3 => ?_) (fun c3 => ?_)
                · exfalso; omega
                · have c3 := c3
                  refine sL (pc' := 49) (i := .aload_n 0) rfl rfl ?_
                  refine sL (pc' := 50) (i := .aload_n 0) rfl rfl ?_
                  refine sGi (p := 53) rfl rfl (sk_179 _) rfl rfl rfl hp ?_
                  refine sKi (p := 54) rfl rfl ?_
                  refine sAd (p := 55) rfl rfl ?_
                  refine sCv (p := 58) (as := [_]) rfl rfl rfl rfl (by decide) (Nat.le_of_ble_eq_true rfl) rfl (Nat.le_of_ble_eq_true rfl) (sk_179 _) rfl (by omega) (m_look (p := a + 2) ht (by omega)) ?_
                  refine sKb (p := 60) rfl rfl ?_
                  refine sIc_ne (p := 63) rfl rfl ⟨by omega, by omega⟩ ⟨by omega, by omega⟩ (fun c4 => ?_) (fun c4 => ?_)
                  · have c4 := c4
                    refine sKi (p := 68) rfl rfl ?_
                    refine sL (pc' := 69) (i := .istore_n 3) (ls' := [some (.ref 179), some (.int (iI ((y a : Nat) : Int))), some (.int (iI 0)), some (.int (iI 0)), none]) rfl rfl ?_
                    refine sL (pc' := 70) (i := .iload_n 1) rfl rfl ?_
                    refine sKb (p := 72) rfl rfl ?_
                    refine sIc_eq (p := 75) rfl rfl ⟨by omega, by omega⟩ ⟨by omega, by omega⟩ (fun c5 => ?_) (fun c5 => ?_)
                    · exfalso; omega
                    · have c5 := c5
                      refine sL (pc' := 76) (i := .iload_n 1) rfl rfl ?_
                      refine sKb (p := 78) rfl rfl ?_
                      refine sIc_eq (p := 81) rfl rfl ⟨by omega, by omega⟩ ⟨by omega, by omega⟩ (fun c6 => ?_) (fun c6 => ?_)
                      · exfalso; omega
                      · have c6 := c6
                        refine sL (pc' := 82) (i := .iload_n 1) rfl rfl ?_
                        refine sKb (p := 84) rfl rfl ?_
                        refine sIc_eq (p := 87) rfl rfl ⟨by omega, by omega⟩ ⟨by omega, by omega⟩ (fun c7 => ?_) (fun c7 => ?_)
                        · exfalso; omega
                        · have c7 := c7
                          refine sL (pc' := 88) (i := .iload_n 1) rfl rfl ?_
                          refine sKb (p := 90) rfl rfl ?_
                          refine sIc_eq (p := 93) rfl rfl ⟨by omega, by omega⟩ ⟨by omega, by omega⟩ (fun c8 => ?_) (fun c8 => ?_)
                          · exfalso; omega
                          · have c8 := c8
                            refine sL (pc' := 94) (i := .iload_n 1) rfl rfl ?_
                            refine sKb (p := 96) rfl rfl ?_
                            refine sIc_eq (p := 99) rfl rfl ⟨by omega, by omega⟩ ⟨by omega, by omega⟩ (fun c9 => ?_) (fun c9 => ?_)
                            · exfalso; omega
                            · have c9 := c9
                              refine sL (pc' := 100) (i := .iload_n 1) rfl rfl ?_
                              refine sKb (p := 102) rfl rfl ?_
                              refine sIc_eq (p := 105) rfl rfl ⟨by omega, by omega⟩ ⟨by omega, by omega⟩ (fun c10 => ?_) (fun c10 => ?_)
                              · exfalso; omega
                              · have c10 := c10
                                refine sL (pc' := 106) (i := .iload_n 1) rfl rfl ?_
                                refine sKb (p := 108) rfl rfl ?_
                                refine sIc_eq (p := 111) rfl rfl ⟨by omega, by omega⟩ ⟨by omega, by omega⟩ (fun c11 => ?_) (fun c11 => ?_)
                                · exfalso; omega
                                · have c11 := c11
                                  refine sL (pc' := 112) (i := .iload_n 1) rfl rfl ?_
                                  refine sKb (p := 114) rfl rfl ?_
                                  refine sIc_eq (p := 117) rfl rfl ⟨by omega, by omega⟩ ⟨by omega, by omega⟩ (fun c12 => ?_) (fun c12 => ?_)
                                  · exfalso; omega
                                  · have c12 := c12
                                    refine sL (pc' := 118) (i := .iload_n 1) rfl rfl ?_
                                    refine sKb (p := 120) rfl rfl ?_
                                    refine sIc_eq (p := 123) rfl rfl ⟨by omega, by omega⟩ ⟨by omega, by omega⟩ (fun c13 => ?_) (fun c13 => ?_)
                                    · exfalso; omega
                                    · have c13 := c13
                                      refine sL (pc' := 124) (i := .iload_n 1) rfl rfl ?_
                                      refine sKb (p := 126) rfl rfl ?_
                                      refine sIc_eq (p := 129) rfl rfl ⟨by omega, by omega⟩ ⟨by omega, by omega⟩ (fun c14 => ?_) (fun c14 => ?_)
                                      · exfalso; omega
                                      · have c14 := c14
                                        refine sL (pc' := 130) (i := .iload_n 1) rfl rfl ?_
                                        refine sKb (p := 132) rfl rfl ?_
                                        refine sIc_eq (p := 135) rfl rfl ⟨by omega, by omega⟩ ⟨by omega, by omega⟩ (fun c15 => ?_) (fun c15 => ?_)
                                        · exfalso; omega
                                        · have c15 := c15
                                          refine sL (pc' := 136) (i := .iload_n 1) rfl rfl ?_
                                          refine sKb (p := 138) rfl rfl ?_
                                          refine sIc_ne (p := 141) rfl rfl ⟨by omega, by omega⟩ ⟨by omega, by omega⟩ (fun c16 => ?_) (fun c16 => ?_)
                                          · have c16 := c16
                                            refine sKi (p := 146) rfl rfl ?_
                                            refine sL (pc' := 148) (i := .istore 4) (ls' := [some (.ref 179), some (.int (iI ((y a : Nat) : Int))), some (.int (iI 0)), some (.int (iI 0)), some (.int (iI 0))]) rfl rfl ?_
                                            refine sL (pc' := 149) (i := .iload_n 2) rfl rfl ?_
                                            refine sIf_ne (p := 152) rfl rfl ⟨by omega, by omega⟩ (fun c17 => ?_) (fun c17 => ?_)
                                            · exact absurd c17 (by decide)
                                            · have c17 := c17
                                              refine sL (pc' := 153) (i := .iload_n 3) rfl rfl ?_
                                              refine sIf_ne (p := 156) rfl rfl ⟨by omega, by omega⟩ (fun c18 => ?_) (fun c18 => ?_)
                                              · exact absurd c18 (by decide)
                                              · have c18 := c18
                                                refine sL (pc' := 158) (i := .iload 4) rfl rfl ?_
                                                refine sIf_ne (p := 161) rfl rfl ⟨by omega, by omega⟩ (fun c19 => ?_) (fun c19 => ?_)
                                                · exact absurd c19 (by decide)
                                                · have c19 := c19
                                                  refine sL (pc' := 162) (i := .aload_n 0) rfl rfl ?_
                                                  refine sKi (p := 163) rfl rfl ?_
                                                  refine sL (pc' := 164) (i := .aload_n 0) rfl rfl ?_
                                                  refine sGi (p := 167) rfl rfl (sk_179 _) rfl rfl rfl hst ?_
                                                  refine sCv (p := 170) (as := [_, _]) rfl rfl rfl rfl (by decide) (Nat.le_of_ble_eq_true rfl) rfl (Nat.le_of_ble_eq_true rfl) (sk_179 _) rfl (by omega) (m_bad hk hz) ?_
                                                  refine sL (pc' := 171) (i := .aload_n 0) rfl rfl ?_
                                                  refine sL (pc' := 172) (i := .iload_n 2) rfl rfl ?_
                                                  refine sIf_eq (p := 175) rfl rfl ⟨by omega, by omega⟩ (fun c20 => ?_) (fun c20 => ?_)
                                                  · have c20 := c20
                                                    refine sL (pc' := 182) (i := .iload_n 3) rfl rfl ?_
                                                    refine sIf_eq (p := 185) rfl rfl ⟨by omega, by omega⟩ (fun c21 => ?_) (fun c21 => ?_)
                                                    · have c21 := c21
                                                      refine sL (pc' := 192) (i := .iload_n 1) rfl rfl ?_
                                                      refine sPi (z := ((y a : Nat) : Int)) (p := 195) rfl rfl (sk_179 _) rfl rfl rfl rfl ?_
                                                      refine sL (pc' := 196) (i := .aload_n 0) rfl rfl ?_
                                                      refine sL (pc' := 197) (i := .dup) rfl rfl ?_
                                                      refine sGi (p := 200) rfl rfl (sk_179 _) rfl rfl rfl ((rI_nj (by decide)).trans ((bdS_f (by decide)).trans hp)) ?_
                                                      refine sL (pc' := 201) (i := .iload_n 2) rfl rfl ?_
                                                      refine sIf_eq (p := 204) rfl rfl ⟨by omega, by omega⟩ (fun c22 => ?_) (fun c22 => ?_)
                                                      · have c22 := c22
                                                        refine sL (pc' := 209) (i := .iload_n 3) rfl rfl ?_
                                                        refine sIf_eq (p := 212) rfl rfl ⟨by omega, by omega⟩ (fun c23 => ?_) (fun c23 => ?_)
                                                        · have c23 := c23
                                                          refine sKi (p := 217) rfl rfl ?_
                                                          refine sAd (p := 218) rfl rfl ?_
                                                          refine sPi (z := (((a : Nat) : Int) + 1)) (p := 221) rfl rfl (sk_179 _) rfl rfl rfl rfl ?_
                                                          refine sEn (i := .return_) rfl (rfl) ?_
                                                          exact ⟨rfl, rfl⟩
                                                        · exact absurd c23 (by decide)
                                                      · exact absurd c22 (by decide)
                                                    · exact absurd c21 (by decide)
                                                  · exact absurd c20 (by decide)
                                          · exfalso; omega
                  · exfalso; omega
            · exfalso; omega
          · skip
            refine sIni (ls := [some (.ref 179), some (.int (iI ((y a : Nat) : Int))), none, none, none]) rfl ?_
            refine sL (pc' := 1) (i := .iload_n 1) rfl rfl ?_
            refine sKb (p := 3) rfl rfl ?_
            refine sIc_ne (p := 6) rfl rfl ⟨by omega, by omega⟩ ⟨by omega, by omega⟩ (fun c1 => ?_) (fun c1 => ?_)
            · have c1 := c1
              refine sKi (p := 26) rfl rfl ?_
              refine sL (pc' := 27) (i := .istore_n 2) (ls' := [some (.ref 179), some (.int (iI ((y a : Nat) : Int))), some (.int (iI 0)), none, none]) rfl rfl ?_
              refine sL (pc' := 28) (i := .iload_n 1) rfl rfl ?_
              refine sKb (p := 30) rfl rfl ?_
              refine sIc_ne (p := 33) rfl rfl ⟨by omega, by omega⟩ ⟨by omega, by omega⟩ (fun c2 => ?_) (fun c2 => ?_)
              · exfalso; omega
              · have c2 := c2
                refine sL (pc' := 34) (i := .aload_n 0) rfl rfl ?_
                refine sL (pc' := 35) (i := .aload_n 0) rfl rfl ?_
                refine sGi (p := 38) rfl rfl (sk_179 _) rfl rfl rfl hp ?_
                refine sKi (p := 39) rfl rfl ?_
                refine sAd (p := 40) rfl rfl ?_
                refine sCv (p := 43) (as := [_]) rfl rfl rfl rfl (by decide) (Nat.le_of_ble_eq_true rfl) rfl (Nat.le_of_ble_eq_true rfl) (sk_179 _) rfl (by omega) (m_look (p := a + 1) ht (by omega)) ?_
                refine sKb (p := 45) rfl rfl ?_
                refine sIc_ne (p := 48) rfl rfl ⟨by omega, by omega⟩ ⟨by omega, by omega⟩ (fun c3 => ?_) (fun c3 => ?_)
                · have c3 := c3
                  refine sKi (p := 68) rfl rfl ?_
                  refine sL (pc' := 69) (i := .istore_n 3) (ls' := [some (.ref 179), some (.int (iI ((y a : Nat) : Int))), some (.int (iI 0)), some (.int (iI 0)), none]) rfl rfl ?_
                  refine sL (pc' := 70) (i := .iload_n 1) rfl rfl ?_
                  refine sKb (p := 72) rfl rfl ?_
                  refine sIc_eq (p := 75) rfl rfl ⟨by omega, by omega⟩ ⟨by omega, by omega⟩ (fun c4 => ?_) (fun c4 => ?_)
                  · exfalso; omega
                  · have c4 := c4
                    refine sL (pc' := 76) (i := .iload_n 1) rfl rfl ?_
                    refine sKb (p := 78) rfl rfl ?_
                    refine sIc_eq (p := 81) rfl rfl ⟨by omega, by omega⟩ ⟨by omega, by omega⟩ (fun c5 => ?_) (fun c5 => ?_)
                    · exfalso; omega
                    · have c5 := c5
                      refine sL (pc' := 82) (i := .iload_n 1) rfl rfl ?_
                      refine sKb (p := 84) rfl rfl ?_
                      refine sIc_eq (p := 87) rfl rfl ⟨by omega, by omega⟩ ⟨by omega, by omega⟩ (fun c6 => ?_) (fun c6 => ?_)
                      · exfalso; omega
                      · have c6 := c6
                        refine sL (pc' := 88) (i := .iload_n 1) rfl rfl ?_
                        refine sKb (p := 90) rfl rfl ?_
                        refine sIc_eq (p := 93) rfl rfl ⟨by omega, by omega⟩ ⟨by omega, by omega⟩ (fun c7 => ?_) (fun c7 => ?_)
                        · exfalso; omega
                        · have c7 := c7
                          refine sL (pc' := 94) (i := .iload_n 1) rfl rfl ?_
                          refine sKb (p := 96) rfl rfl ?_
                          refine sIc_eq (p := 99) rfl rfl ⟨by omega, by omega⟩ ⟨by omega, by omega⟩ (fun c8 => ?_) (fun c8 => ?_)
                          · exfalso; omega
                          · have c8 := c8
                            refine sL (pc' := 100) (i := .iload_n 1) rfl rfl ?_
                            refine sKb (p := 102) rfl rfl ?_
                            refine sIc_eq (p := 105) rfl rfl ⟨by omega, by omega⟩ ⟨by omega, by omega⟩ (fun c9 => ?_) (fun c9 => ?_)
                            · exfalso; omega
                            · have c9 := c9
                              refine sL (pc' := 106) (i := .iload_n 1) rfl rfl ?_
                              refine sKb (p := 108) rfl rfl ?_
                              refine sIc_eq (p := 111) rfl rfl ⟨by omega, by omega⟩ ⟨by omega, by omega⟩ (fun c10 => ?_) (fun c10 => ?_)
                              · exfalso; omega
                              · have c10 := c10
                                refine sL (pc' := 112) (i := .iload_n 1) rfl rfl ?_
                                refine sKb (p := 114) rfl rfl ?_
                                refine sIc_eq (p := 117) rfl rfl ⟨by omega, by omega⟩ ⟨by omega, by omega⟩ (fun c11 => ?_) (fun c11 => ?_)
                                · exfalso; omega
                                · have c11 := c11
                                  refine sL (pc' := 118) (i := .iload_n 1) rfl rfl ?_
                                  refine sKb (p := 120) rfl rfl ?_
                                  refine sIc_eq (p := 123) rfl rfl ⟨by omega, by omega⟩ ⟨by omega, by omega⟩ (fun c12 => ?_) (fun c12 => ?_)
                                  · exfalso; omega
                                  · have c12 := c12
                                    refine sL (pc' := 124) (i := .iload_n 1) rfl rfl ?_
                                    refine sKb (p := 126) rfl rfl ?_
                                    refine sIc_eq (p := 129) rfl rfl ⟨by omega, by omega⟩ ⟨by omega, by omega⟩ (fun c13 => ?_) (fun c13 => ?_)
                                    · exfalso; omega
                                    · have c13 := c13
                                      refine sL (pc' := 130) (i := .iload_n 1) rfl rfl ?_
                                      refine sKb (p := 132) rfl rfl ?_
                                      refine sIc_eq (p := 135) rfl rfl ⟨by omega, by omega⟩ ⟨by omega, by omega⟩ (fun c14 => ?_) (fun c14 => ?_)
                                      · exfalso; omega
                                      · have c14 := c14
                                        refine sL (pc' := 136) (i := .iload_n 1) rfl rfl ?_
                                        refine sKb (p := 138) rfl rfl ?_
                                        refine sIc_ne (p := 141) rfl rfl ⟨by omega, by omega⟩ ⟨by omega, by omega⟩ (fun c15 => ?_) (fun c15 => ?_)
                                        · have c15 := c15
                                          refine sKi (p := 146) rfl rfl ?_
                                          refine sL (pc' := 148) (i := .istore 4) (ls' := [some (.ref 179), some (.int (iI ((y a : Nat) : Int))), some (.int (iI 0)), some (.int (iI 0)), some (.int (iI 0))]) rfl rfl ?_
                                          refine sL (pc' := 149) (i := .iload_n 2) rfl rfl ?_
                                          refine sIf_ne (p := 152) rfl rfl ⟨by omega, by omega⟩ (fun c16 => ?_) (fun c16 => ?_)
                                          · exact absurd c16 (by decide)
                                          · have c16 := c16
                                            refine sL (pc' := 153) (i := .iload_n 3) rfl rfl ?_
                                            refine sIf_ne (p := 156) rfl rfl ⟨by omega, by omega⟩ (fun c17 => ?_) (fun c17 => ?_)
                                            · exact absurd c17 (by decide)
                                            · have c17 := c17
                                              refine sL (pc' := 158) (i := .iload 4) rfl rfl ?_
                                              refine sIf_ne (p := 161) rfl rfl ⟨by omega, by omega⟩ (fun c18 => ?_) (fun c18 => ?_)
                                              · exact absurd c18 (by decide)
                                              · have c18 := c18
                                                refine sL (pc' := 162) (i := .aload_n 0) rfl rfl ?_
                                                refine sKi (p := 163) rfl rfl ?_
                                                refine sL (pc' := 164) (i := .aload_n 0) rfl rfl ?_
                                                refine sGi (p := 167) rfl rfl (sk_179 _) rfl rfl rfl hst ?_
                                                refine sCv (p := 170) (as := [_, _]) rfl rfl rfl rfl (by decide) (Nat.le_of_ble_eq_true rfl) rfl (Nat.le_of_ble_eq_true rfl) (sk_179 _) rfl (by omega) (m_bad hk hz) ?_
                                                refine sL (pc' := 171) (i := .aload_n 0) rfl rfl ?_
                                                refine sL (pc' := 172) (i := .iload_n 2) rfl rfl ?_
                                                refine sIf_eq (p := 175) rfl rfl ⟨by omega, by omega⟩ (fun c19 => ?_) (fun c19 => ?_)
                                                · have c19 := c19
                                                  refine sL (pc' := 182) (i := .iload_n 3) rfl rfl ?_
                                                  refine sIf_eq (p := 185) rfl rfl ⟨by omega, by omega⟩ (fun c20 => ?_) (fun c20 => ?_)
                                                  · have c20 := c20
                                                    refine sL (pc' := 192) (i := .iload_n 1) rfl rfl ?_
                                                    refine sPi (z := ((y a : Nat) : Int)) (p := 195) rfl rfl (sk_179 _) rfl rfl rfl rfl ?_
                                                    refine sL (pc' := 196) (i := .aload_n 0) rfl rfl ?_
                                                    refine sL (pc' := 197) (i := .dup) rfl rfl ?_
                                                    refine sGi (p := 200) rfl rfl (sk_179 _) rfl rfl rfl ((rI_nj (by decide)).trans ((bdS_f (by decide)).trans hp)) ?_
                                                    refine sL (pc' := 201) (i := .iload_n 2) rfl rfl ?_
                                                    refine sIf_eq (p := 204) rfl rfl ⟨by omega, by omega⟩ (fun c21 => ?_) (fun c21 => ?_)
                                                    · have c21 := c21
                                                      refine sL (pc' := 209) (i := .iload_n 3) rfl rfl ?_
                                                      refine sIf_eq (p := 212) rfl rfl ⟨by omega, by omega⟩ (fun c22 => ?_) (fun c22 => ?_)
                                                      · have c22 := c22
                                                        refine sKi (p := 217) rfl rfl ?_
                                                        refine sAd (p := 218) rfl rfl ?_
                                                        refine sPi (z := (((a : Nat) : Int) + 1)) (p := 221) rfl rfl (sk_179 _) rfl rfl rfl rfl ?_
                                                        refine sEn (i := .return_) rfl (rfl) ?_
                                                        exact ⟨rfl, rfl⟩
                                                      · exact absurd c22 (by decide)
                                                    · exact absurd c21 (by decide)
                                                  · exact absurd c20 (by decide)
                                                · exact absurd c19 (by decide)
                                        · exfalso; omega
                · exfalso; omega
            · exfalso; omega
        · skip
          refine sIni (ls := [some (.ref 179), some (.int (iI ((y a : Nat) : Int))), none, none, none]) rfl ?_
          refine sL (pc' := 1) (i := .iload_n 1) rfl rfl ?_
          refine sKb (p := 3) rfl rfl ?_
          refine sIc_ne (p := 6) rfl rfl ⟨by omega, by omega⟩ ⟨by omega, by omega⟩ (fun c1 => ?_) (fun c1 => ?_)
          · have c1 := c1
            refine sKi (p := 26) rfl rfl ?_
            refine sL (pc' := 27) (i := .istore_n 2) (ls' := [some (.ref 179), some (.int (iI ((y a : Nat) : Int))), some (.int (iI 0)), none, none]) rfl rfl ?_
            refine sL (pc' := 28) (i := .iload_n 1) rfl rfl ?_
            refine sKb (p := 30) rfl rfl ?_
            refine sIc_ne (p := 33) rfl rfl ⟨by omega, by omega⟩ ⟨by omega, by omega⟩ (fun c2 => ?_) (fun c2 => ?_)
            · have c2 := c2
              refine sKi (p := 68) rfl rfl ?_
              refine sL (pc' := 69) (i := .istore_n 3) (ls' := [some (.ref 179), some (.int (iI ((y a : Nat) : Int))), some (.int (iI 0)), some (.int (iI 0)), none]) rfl rfl ?_
              refine sL (pc' := 70) (i := .iload_n 1) rfl rfl ?_
              refine sKb (p := 72) rfl rfl ?_
              refine sIc_eq (p := 75) rfl rfl ⟨by omega, by omega⟩ ⟨by omega, by omega⟩ (fun c3 => ?_) (fun c3 => ?_)
              · exfalso; omega
              · have c3 := c3
                refine sL (pc' := 76) (i := .iload_n 1) rfl rfl ?_
                refine sKb (p := 78) rfl rfl ?_
                refine sIc_eq (p := 81) rfl rfl ⟨by omega, by omega⟩ ⟨by omega, by omega⟩ (fun c4 => ?_) (fun c4 => ?_)
                · exfalso; omega
                · have c4 := c4
                  refine sL (pc' := 82) (i := .iload_n 1) rfl rfl ?_
                  refine sKb (p := 84) rfl rfl ?_
                  refine sIc_eq (p := 87) rfl rfl ⟨by omega, by omega⟩ ⟨by omega, by omega⟩ (fun c5 => ?_) (fun c5 => ?_)
                  · exfalso; omega
                  · have c5 := c5
                    refine sL (pc' := 88) (i := .iload_n 1) rfl rfl ?_
                    refine sKb (p := 90) rfl rfl ?_
                    refine sIc_eq (p := 93) rfl rfl ⟨by omega, by omega⟩ ⟨by omega, by omega⟩ (fun c6 => ?_) (fun c6 => ?_)
                    · exfalso; omega
                    · have c6 := c6
                      refine sL (pc' := 94) (i := .iload_n 1) rfl rfl ?_
                      refine sKb (p := 96) rfl rfl ?_
                      refine sIc_eq (p := 99) rfl rfl ⟨by omega, by omega⟩ ⟨by omega, by omega⟩ (fun c7 => ?_) (fun c7 => ?_)
                      · exfalso; omega
                      · have c7 := c7
                        refine sL (pc' := 100) (i := .iload_n 1) rfl rfl ?_
                        refine sKb (p := 102) rfl rfl ?_
                        refine sIc_eq (p := 105) rfl rfl ⟨by omega, by omega⟩ ⟨by omega, by omega⟩ (fun c8 => ?_) (fun c8 => ?_)
                        · exfalso; omega
                        · have c8 := c8
                          refine sL (pc' := 106) (i := .iload_n 1) rfl rfl ?_
                          refine sKb (p := 108) rfl rfl ?_
                          refine sIc_eq (p := 111) rfl rfl ⟨by omega, by omega⟩ ⟨by omega, by omega⟩ (fun c9 => ?_) (fun c9 => ?_)
                          · exfalso; omega
                          · have c9 := c9
                            refine sL (pc' := 112) (i := .iload_n 1) rfl rfl ?_
                            refine sKb (p := 114) rfl rfl ?_
                            refine sIc_eq (p := 117) rfl rfl ⟨by omega, by omega⟩ ⟨by omega, by omega⟩ (fun c10 => ?_) (fun c10 => ?_)
                            · exfalso; omega
                            · have c10 := c10
                              refine sL (pc' := 118) (i := .iload_n 1) rfl rfl ?_
                              refine sKb (p := 120) rfl rfl ?_
                              refine sIc_eq (p := 123) rfl rfl ⟨by omega, by omega⟩ ⟨by omega, by omega⟩ (fun c11 => ?_) (fun c11 => ?_)
                              · exfalso; omega
                              · have c11 := c11
                                refine sL (pc' := 124) (i := .iload_n 1) rfl rfl ?_
                                refine sKb (p := 126) rfl rfl ?_
                                refine sIc_eq (p := 129) rfl rfl ⟨by omega, by omega⟩ ⟨by omega, by omega⟩ (fun c12 => ?_) (fun c12 => ?_)
                                · exfalso; omega
                                · have c12 := c12
                                  refine sL (pc' := 130) (i := .iload_n 1) rfl rfl ?_
                                  refine sKb (p := 132) rfl rfl ?_
                                  refine sIc_eq (p := 135) rfl rfl ⟨by omega, by omega⟩ ⟨by omega, by omega⟩ (fun c13 => ?_) (fun c13 => ?_)
                                  · exfalso; omega
                                  · have c13 := c13
                                    refine sL (pc' := 136) (i := .iload_n 1) rfl rfl ?_
                                    refine sKb (p := 138) rfl rfl ?_
                                    refine sIc_ne (p := 141) rfl rfl ⟨by omega, by omega⟩ ⟨by omega, by omega⟩ (fun c14 => ?_) (fun c14 => ?_)
                                    · have c14 := c14
                                      refine sKi (p := 146) rfl rfl ?_
                                      refine sL (pc' := 148) (i := .istore 4) (ls' := [some (.ref 179), some (.int (iI ((y a : Nat) : Int))), some (.int (iI 0)), some (.int (iI 0)), some (.int (iI 0))]) rfl rfl ?_
                                      refine sL (pc' := 149) (i := .iload_n 2) rfl rfl ?_
                                      refine sIf_ne (p := 152) rfl rfl ⟨by omega, by omega⟩ (fun c15 => ?_) (fun c15 => ?_)
                                      · exact absurd c15 (by decide)
                                      · have c15 := c15
                                        refine sL (pc' := 153) (i := .iload_n 3) rfl rfl ?_
                                        refine sIf_ne (p := 156) rfl rfl ⟨by omega, by omega⟩ (fun c16 => ?_) (fun c16 => ?_)
                                        · exact absurd c16 (by decide)
                                        · have c16 := c16
                                          refine sL (pc' := 158) (i := .iload 4) rfl rfl ?_
                                          refine sIf_ne (p := 161) rfl rfl ⟨by omega, by omega⟩ (fun c17 => ?_) (fun c17 => ?_)
                                          · exact absurd c17 (by decide)
                                          · have c17 := c17
                                            refine sL (pc' := 162) (i := .aload_n 0) rfl rfl ?_
                                            refine sKi (p := 163) rfl rfl ?_
                                            refine sL (pc' := 164) (i := .aload_n 0) rfl rfl ?_
                                            refine sGi (p := 167) rfl rfl (sk_179 _) rfl rfl rfl hst ?_
                                            refine sCv (p := 170) (as := [_, _]) rfl rfl rfl rfl (by decide) (Nat.le_of_ble_eq_true rfl) rfl (Nat.le_of_ble_eq_true rfl) (sk_179 _) rfl (by omega) (m_bad hk hz) ?_
                                            refine sL (pc' := 171) (i := .aload_n 0) rfl rfl ?_
                                            refine sL (pc' := 172) (i := .iload_n 2) rfl rfl ?_
                                            refine sIf_eq (p := 175) rfl rfl ⟨by omega, by omega⟩ (fun c18 => ?_) (fun c18 => ?_)
                                            · have c18 := c18
                                              refine sL (pc' := 182) (i := .iload_n 3) rfl rfl ?_
                                              refine sIf_eq (p := 185) rfl rfl ⟨by omega, by omega⟩ (fun c19 => ?_) (fun c19 => ?_)
                                              · have c19 := c19
                                                refine sL (pc' := 192) (i := .iload_n 1) rfl rfl ?_
                                                refine sPi (z := ((y a : Nat) : Int)) (p := 195) rfl rfl (sk_179 _) rfl rfl rfl rfl ?_
                                                refine sL (pc' := 196) (i := .aload_n 0) rfl rfl ?_
                                                refine sL (pc' := 197) (i := .dup) rfl rfl ?_
                                                refine sGi (p := 200) rfl rfl (sk_179 _) rfl rfl rfl ((rI_nj (by decide)).trans ((bdS_f (by decide)).trans hp)) ?_
                                                refine sL (pc' := 201) (i := .iload_n 2) rfl rfl ?_
                                                refine sIf_eq (p := 204) rfl rfl ⟨by omega, by omega⟩ (fun c20 => ?_) (fun c20 => ?_)
                                                · have c20 := c20
                                                  refine sL (pc' := 209) (i := .iload_n 3) rfl rfl ?_
                                                  refine sIf_eq (p := 212) rfl rfl ⟨by omega, by omega⟩ (fun c21 => ?_) (fun c21 => ?_)
                                                  · have c21 := c21
                                                    refine sKi (p := 217) rfl rfl ?_
                                                    refine sAd (p := 218) rfl rfl ?_
                                                    refine sPi (z := (((a : Nat) : Int) + 1)) (p := 221) rfl rfl (sk_179 _) rfl rfl rfl rfl ?_
                                                    refine sEn (i := .return_) rfl (rfl) ?_
                                                    exact ⟨rfl, rfl⟩
                                                  · exact absurd c21 (by decide)
                                                · exact absurd c20 (by decide)
                                              · exact absurd c19 (by decide)
                                            · exact absurd c18 (by decide)
                                    · exfalso; omega
            · exfalso; omega
          · exfalso; omega
end MS
