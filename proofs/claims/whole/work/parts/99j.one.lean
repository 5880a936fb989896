/-! ===== the class's reader: operands ===== -/
theorem sw94 {z t : Int} {len q : Nat} {ls : xx_L} (hz : rg z) (ht : Op.lookupswitch.offset [(33, 76), (35, 121), (40, 76), (258, 113), (260, 105), (261, 105), (262, 76), (263, 76)] 129 z = t) : xx_loc (.lookupswitch 129 #[(33, 76), (35, 121), (40, 76), (258, 113), (260, 105), (261, 105), (262, 76), (263, 76)]) len q 4 ls [.int (iI z)] = some (((4 : Int) + t).toNat, ls, []) := by
  show some (((4 : Int) + Op.lookupswitch.offset [(33, 76), (35, 121), (40, 76), (258, 113), (260, 105), (261, 105), (262, 76), (263, 76)] 129 (iI z).toInt).toNat, ls, []) = _
  rw [iI_toInt hz, ht]
section RP
variable {X : List Int32} {S : ST} {K A : Nat → Nat} {C : Nat → Int64} {m n fn dr : Nat} {sz : Nat → Nat} {Fn : Nat → Nat → Bool} {nm : Nat → Int64} {ds d : Nat} {g : Nat → Nat × Nat × (Nat → Bool)}
theorem c_leaf {i a : Nat} (h4 : 4 ≤ ds) (hd : d ≤ 20) (hE : rdE S K A C m n sz fn dr Fn nm) (hA : rA S K i) (hi : i ≤ m) (ha : a < 106) (hN : ¬ (K i = 33 ∨ K i = 40 ∨ K i = 262 ∨ K i = 263)) : sM X ds 94 [.ref 69, .int (iI ((d : Nat) : Int)), .int (iI ((a : Nat) : Int))] S (oQ K A m a (lef K C n sz (fn + dr) Fn nm i) S) := by
  have hm := hE.1.1
  have hK := hE.1.2.1 i
  unfold lef
  by_cases q1 : K i = 260 ∨ K i = 261
  · have hlt := rdE_i hE hi (by omega) (by omega)
    rw [if_pos q1]
    by_cases q0 : K i = 260

    · skip
      refine sIni (ls := [some (.ref 69), some (.int (iI ((d : Nat) : Int))), some (.int (iI ((a : Nat) : Int)))]) rfl ?_
      refine sL (pc' := 1) (i := .aload_n 0) rfl rfl ?_
      refine sGi (p := 4) rfl rfl (sk_69 _) rfl rfl rfl hA.2.1 ?_
      refine sL (pc' := 109) (i := .lookupswitch 129 #[(33, 76), (35, 121), (40, 76), (258, 113), (260, 105), (261, 105), (262, 76), (263, 76)]) rfl (sw94 (z := ((K i : Nat) : Int)) (t := 105) ⟨by omega, by omega⟩ (by rw [Op.lookupswitch.offset_cons, if_neg (by omega), Op.lookupswitch.offset_cons, if_neg (by omega), Op.lookupswitch.offset_cons, if_neg (by omega), Op.lookupswitch.offset_cons, if_neg (by omega), Op.lookupswitch.offset_cons, if_pos (by omega)])) ?_
      refine sL (pc' := 110) (i := .aload_n 0) rfl rfl ?_
      refine sL (pc' := 111) (i := .iload_n 2) rfl rfl ?_
      refine sCvQ (p := 114) (as := [_]) rfl rfl rfl rfl (by decide) (Nat.le_of_ble_eq_true rfl) rfl (Nat.le_of_ble_eq_true rfl) (sk_69 _) rfl (by omega) (c_readConstant hE hA hlt ha) ?_
      rintro _ S1 ⟨rfl, hQ1⟩
      refine sL (i := .goto 28) rfl rfl ?_
      refine sEn (i := .return_) rfl (rfl) ?_
      exact ⟨rfl, hQ1⟩
    · skip
      refine sIni (ls := [some (.ref 69), some (.int (iI ((d : Nat) : Int))), some (.int (iI ((a : Nat) : Int)))]) rfl ?_
      refine sL (pc' := 1) (i := .aload_n 0) rfl rfl ?_
      refine sGi (p := 4) rfl rfl (sk_69 _) rfl rfl rfl hA.2.1 ?_
      refine sL (pc' := 109) (i := .lookupswitch 129 #[(33, 76), (35, 121), (40, 76), (258, 113), (260, 105), (261, 105), (262, 76), (263, 76)]) rfl (sw94 (z := ((K i : Nat) : Int)) (t := 105) ⟨by omega, by omega⟩ (by rw [Op.lookupswitch.offset_cons, if_neg (by omega), Op.lookupswitch.offset_cons, if_neg (by omega), Op.lookupswitch.offset_cons, if_neg (by omega), Op.lookupswitch.offset_cons, if_neg (by omega), Op.lookupswitch.offset_cons, if_neg (by omega), Op.lookupswitch.offset_cons, if_pos (by omega)])) ?_
      refine sL (pc' := 110) (i := .aload_n 0) rfl rfl ?_
      refine sL (pc' := 111) (i := .iload_n 2) rfl rfl ?_
      refine sCvQ (p := 114) (as := [_]) rfl rfl rfl rfl (by decide) (Nat.le_of_ble_eq_true rfl) rfl (Nat.le_of_ble_eq_true rfl) (sk_69 _) rfl (by omega) (c_readConstant hE hA hlt ha) ?_
      rintro _ S1 ⟨rfl, hQ1⟩
      refine sL (i := .goto 28) rfl rfl ?_
      refine sEn (i := .return_) rfl (rfl) ?_
      exact ⟨rfl, hQ1⟩
  · rw [if_neg q1]
    by_cases q2 : K i = 258
    · have hlt := rdE_i hE hi (by omega) (by omega)
      rw [if_pos q2]
      refine sIni (ls := [some (.ref 69), some (.int (iI ((d : Nat) : Int))), some (.int (iI ((a : Nat) : Int)))]) rfl ?_
      refine sL (pc' := 1) (i := .aload_n 0) rfl rfl ?_
      refine sGi (p := 4) rfl rfl (sk_69 _) rfl rfl rfl hA.2.1 ?_
      refine sL (pc' := 117) (i := .lookupswitch 129 #[(33, 76), (35, 121), (40, 76), (258, 113), (260, 105), (261, 105), (262, 76), (263, 76)]) rfl (sw94 (z := ((K i : Nat) : Int)) (t := 113) ⟨by omega, by omega⟩ (by rw [Op.lookupswitch.offset_cons, if_neg (by omega), Op.lookupswitch.offset_cons, if_neg (by omega), Op.lookupswitch.offset_cons, if_neg (by omega), Op.lookupswitch.offset_cons, if_pos (by omega)])) ?_
      refine sL (pc' := 118) (i := .aload_n 0) rfl rfl ?_
      refine sL (pc' := 119) (i := .iload_n 2) rfl rfl ?_
      refine sCvQ (p := 122) (as := [_]) rfl rfl rfl rfl (by decide) (Nat.le_of_ble_eq_true rfl) rfl (Nat.le_of_ble_eq_true rfl) (sk_69 _) rfl (by omega) (c_readKnownName hE hA hlt ha) ?_
      rintro _ S1 ⟨rfl, hQ1⟩
      refine sL (i := .goto 20) rfl rfl ?_
      refine sEn (i := .return_) rfl (rfl) ?_
      exact ⟨rfl, hQ1⟩
    · rw [if_neg q2]
      by_cases q3 : K i = 35
      · rw [if_pos q3]
        refine sIni (ls := [some (.ref 69), some (.int (iI ((d : Nat) : Int))), some (.int (iI ((a : Nat) : Int)))]) rfl ?_
        refine sL (pc' := 1) (i := .aload_n 0) rfl rfl ?_
        refine sGi (p := 4) rfl rfl (sk_69 _) rfl rfl rfl hA.2.1 ?_
        refine sL (pc' := 125) (i := .lookupswitch 129 #[(33, 76), (35, 121), (40, 76), (258, 113), (260, 105), (261, 105), (262, 76), (263, 76)]) rfl (sw94 (z := ((K i : Nat) : Int)) (t := 121) ⟨by omega, by omega⟩ (by rw [Op.lookupswitch.offset_cons, if_neg (by omega), Op.lookupswitch.offset_cons, if_pos (by omega)])) ?_
        refine sL (pc' := 126) (i := .aload_n 0) rfl rfl ?_
        refine sL (pc' := 127) (i := .iload_n 2) rfl rfl ?_
        refine sCvQ (p := 130) (as := [_]) rfl rfl rfl rfl (by decide) (Nat.le_of_ble_eq_true rfl) rfl (Nat.le_of_ble_eq_true rfl) (sk_69 _) rfl (by omega) (c_readAtom hE hA hi ha) ?_
        rintro _ S1 ⟨rfl, hQ1⟩
        refine sL (i := .goto 12) rfl rfl ?_
        refine sEn (i := .return_) rfl (rfl) ?_
        exact ⟨rfl, hQ1⟩
      · rw [if_neg q3]
        refine sIni (ls := [some (.ref 69), some (.int (iI ((d : Nat) : Int))), some (.int (iI ((a : Nat) : Int)))]) rfl ?_
        refine sL (pc' := 1) (i := .aload_n 0) rfl rfl ?_
        refine sGi (p := 4) rfl rfl (sk_69 _) rfl rfl rfl hA.2.1 ?_
        refine sL (pc' := 133) (i := .lookupswitch 129 #[(33, 76), (35, 121), (40, 76), (258, 113), (260, 105), (261, 105), (262, 76), (263, 76)]) rfl (sw94 (z := ((K i : Nat) : Int)) (t := 129) ⟨by omega, by omega⟩ (by rw [Op.lookupswitch.offset_cons, if_neg (by omega), Op.lookupswitch.offset_cons, if_neg (by omega), Op.lookupswitch.offset_cons, if_neg (by omega), Op.lookupswitch.offset_cons, if_neg (by omega), Op.lookupswitch.offset_cons, if_neg (by omega), Op.lookupswitch.offset_cons, if_neg (by omega), Op.lookupswitch.offset_cons, if_neg (by omega), Op.lookupswitch.offset_cons, if_neg (by omega), Op.lookupswitch.offset_nil])) ?_
        refine sL (pc' := 134) (i := .aload_n 0) rfl rfl ?_
        refine sKi (p := 135) rfl rfl ?_
        refine sL (pc' := 136) (i := .aload_n 0) rfl rfl ?_
        refine sGi (p := 139) rfl rfl (sk_69 _) rfl rfl rfl hA.1 ?_
        refine sCvQ (p := 142) (as := [_, _]) rfl rfl rfl rfl (by decide) (Nat.le_of_ble_eq_true rfl) rfl (Nat.le_of_ble_eq_true rfl) (sk_69 _) rfl (by omega) (c_refuse hE hA hi hi ⟨by decide, by decide⟩) ?_
        rintro _ S1 ⟨rfl, hQ1⟩
        refine sEn (i := .return_) rfl (rfl) ?_
        obtain ⟨hX1, hf1⟩ := hQ1
        exact ⟨rfl, frR_le hf1 (by omega), Or.inr ⟨rf_nz (K := K) (q := 2) (a := i) (by decide), hX1⟩, fun z => absurd z (rf_nz (K := K) (q := 2) (a := i) (by decide))⟩
theorem c_one_d {k p a : Nat} (h4 : 4 ≤ ds) (hd : d ≤ 20) (hE : rdE S K A C m n sz fn dr Fn nm) (hX : rX S m k p) (ha : a < 106) : sM X ds 94 [.ref 69, .int (iI ((d : Nat) : Int)), .int (iI ((a : Nat) : Int))] S (xQ m a k p S) := by
  have hX0 := hX
  obtain ⟨⟨j9, hjm, hj9⟩, _⟩ := hX0
  refine sIni (ls := [some (.ref 69), some (.int (iI ((d : Nat) : Int))), some (.int (iI ((a : Nat) : Int)))]) rfl ?_
  refine sL (pc' := 1) (i := .aload_n 0) rfl rfl ?_
  refine sGi (p := 4) rfl rfl (sk_69 _) rfl rfl rfl hX.2.1 ?_
  refine sL (pc' := 133) (i := .lookupswitch 129 #[(33, 76), (35, 121), (40, 76), (258, 113), (260, 105), (261, 105), (262, 76), (263, 76)]) rfl (sw94 (z := 266) (t := 129) ⟨by omega, by omega⟩ (by rw [Op.lookupswitch.offset_cons, if_neg (by decide), Op.lookupswitch.offset_cons, if_neg (by decide), Op.lookupswitch.offset_cons, if_neg (by decide), Op.lookupswitch.offset_cons, if_neg (by decide), Op.lookupswitch.offset_cons, if_neg (by decide), Op.lookupswitch.offset_cons, if_neg (by decide), Op.lookupswitch.offset_cons, if_neg (by decide), Op.lookupswitch.offset_cons, if_neg (by decide), Op.lookupswitch.offset_nil])) ?_
  refine sL (pc' := 134) (i := .aload_n 0) rfl rfl ?_
  refine sKi (p := 135) rfl rfl ?_
  refine sL (pc' := 136) (i := .aload_n 0) rfl rfl ?_
  refine sGi (p := 139) rfl rfl (sk_69 _) rfl rfl rfl hj9 ?_
  refine sCvQ (p := 142) (as := [_, _]) rfl rfl rfl rfl (by decide) (Nat.le_of_ble_eq_true rfl) rfl (Nat.le_of_ble_eq_true rfl) (sk_69 _) rfl (by omega) (c_refuse_d hX) ?_
  rintro _ S1 ⟨rfl, hQ1⟩
  refine sEn (i := .return_) rfl (rfl) ?_
  obtain ⟨hX1, hf1⟩ := hQ1
  exact ⟨rfl, frR_le hf1 (by omega), hX1⟩
theorem c_one : ∀ D d, d + D = 20 → subC X K A C m n sz fn dr Fn nm (7 * D + 4) 94 d (5 * d + 5) (one K C n sz (fn + dr) Fn nm D)
  | 0, d, hdD => by
    refine ⟨fun S i a hE hA hi ha => ?_, fun S k p a hE hX ha => c_one_d (by omega) (by omega) hE hX (by omega)⟩
    have hm := hE.1.1
    have hK := hE.1.2.1 i
    by_cases q : K i = 33 ∨ K i = 40 ∨ K i = 262 ∨ K i = 263
    · rw [show one K C n sz (fn + dr) Fn nm 0 i = (5, i, fun _ => false) from if_pos q]

      rcases q with q | q | q | q
      · skip
        refine sIni (ls := [some (.ref 69), some (.int (iI ((d : Nat) : Int))), some (.int (iI ((a : Nat) : Int)))]) rfl ?_
        refine sL (pc' := 1) (i := .aload_n 0) rfl rfl ?_
        refine sGi (p := 4) rfl rfl (sk_69 _) rfl rfl rfl hA.2.1 ?_
        refine sL (pc' := 80) (i := .lookupswitch 129 #[(33, 76), (35, 121), (40, 76), (258, 113), (260, 105), (261, 105), (262, 76), (263, 76)]) rfl (sw94 (z := ((K i : Nat) : Int)) (t := 76) ⟨by omega, by omega⟩ (by rw [Op.lookupswitch.offset_cons, if_pos (by omega)])) ?_
        refine sL (pc' := 81) (i := .iload_n 1) rfl rfl ?_
        refine sKb (p := 83) rfl rfl ?_
        refine sIc_lt (p := 86) rfl rfl ⟨by omega, by omega⟩ ⟨by omega, by omega⟩ (fun c1 => ?_) (fun c1 => ?_)
        · exfalso; omega
        · have c1 := c1
          refine sL (pc' := 87) (i := .aload_n 0) rfl rfl ?_
          refine sKi (p := 88) rfl rfl ?_
          refine sL (pc' := 89) (i := .aload_n 0) rfl rfl ?_
          refine sGi (p := 92) rfl rfl (sk_69 _) rfl rfl rfl hA.1 ?_
          refine sCvQ (p := 95) (as := [_, _]) rfl rfl rfl rfl (by decide) (Nat.le_of_ble_eq_true rfl) rfl (Nat.le_of_ble_eq_true rfl) (sk_69 _) rfl (by omega) (c_refuse hE hA hi hi ⟨by decide, by decide⟩) ?_
          rintro _ S1 ⟨rfl, hQ1⟩
          refine sL (i := .goto 47) rfl rfl ?_
          refine sEn (i := .return_) rfl (rfl) ?_
          obtain ⟨hX1, hf1⟩ := hQ1
          rw [show rf K 5 i = 5 from if_neg (by omega)] at hX1
          exact ⟨rfl, frR_le hf1 (by omega), Or.inr ⟨(show (5 : Nat) ≠ 0 by decide), hX1⟩, fun z => by cases z⟩
      · skip
        refine sIni (ls := [some (.ref 69), some (.int (iI ((d : Nat) : Int))), some (.int (iI ((a : Nat) : Int)))]) rfl ?_
        refine sL (pc' := 1) (i := .aload_n 0) rfl rfl ?_
        refine sGi (p := 4) rfl rfl (sk_69 _) rfl rfl rfl hA.2.1 ?_
        refine sL (pc' := 80) (i := .lookupswitch 129 #[(33, 76), (35, 121), (40, 76), (258, 113), (260, 105), (261, 105), (262, 76), (263, 76)]) rfl (sw94 (z := ((K i : Nat) : Int)) (t := 76) ⟨by omega, by omega⟩ (by rw [Op.lookupswitch.offset_cons, if_neg (by omega), Op.lookupswitch.offset_cons, if_neg (by omega), Op.lookupswitch.offset_cons, if_pos (by omega)])) ?_
        refine sL (pc' := 81) (i := .iload_n 1) rfl rfl ?_
        refine sKb (p := 83) rfl rfl ?_
        refine sIc_lt (p := 86) rfl rfl ⟨by omega, by omega⟩ ⟨by omega, by omega⟩ (fun c1 => ?_) (fun c1 => ?_)
        · exfalso; omega
        · have c1 := c1
          refine sL (pc' := 87) (i := .aload_n 0) rfl rfl ?_
          refine sKi (p := 88) rfl rfl ?_
          refine sL (pc' := 89) (i := .aload_n 0) rfl rfl ?_
          refine sGi (p := 92) rfl rfl (sk_69 _) rfl rfl rfl hA.1 ?_
          refine sCvQ (p := 95) (as := [_, _]) rfl rfl rfl rfl (by decide) (Nat.le_of_ble_eq_true rfl) rfl (Nat.le_of_ble_eq_true rfl) (sk_69 _) rfl (by omega) (c_refuse hE hA hi hi ⟨by decide, by decide⟩) ?_
          rintro _ S1 ⟨rfl, hQ1⟩
          refine sL (i := .goto 47) rfl rfl ?_
          refine sEn (i := .return_) rfl (rfl) ?_
          obtain ⟨hX1, hf1⟩ := hQ1
          rw [show rf K 5 i = 5 from if_neg (by omega)] at hX1
          exact ⟨rfl, frR_le hf1 (by omega), Or.inr ⟨(show (5 : Nat) ≠ 0 by decide), hX1⟩, fun z => by cases z⟩
      · skip
        refine sIni (ls := [some (.ref 69), some (.int (iI ((d : Nat) : Int))), some (.int (iI ((a : Nat) : Int)))]) rfl ?_
        refine sL (pc' := 1) (i := .aload_n 0) rfl rfl ?_
        refine sGi (p := 4) rfl rfl (sk_69 _) rfl rfl rfl hA.2.1 ?_
        refine sL (pc' := 80) (i := .lookupswitch 129 #[(33, 76), (35, 121), (40, 76), (258, 113), (260, 105), (261, 105), (262, 76), (263, 76)]) rfl (sw94 (z := ((K i : Nat) : Int)) (t := 76) ⟨by omega, by omega⟩ (by rw [Op.lookupswitch.offset_cons, if_neg (by omega), Op.lookupswitch.offset_cons, if_neg (by omega), Op.lookupswitch.offset_cons, if_neg (by omega), Op.lookupswitch.offset_cons, if_neg (by omega), Op.lookupswitch.offset_cons, if_neg (by omega), Op.lookupswitch.offset_cons, if_neg (by omega), Op.lookupswitch.offset_cons, if_pos (by omega)])) ?_
        refine sL (pc' := 81) (i := .iload_n 1) rfl rfl ?_
        refine sKb (p := 83) rfl rfl ?_
        refine sIc_lt (p := 86) rfl rfl ⟨by omega, by omega⟩ ⟨by omega, by omega⟩ (fun c1 => ?_) (fun c1 => ?_)
        · exfalso; omega
        · have c1 := c1
          refine sL (pc' := 87) (i := .aload_n 0) rfl rfl ?_
          refine sKi (p := 88) rfl rfl ?_
          refine sL (pc' := 89) (i := .aload_n 0) rfl rfl ?_
          refine sGi (p := 92) rfl rfl (sk_69 _) rfl rfl rfl hA.1 ?_
          refine sCvQ (p := 95) (as := [_, _]) rfl rfl rfl rfl (by decide) (Nat.le_of_ble_eq_true rfl) rfl (Nat.le_of_ble_eq_true rfl) (sk_69 _) rfl (by omega) (c_refuse hE hA hi hi ⟨by decide, by decide⟩) ?_
          rintro _ S1 ⟨rfl, hQ1⟩
          refine sL (i := .goto 47) rfl rfl ?_
          refine sEn (i := .return_) rfl (rfl) ?_
          obtain ⟨hX1, hf1⟩ := hQ1
          rw [show rf K 5 i = 5 from if_neg (by omega)] at hX1
          exact ⟨rfl, frR_le hf1 (by omega), Or.inr ⟨(show (5 : Nat) ≠ 0 by decide), hX1⟩, fun z => by cases z⟩
      · skip
        refine sIni (ls := [some (.ref 69), some (.int (iI ((d : Nat) : Int))), some (.int (iI ((a : Nat) : Int)))]) rfl ?_
        refine sL (pc' := 1) (i := .aload_n 0) rfl rfl ?_
        refine sGi (p := 4) rfl rfl (sk_69 _) rfl rfl rfl hA.2.1 ?_
        refine sL (pc' := 80) (i := .lookupswitch 129 #[(33, 76), (35, 121), (40, 76), (258, 113), (260, 105), (261, 105), (262, 76), (263, 76)]) rfl (sw94 (z := ((K i : Nat) : Int)) (t := 76) ⟨by omega, by omega⟩ (by rw [Op.lookupswitch.offset_cons, if_neg (by omega), Op.lookupswitch.offset_cons, if_neg (by omega), Op.lookupswitch.offset_cons, if_neg (by omega), Op.lookupswitch.offset_cons, if_neg (by omega), Op.lookupswitch.offset_cons, if_neg (by omega), Op.lookupswitch.offset_cons, if_neg (by omega), Op.lookupswitch.offset_cons, if_neg (by omega), Op.lookupswitch.offset_cons, if_pos (by omega)])) ?_
        refine sL (pc' := 81) (i := .iload_n 1) rfl rfl ?_
        refine sKb (p := 83) rfl rfl ?_
        refine sIc_lt (p := 86) rfl rfl ⟨by omega, by omega⟩ ⟨by omega, by omega⟩ (fun c1 => ?_) (fun c1 => ?_)
        · exfalso; omega
        · have c1 := c1
          refine sL (pc' := 87) (i := .aload_n 0) rfl rfl ?_
          refine sKi (p := 88) rfl rfl ?_
          refine sL (pc' := 89) (i := .aload_n 0) rfl rfl ?_
          refine sGi (p := 92) rfl rfl (sk_69 _) rfl rfl rfl hA.1 ?_
          refine sCvQ (p := 95) (as := [_, _]) rfl rfl rfl rfl (by decide) (Nat.le_of_ble_eq_true rfl) rfl (Nat.le_of_ble_eq_true rfl) (sk_69 _) rfl (by omega) (c_refuse hE hA hi hi ⟨by decide, by decide⟩) ?_
          rintro _ S1 ⟨rfl, hQ1⟩
          refine sL (i := .goto 47) rfl rfl ?_
          refine sEn (i := .return_) rfl (rfl) ?_
          obtain ⟨hX1, hf1⟩ := hQ1
          rw [show rf K 5 i = 5 from if_neg (by omega)] at hX1
          exact ⟨rfl, frR_le hf1 (by omega), Or.inr ⟨(show (5 : Nat) ≠ 0 by decide), hX1⟩, fun z => by cases z⟩
    · rw [show one K C n sz (fn + dr) Fn nm 0 i = lef K C n sz (fn + dr) Fn nm i from if_neg q]
      exact c_leaf (by omega) (by omega) hE hA hi (by omega) q
  | D + 1, d, hdD => by
    have ih := c_one D (d + 1) (by omega)
    refine ⟨fun S i a hE hA hi ha => ?_, fun S k p a hE hX ha => c_one_d (by omega) (by omega) hE hX (by omega)⟩
    have hm := hE.1.1
    have hK := hE.1.2.1 i
    by_cases q : K i = 33 ∨ K i = 40 ∨ K i = 262 ∨ K i = 263
    · rw [show one K C n sz (fn + dr) Fn nm (D + 1) i = nst K C n sz (one K C n sz (fn + dr) Fn nm D) i from if_pos q]
      have hnst := c_nest (S := S) (i := i) (a := a) (by omega) (by omega) ih hE hA hi (by omega) q
      rcases q with q | q | q | q
      · skip
        refine sIni (ls := [some (.ref 69), some (.int (iI ((d : Nat) : Int))), some (.int (iI ((a : Nat) : Int)))]) rfl ?_
        refine sL (pc' := 1) (i := .aload_n 0) rfl rfl ?_
        refine sGi (p := 4) rfl rfl (sk_69 _) rfl rfl rfl hA.2.1 ?_
        refine sL (pc' := 80) (i := .lookupswitch 129 #[(33, 76), (35, 121), (40, 76), (258, 113), (260, 105), (261, 105), (262, 76), (263, 76)]) rfl (sw94 (z := ((K i : Nat) : Int)) (t := 76) ⟨by omega, by omega⟩ (by rw [Op.lookupswitch.offset_cons, if_pos (by omega)])) ?_
        refine sL (pc' := 81) (i := .iload_n 1) rfl rfl ?_
        refine sKb (p := 83) rfl rfl ?_
        refine sIc_lt (p := 86) rfl rfl ⟨by omega, by omega⟩ ⟨by omega, by omega⟩ (fun c1 => ?_) (fun c1 => ?_)
        · have c1 := c1
          refine sL (pc' := 99) (i := .aload_n 0) rfl rfl ?_
          refine sL (pc' := 100) (i := .iload_n 1) rfl rfl ?_
          refine sKi (p := 101) rfl rfl ?_
          refine sAd (p := 102) rfl rfl ?_
          refine sL (pc' := 103) (i := .iload_n 2) rfl rfl ?_
          refine sCvQ (p := 106) (as := [_, _]) rfl rfl rfl rfl (by decide) (Nat.le_of_ble_eq_true rfl) rfl (Nat.le_of_ble_eq_true rfl) (sk_69 _) rfl (by omega) (hnst) ?_
          rintro _ S1 ⟨rfl, hQ1⟩
          refine sL (i := .goto 36) rfl rfl ?_
          refine sEn (i := .return_) rfl (rfl) ?_
          exact ⟨rfl, hQ1⟩
        · exfalso; omega
      · skip
        refine sIni (ls := [some (.ref 69), some (.int (iI ((d : Nat) : Int))), some (.int (iI ((a : Nat) : Int)))]) rfl ?_
        refine sL (pc' := 1) (i := .aload_n 0) rfl rfl ?_
        refine sGi (p := 4) rfl rfl (sk_69 _) rfl rfl rfl hA.2.1 ?_
        refine sL (pc' := 80) (i := .lookupswitch 129 #[(33, 76), (35, 121), (40, 76), (258, 113), (260, 105), (261, 105), (262, 76), (263, 76)]) rfl (sw94 (z := ((K i : Nat) : Int)) (t := 76) ⟨by omega, by omega⟩ (by rw [Op.lookupswitch.offset_cons, if_neg (by omega), Op.lookupswitch.offset_cons, if_neg (by omega), Op.lookupswitch.offset_cons, if_pos (by omega)])) ?_
        refine sL (pc' := 81) (i := .iload_n 1) rfl rfl ?_
        refine sKb (p := 83) rfl rfl ?_
        refine sIc_lt (p := 86) rfl rfl ⟨by omega, by omega⟩ ⟨by omega, by omega⟩ (fun c1 => ?_) (fun c1 => ?_)
        · have c1 := c1
          refine sL (pc' := 99) (i := .aload_n 0) rfl rfl ?_
          refine sL (pc' := 100) (i := .iload_n 1) rfl rfl ?_
          refine sKi (p := 101) rfl rfl ?_
          refine sAd (p := 102) rfl rfl ?_
          refine sL (pc' := 103) (i := .iload_n 2) rfl rfl ?_
          refine sCvQ (p := 106) (as := [_, _]) rfl rfl rfl rfl (by decide) (Nat.le_of_ble_eq_true rfl) rfl (Nat.le_of_ble_eq_true rfl) (sk_69 _) rfl (by omega) (hnst) ?_
          rintro _ S1 ⟨rfl, hQ1⟩
          refine sL (i := .goto 36) rfl rfl ?_
          refine sEn (i := .return_) rfl (rfl) ?_
          exact ⟨rfl, hQ1⟩
        · exfalso; omega
      · skip
        refine sIni (ls := [some (.ref 69), some (.int (iI ((d : Nat) : Int))), some (.int (iI ((a : Nat) : Int)))]) rfl ?_
        refine sL (pc' := 1) (i := .aload_n 0) rfl rfl ?_
        refine sGi (p := 4) rfl rfl (sk_69 _) rfl rfl rfl hA.2.1 ?_
        refine sL (pc' := 80) (i := .lookupswitch 129 #[(33, 76), (35, 121), (40, 76), (258, 113), (260, 105), (261, 105), (262, 76), (263, 76)]) rfl (sw94 (z := ((K i : Nat) : Int)) (t := 76) ⟨by omega, by omega⟩ (by rw [Op.lookupswitch.offset_cons, if_neg (by omega), Op.lookupswitch.offset_cons, if_neg (by omega), Op.lookupswitch.offset_cons, if_neg (by omega), Op.lookupswitch.offset_cons, if_neg (by omega), Op.lookupswitch.offset_cons, if_neg (by omega), Op.lookupswitch.offset_cons, if_neg (by omega), Op.lookupswitch.offset_cons, if_pos (by omega)])) ?_
        refine sL (pc' := 81) (i := .iload_n 1) rfl rfl ?_
        refine sKb (p := 83) rfl rfl ?_
        refine sIc_lt (p := 86) rfl rfl ⟨by omega, by omega⟩ ⟨by omega, by omega⟩ (fun c1 => ?_) (fun c1 => ?_)
        · have c1 := c1
          refine sL (pc' := 99) (i := .aload_n 0) rfl rfl ?_
          refine sL (pc' := 100) (i := .iload_n 1) rfl rfl ?_
          refine sKi (p := 101) rfl rfl ?_
          refine sAd (p := 102) rfl rfl ?_
          refine sL (pc' := 103) (i := .iload_n 2) rfl rfl ?_
          refine sCvQ (p := 106) (as := [_, _]) rfl rfl rfl rfl (by decide) (Nat.le_of_ble_eq_true rfl) rfl (Nat.le_of_ble_eq_true rfl) (sk_69 _) rfl (by omega) (hnst) ?_
          rintro _ S1 ⟨rfl, hQ1⟩
          refine sL (i := .goto 36) rfl rfl ?_
          refine sEn (i := .return_) rfl (rfl) ?_
          exact ⟨rfl, hQ1⟩
        · exfalso; omega
      · skip
        refine sIni (ls := [some (.ref 69), some (.int (iI ((d : Nat) : Int))), some (.int (iI ((a : Nat) : Int)))]) rfl ?_
        refine sL (pc' := 1) (i := .aload_n 0) rfl rfl ?_
        refine sGi (p := 4) rfl rfl (sk_69 _) rfl rfl rfl hA.2.1 ?_
        refine sL (pc' := 80) (i := .lookupswitch 129 #[(33, 76), (35, 121), (40, 76), (258, 113), (260, 105), (261, 105), (262, 76), (263, 76)]) rfl (sw94 (z := ((K i : Nat) : Int)) (t := 76) ⟨by omega, by omega⟩ (by rw [Op.lookupswitch.offset_cons, if_neg (by omega), Op.lookupswitch.offset_cons, if_neg (by omega), Op.lookupswitch.offset_cons, if_neg (by omega), Op.lookupswitch.offset_cons, if_neg (by omega), Op.lookupswitch.offset_cons, if_neg (by omega), Op.lookupswitch.offset_cons, if_neg (by omega), Op.lookupswitch.offset_cons, if_neg (by omega), Op.lookupswitch.offset_cons, if_pos (by omega)])) ?_
        refine sL (pc' := 81) (i := .iload_n 1) rfl rfl ?_
        refine sKb (p := 83) rfl rfl ?_
        refine sIc_lt (p := 86) rfl rfl ⟨by omega, by omega⟩ ⟨by omega, by omega⟩ (fun c1 => ?_) (fun c1 => ?_)
        · have c1 := c1
          refine sL (pc' := 99) (i := .aload_n 0) rfl rfl ?_
          refine sL (pc' := 100) (i := .iload_n 1) rfl rfl ?_
          refine sKi (p := 101) rfl rfl ?_
          refine sAd (p := 102) rfl rfl ?_
          refine sL (pc' := 103) (i := .iload_n 2) rfl rfl ?_
          refine sCvQ (p := 106) (as := [_, _]) rfl rfl rfl rfl (by decide) (Nat.le_of_ble_eq_true rfl) rfl (Nat.le_of_ble_eq_true rfl) (sk_69 _) rfl (by omega) (hnst) ?_
          rintro _ S1 ⟨rfl, hQ1⟩
          refine sL (i := .goto 36) rfl rfl ?_
          refine sEn (i := .return_) rfl (rfl) ?_
          exact ⟨rfl, hQ1⟩
        · exfalso; omega
    · rw [show one K C n sz (fn + dr) Fn nm (D + 1) i = lef K C n sz (fn + dr) Fn nm i from if_neg q]
      exact c_leaf (by omega) (by omega) hE hA hi (by omega) q
end RP
