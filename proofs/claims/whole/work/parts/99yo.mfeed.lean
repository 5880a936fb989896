/-! ===== the reference: feed, named ===== -/
theorem i_byt2 {x : Int32} {j : Nat} (hj : j ≤ 24) : (x >>> (iI ((j : Nat) : Int) &&& 31)).toInt8.toInt32 = iI (sb (x.toBitVec.toNat / 2 ^ j % 256)) := by
  have e : ∀ k : Nat, k < 32 → ((iI (k : Int) &&& 31).toBitVec.smod 32).toNat = k := by decide +kernel
  have e4 : (x >>> (iI (j : Int) &&& 31)).toBitVec = x.toBitVec.sshiftRight' ((iI (j : Int) &&& 31).toBitVec.smod 32) := rfl
  have e5 : (x >>> (iI (j : Int) &&& 31)).toInt8.toBitVec = (x >>> (iI (j : Int) &&& 31)).toBitVec.signExtend 8 := rfl
  have hb : (x >>> (iI (j : Int) &&& 31)).toInt8.toBitVec.toNat = x.toBitVec.toNat / 2 ^ j % 256 := by
    have h9 : (x >>> (iI (j : Int) &&& 31)).toInt8.toBitVec = BitVec.ofNat 8 (x.toBitVec.toNat / 2 ^ j) := by
      refine BitVec.eq_of_getLsbD_eq (fun i hi => ?_)
      rw [e5, BitVec.getLsbD_signExtend, e4, BitVec.sshiftRight_eq', e j (by omega), BitVec.getLsbD_sshiftRight, BitVec.getLsbD_ofNat, ← Nat.shiftRight_eq_div_pow, Nat.testBit_shiftRight, decide_eq_true hi, if_pos (show i < 32 by omega), if_pos (show j + i < 32 by omega), Bool.true_and, Bool.true_and, decide_eq_false (show ¬ 32 ≤ i by omega)]
      rfl
    rw [h9, BitVec.toNat_ofNat]
  have h6 : (x >>> (iI (j : Int) &&& 31)).toInt8.toInt32 = iI (x >>> (iI (j : Int) &&& 31)).toInt8.toInt := by
    refine Int32.toInt_inj.mp ?_
    rw [Int8.toInt_toInt32, iI_toInt]
    have h1 := Int8.le_toInt (x >>> (iI (j : Int) &&& 31)).toInt8
    have h2 := Int8.toInt_le (x >>> (iI (j : Int) &&& 31)).toInt8
    have h3 : Int8.maxValue.toInt = 127 := by decide
    have h4 : Int8.minValue.toInt = -128 := by decide
    exact ⟨by omega, by omega⟩
  rw [h6]
  refine congrArg iI ?_
  have h7 : (x >>> (iI (j : Int) &&& 31)).toInt8.toInt = (x >>> (iI (j : Int) &&& 31)).toInt8.toBitVec.toInt := rfl
  rw [h7, BitVec.toInt_eq_toNat_cond, hb]
  unfold sb
  generalize x.toBitVec.toNat / 2 ^ j % 256 = c
  by_cases q : c < 128
  · rw [if_pos (by omega), if_pos q]
  · rw [if_neg (by omega), if_neg q]
    rfl
theorem sb_w : ∀ c, c < 256 → (iI (sb c)).toInt8.toInt32 = iI (sb c) := by decide +kernel
theorem fb_lt (x : Int) (k : Nat) : fb x k < 256 := Nat.mod_lt _ (by decide)
def frF (S S' : ST) : Prop := S'.1 = S.1 ∧ SR S' = SR S ∧ (∀ c, c ≠ 179 → c ≠ 188 → SI S' c = SI S c) ∧ (∀ j, j ≠ 0 → j ≠ 13 → SI S' 179 j = SI S 179 j) ∧ SL S' = SL S
theorem frF_refl (S : ST) : frF S S := ⟨rfl, rfl, fun _ _ _ => rfl, fun _ _ _ => rfl, rfl⟩
theorem frF_trans {S T V : ST} (h : frF S T) (k : frF T V) : frF S V := ⟨k.1.trans h.1, k.2.1.trans h.2.1, fun c h1 h2 => (k.2.2.1 c h1 h2).trans (h.2.2.1 c h1 h2), fun c h1 h2 => (k.2.2.2.1 c h1 h2).trans (h.2.2.2.1 c h1 h2), k.2.2.2.2.trans h.2.2.2.2⟩
theorem frF_w {S : ST} {k : Nat} {z : Int} (h : k = 0 ∨ k = 13) : frF S (wI S 179 k z) := ⟨rfl, rfl, fun c c1 _ => funext fun j => rI_ne c1 j, fun j j1 j2 => rI_nj (by omega), rfl⟩
theorem frF_a {S : ST} {k : Nat} {z : Int} : frF S (wI S 188 k z) := ⟨rfl, rfl, fun c _ c1 => funext fun j => rI_ne c1 j, fun j _ _ => rI_ne (by decide) j, rfl⟩
section MO
variable {X : List Int32} {S : ST} {y : Nat → Nat} {s i n : Nat} {sz : Nat → Nat} {fn nc : Nat} {Fn : Nat → Nat → Bool} {nm rn : Nat → Int64} {rof : Nat → Nat}
theorem m_feed_t {a b c e f : Int} (ht : mT S y s) (hs : ¬ s ≤ 380) : sM X 0 189 [.ref 179, .int (iI a), .int (iI b), .int (iI c), .int (iI e), .int (iI f)] S (sV (some (.int (iI 0))) (wI (wI S 179 0 0) 179 0 1)) := by
  have h400 := ht.1
  refine sIni (ls := [some (.ref 179), some (.int (iI a)), some (.int (iI b)), some (.int (iI c)), some (.int (iI e)), some (.int (iI f)), none, none]) rfl ?_
  refine sL (pc' := 1) (i := .aload_n 0) rfl rfl ?_
  refine sKi (p := 2) rfl rfl ?_
  refine sPi (z := 0) (p := 5) rfl rfl (sk_179 _) rfl rfl rfl rfl ?_
  refine sL (pc' := 6) (i := .aload_n 0) rfl rfl ?_
  refine sGi (p := 9) rfl rfl (sk_179 _) rfl rfl rfl ((rI_nj (by decide)).trans ht.2.2.1) ?_
  refine sKs (p := 12) rfl rfl ?_
  refine sIc_le (p := 15) rfl rfl ⟨by omega, by omega⟩ ⟨by omega, by omega⟩ (fun c1 => ?_) (fun c1 => ?_)
  · exfalso; omega
  · have c1 := c1
    refine sL (pc' := 16) (i := .aload_n 0) rfl rfl ?_
    refine sKi (p := 17) rfl rfl ?_
    refine sPi (z := 1) (p := 20) rfl rfl (sk_179 _) rfl rfl rfl rfl ?_
    refine sKi (p := 21) rfl rfl ?_
    refine sEn (i := .ireturn) rfl (rfl) ?_
    exact ⟨rfl, rfl⟩
theorem m_feed {a b c e f : Int} (ht : mT S y s) (hs : s ≤ 380) : sM X 0 189 [.ref 179, .int (iI a), .int (iI b), .int (iI c), .int (iI e), .int (iI f)] S (fun r S' => r = some (.int (iI ((s + 4 + 4 + 4 + 4 + 4 : Nat) : Int))) ∧ mT S' (adY (adY (adY (adY (adY y s a) (s + 4) b) (s + 4 + 4) c) (s + 4 + 4 + 4) e) (s + 4 + 4 + 4 + 4) f) (s + 4 + 4 + 4 + 4 + 4) ∧ frF S S' ∧ SI S' 179 0 = 0) := by
  have hyy : ∀ (y : Nat → Nat) (s : Nat) (x : Int), (∀ j, y j < 256) → ∀ j, adY y s x j < 256 := fun y s x h j => by
    unfold adY
    split
    · exact fb_lt _ _
    · exact h j
  have hy : ∀ j, (adY (adY (adY (adY (adY y s a) (s + 4) b) (s + 4 + 4) c) (s + 4 + 4 + 4) e) (s + 4 + 4 + 4 + 4) f) j < 256 := hyy _ _ _ (hyy _ _ _ (hyy _ _ _ (hyy _ _ _ (hyy _ _ _ ht.2.1))))
  have hlo : ∀ j, j < s → (adY (adY (adY (adY (adY y s a) (s + 4) b) (s + 4 + 4) c) (s + 4 + 4 + 4) e) (s + 4 + 4 + 4 + 4) f) j = y j := fun j hj => by
    unfold adY
    rw [if_neg (by omega), if_neg (by omega), if_neg (by omega), if_neg (by omega), if_neg (by omega)]
  obtain ⟨S0, hS0⟩ : ∃ S0, S0 = S := ⟨_, rfl⟩
  refine sIni (ls := [some (.ref 179), some (.int (iI a)), some (.int (iI b)), some (.int (iI c)), some (.int (iI e)), some (.int (iI f)), none, none]) rfl ?_
  refine sL (pc' := 1) (i := .aload_n 0) rfl rfl ?_
  refine sKi (p := 2) rfl rfl ?_
  refine sPi (z := 0) (p := 5) rfl rfl (sk_179 _) rfl rfl rfl rfl ?_
  refine sL (pc' := 6) (i := .aload_n 0) rfl rfl ?_
  refine sGi (p := 9) rfl rfl (sk_179 _) rfl rfl rfl ((rI_nj (by decide)).trans ht.2.2.1) ?_
  refine sKs (p := 12) rfl rfl ?_
  refine sIc_le (p := 15) rfl rfl ⟨by omega, by omega⟩ ⟨by omega, by omega⟩ (fun c1 => ?_) (fun c1 => ?_)
  · have c1 := c1
    refine sKi (p := 23) rfl rfl ?_
    refine sL (pc' := 25) (i := .istore 6) (ls' := [some (.ref 179), some (.int (iI a)), some (.int (iI b)), some (.int (iI c)), some (.int (iI e)), some (.int (iI f)), some (.int (iI 0)), none]) rfl rfl ?_
    refine sItR (A := fun k => [some (.ref 179), some (.int (iI a)), some (.int (iI b)), some (.int (iI c)), some (.int (iI e)), some (.int (iI f)), some (.int (iI ((k : Nat) : Int))), none]) (fun k S => SI S 179 13 = ((s + k : Nat) : Int) ∧ (∀ j, j < s + k → SI S 188 j = sb ((adY (adY (adY (adY (adY y s a) (s + 4) b) (s + 4 + 4) c) (s + 4 + 4 + 4) e) (s + 4 + 4 + 4 + 4) f) j)) ∧ frF S0 S ∧ SI S 179 0 = 0) 20 (⟨(rI_nj (by decide)).trans ht.2.2.1, fun j hj => (rI_ne (by decide) _).trans ((ht.2.2.2 j hj).trans (congrArg sb (hlo j hj).symm)), by rw [hS0]; exact frF_w (Or.inl rfl), rI_at⟩) (fun k hi25 Sa hJ25 ih25 => ?_) (fun Saf hJ25 => ?_)
    · have hi25 := hi25
      have hand : iI ((k : Nat) : Int) &&& iI 3 = iI ((k % 4 : Nat) : Int) := by
        have h1 := iI_and (a := ((k : Nat) : Int)) 2 (by decide)
        refine Eq.trans h1 (congrArg iI ?_)
        show ((k : Nat) : Int) % 4 = _
        omega
      refine sL (pc' := 27) (i := .iload 6) rfl rfl ?_
      refine sKb (p := 29) rfl rfl ?_
      refine sIc_ge (p := 32) rfl rfl ⟨by omega, by omega⟩ ⟨by omega, by omega⟩ (fun c2 => ?_) (fun c2 => ?_)
      · exfalso; omega
      · have c2 := c2
        refine sL (pc' := 34) (i := .iload 6) rfl rfl ?_
        refine sKi (p := 35) rfl rfl ?_
        refine sIc_ge (p := 38) rfl rfl ⟨by omega, by omega⟩ ⟨by omega, by omega⟩ (fun c3 => ?_) (fun c3 => ?_)
        · have c3 := c3
          refine sL (pc' := 44) (i := .iload 6) rfl rfl ?_
          refine sKb (p := 46) rfl rfl ?_
          refine sIc_ge (p := 49) rfl rfl ⟨by omega, by omega⟩ ⟨by omega, by omega⟩ (fun c4 => ?_) (fun c4 => ?_)
          · have c4 := c4
            refine sL (pc' := 55) (i := .iload 6) rfl rfl ?_
            refine sKb (p := 57) rfl rfl ?_
            refine sIc_ge (p := 60) rfl rfl ⟨by omega, by omega⟩ ⟨by omega, by omega⟩ (fun c5 => ?_) (fun c5 => ?_)
            · have c5 := c5
              refine sL (pc' := 66) (i := .iload 6) rfl rfl ?_
              refine sKb (p := 68) rfl rfl ?_
              refine sIc_ge (p := 71) rfl rfl ⟨by omega, by omega⟩ ⟨by omega, by omega⟩ (fun c6 => ?_) (fun c6 => ?_)
              · have c6 := c6
                refine sL (pc' := 78) (i := .iload 5) rfl rfl ?_
                refine sL (pc' := 80) (i := .istore 7) (ls' := [some (.ref 179), some (.int (iI a)), some (.int (iI b)), some (.int (iI c)), some (.int (iI e)), some (.int (iI f)), some (.int (iI ((k : Nat) : Int))), some (.int (iI f))]) rfl rfl ?_
                refine sL (pc' := 81) (i := .aload_n 0) rfl rfl ?_
                refine sGc (p := 84) rfl rfl (sk_179 _) rfl rfl rfl ?_
                refine sL (pc' := 85) (i := .aload_n 0) rfl rfl ?_
                refine sGi (p := 88) rfl rfl (sk_179 _) rfl rfl rfl hJ25.1 ?_
                refine sL (pc' := 90) (i := .iload 7) rfl rfl ?_
                refine sKb (p := 92) rfl rfl ?_
                refine sKb (p := 94) rfl rfl ?_
                refine sL (pc' := 96) (i := .iload 6) rfl rfl ?_
                refine sKi (p := 97) rfl rfl ?_
                refine sL (pc' := 98) (i := .iand) rfl rfl ?_
                rw [hand]
                refine sMu (p := 99) rfl rfl ?_
                refine sSb (p := 100) rfl rfl ?_
                rw [show (24 - (8 * ((k % 4 : Nat) : Int))) = ((24 - 8 * (k % 4) : Nat) : Int) from by omega]
                refine sL (pc' := 101) (i := .ishr) rfl rfl ?_
                refine sL (pc' := 102) (i := .i2b) rfl rfl ?_
                rw [i_byt2 (x := iI f) (j := 24 - 8 * (k % 4)) (by omega)]
                refine sWb (p := 103) (i := s + k) (w := sb (fb f (k % 4))) rfl rfl (sk_188 _) (by omega) ⟨by omega, by omega⟩ (sb_w _ (fb_lt _ _)) ?_
                refine sL (pc' := 104) (i := .aload_n 0) rfl rfl ?_
                refine sL (pc' := 105) (i := .dup) rfl rfl ?_
                refine sGi (p := 108) rfl rfl (sk_179 _) rfl rfl rfl ((rI_ne (by decide) _).trans hJ25.1) ?_
                refine sKi (p := 109) rfl rfl ?_
                refine sAd (p := 110) rfl rfl ?_
                rw [show ((((s + k : Nat) : Int) + 1)) = ((s + (k + 1) : Nat) : Int) from by omega]
                refine sPi (z := ((s + (k + 1) : Nat) : Int)) (p := 113) rfl rfl (sk_179 _) rfl rfl rfl rfl ?_
                refine sInX (z := ((k : Nat) : Int)) (ls' := [some (.ref 179), some (.int (iI a)), some (.int (iI b)), some (.int (iI c)), some (.int (iI e)), some (.int (iI f)), some (.int (iI (((k : Nat) : Int) + 1))), some (.int (iI f))]) (p := 116) rfl rfl (Nat.le_of_ble_eq_true rfl) rfl rfl ?_
                refine sL (i := .goto (-91)) rfl rfl ?_
                refine sFg (ls := [some (.ref 179), some (.int (iI a)), some (.int (iI b)), some (.int (iI c)), some (.int (iI e)), some (.int (iI f)), some (.int (iI ((k + 1 : Nat) : Int))), none]) (xx_ll_le (And.intro rfl (And.intro rfl (And.intro rfl (And.intro rfl (And.intro rfl (And.intro rfl (And.intro rfl (True.intro))))))))) (ih25 _ ?_)
                obtain ⟨j1, j2, j3, j4⟩ := hJ25
                refine ⟨rI_at, fun j hj => ?_, frF_trans j3 (frF_trans frF_a (frF_w (Or.inr rfl))), (rI_nj (by decide)).trans ((rI_ne (by decide) _).trans j4)⟩
                refine (rI_ne (by decide) _).trans ?_
                by_cases cj : j = s + k
                · rw [cj, rI_at]
                  refine congrArg sb ?_
                  unfold adY
                  rw [if_pos (by omega)]
                  exact congrArg (fb f) (by omega)
                · exact (rI_nj cj).trans (j2 j (by omega))
              · have c6 := c6
                refine sL (pc' := 73) (i := .iload 4) rfl rfl ?_
                refine sL (i := .goto 5) rfl rfl ?_
                refine sL (pc' := 80) (i := .istore 7) (ls' := [some (.ref 179), some (.int (iI a)), some (.int (iI b)), some (.int (iI c)), some (.int (iI e)), some (.int (iI f)), some (.int (iI ((k : Nat) : Int))), some (.int (iI e))]) rfl rfl ?_
                refine sL (pc' := 81) (i := .aload_n 0) rfl rfl ?_
                refine sGc (p := 84) rfl rfl (sk_179 _) rfl rfl rfl ?_
                refine sL (pc' := 85) (i := .aload_n 0) rfl rfl ?_
                refine sGi (p := 88) rfl rfl (sk_179 _) rfl rfl rfl hJ25.1 ?_
                refine sL (pc' := 90) (i := .iload 7) rfl rfl ?_
                refine sKb (p := 92) rfl rfl ?_
                refine sKb (p := 94) rfl rfl ?_
                refine sL (pc' := 96) (i := .iload 6) rfl rfl ?_
                refine sKi (p := 97) rfl rfl ?_
                refine sL (pc' := 98) (i := .iand) rfl rfl ?_
                rw [hand]
                refine sMu (p := 99) rfl rfl ?_
                refine sSb (p := 100) rfl rfl ?_
                rw [show (24 - (8 * ((k % 4 : Nat) : Int))) = ((24 - 8 * (k % 4) : Nat) : Int) from by omega]
                refine sL (pc' := 101) (i := .ishr) rfl rfl ?_
                refine sL (pc' := 102) (i := .i2b) rfl rfl ?_
                rw [i_byt2 (x := iI e) (j := 24 - 8 * (k % 4)) (by omega)]
                refine sWb (p := 103) (i := s + k) (w := sb (fb e (k % 4))) rfl rfl (sk_188 _) (by omega) ⟨by omega, by omega⟩ (sb_w _ (fb_lt _ _)) ?_
                refine sL (pc' := 104) (i := .aload_n 0) rfl rfl ?_
                refine sL (pc' := 105) (i := .dup) rfl rfl ?_
                refine sGi (p := 108) rfl rfl (sk_179 _) rfl rfl rfl ((rI_ne (by decide) _).trans hJ25.1) ?_
                refine sKi (p := 109) rfl rfl ?_
                refine sAd (p := 110) rfl rfl ?_
                rw [show ((((s + k : Nat) : Int) + 1)) = ((s + (k + 1) : Nat) : Int) from by omega]
                refine sPi (z := ((s + (k + 1) : Nat) : Int)) (p := 113) rfl rfl (sk_179 _) rfl rfl rfl rfl ?_
                refine sInX (z := ((k : Nat) : Int)) (ls' := [some (.ref 179), some (.int (iI a)), some (.int (iI b)), some (.int (iI c)), some (.int (iI e)), some (.int (iI f)), some (.int (iI (((k : Nat) : Int) + 1))), some (.int (iI e))]) (p := 116) rfl rfl (Nat.le_of_ble_eq_true rfl) rfl rfl ?_
                refine sL (i := .goto (-91)) rfl rfl ?_
                refine sFg (ls := [some (.ref 179), some (.int (iI a)), some (.int (iI b)), some (.int (iI c)), some (.int (iI e)), some (.int (iI f)), some (.int (iI ((k + 1 : Nat) : Int))), none]) (xx_ll_le (And.intro rfl (And.intro rfl (And.intro rfl (And.intro rfl (And.intro rfl (And.intro rfl (And.intro rfl (True.intro))))))))) (ih25 _ ?_)
                obtain ⟨j1, j2, j3, j4⟩ := hJ25
                refine ⟨rI_at, fun j hj => ?_, frF_trans j3 (frF_trans frF_a (frF_w (Or.inr rfl))), (rI_nj (by decide)).trans ((rI_ne (by decide) _).trans j4)⟩
                refine (rI_ne (by decide) _).trans ?_
                by_cases cj : j = s + k
                · rw [cj, rI_at]
                  refine congrArg sb ?_
                  unfold adY
                  rw [if_neg (by omega), if_pos (by omega)]
                  exact congrArg (fb e) (by omega)
                · exact (rI_nj cj).trans (j2 j (by omega))
            · have c5 := c5
              refine sL (pc' := 61) (i := .iload_n 3) rfl rfl ?_
              refine sL (i := .goto 17) rfl rfl ?_
              refine sL (pc' := 80) (i := .istore 7) (ls' := [some (.ref 179), some (.int (iI a)), some (.int (iI b)), some (.int (iI c)), some (.int (iI e)), some (.int (iI f)), some (.int (iI ((k : Nat) : Int))), some (.int (iI c))]) rfl rfl ?_
              refine sL (pc' := 81) (i := .aload_n 0) rfl rfl ?_
              refine sGc (p := 84) rfl rfl (sk_179 _) rfl rfl rfl ?_
              refine sL (pc' := 85) (i := .aload_n 0) rfl rfl ?_
              refine sGi (p := 88) rfl rfl (sk_179 _) rfl rfl rfl hJ25.1 ?_
              refine sL (pc' := 90) (i := .iload 7) rfl rfl ?_
              refine sKb (p := 92) rfl rfl ?_
              refine sKb (p := 94) rfl rfl ?_
              refine sL (pc' := 96) (i := .iload 6) rfl rfl ?_
              refine sKi (p := 97) rfl rfl ?_
              refine sL (pc' := 98) (i := .iand) rfl rfl ?_
              rw [hand]
              refine sMu (p := 99) rfl rfl ?_
              refine sSb (p := 100) rfl rfl ?_
              rw [show (24 - (8 * ((k % 4 : Nat) : Int))) = ((24 - 8 * (k % 4) : Nat) : Int) from by omega]
              refine sL (pc' := 101) (i := .ishr) rfl rfl ?_
              refine sL (pc' := 102) (i := .i2b) rfl rfl ?_
              rw [i_byt2 (x := iI c) (j := 24 - 8 * (k % 4)) (by omega)]
              refine sWb (p := 103) (i := s + k) (w := sb (fb c (k % 4))) rfl rfl (sk_188 _) (by omega) ⟨by omega, by omega⟩ (sb_w _ (fb_lt _ _)) ?_
              refine sL (pc' := 104) (i := .aload_n 0) rfl rfl ?_
              refine sL (pc' := 105) (i := .dup) rfl rfl ?_
              refine sGi (p := 108) rfl rfl (sk_179 _) rfl rfl rfl ((rI_ne (by decide) _).trans hJ25.1) ?_
              refine sKi (p := 109) rfl rfl ?_
              refine sAd (p := 110) rfl rfl ?_
              rw [show ((((s + k : Nat) : Int) + 1)) = ((s + (k + 1) : Nat) : Int) from by omega]
              refine sPi (z := ((s + (k + 1) : Nat) : Int)) (p := 113) rfl rfl (sk_179 _) rfl rfl rfl rfl ?_
              refine sInX (z := ((k : Nat) : Int)) (ls' := [some (.ref 179), some (.int (iI a)), some (.int (iI b)), some (.int (iI c)), some (.int (iI e)), some (.int (iI f)), some (.int (iI (((k : Nat) : Int) + 1))), some (.int (iI c))]) (p := 116) rfl rfl (Nat.le_of_ble_eq_true rfl) rfl rfl ?_
              refine sL (i := .goto (-91)) rfl rfl ?_
              refine sFg (ls := [some (.ref 179), some (.int (iI a)), some (.int (iI b)), some (.int (iI c)), some (.int (iI e)), some (.int (iI f)), some (.int (iI ((k + 1 : Nat) : Int))), none]) (xx_ll_le (And.intro rfl (And.intro rfl (And.intro rfl (And.intro rfl (And.intro rfl (And.intro rfl (And.intro rfl (True.intro))))))))) (ih25 _ ?_)
              obtain ⟨j1, j2, j3, j4⟩ := hJ25
              refine ⟨rI_at, fun j hj => ?_, frF_trans j3 (frF_trans frF_a (frF_w (Or.inr rfl))), (rI_nj (by decide)).trans ((rI_ne (by decide) _).trans j4)⟩
              refine (rI_ne (by decide) _).trans ?_
              by_cases cj : j = s + k
              · rw [cj, rI_at]
                refine congrArg sb ?_
                unfold adY
                rw [if_neg (by omega), if_neg (by omega), if_pos (by omega)]
                exact congrArg (fb c) (by omega)
              · exact (rI_nj cj).trans (j2 j (by omega))
          · have c4 := c4
            refine sL (pc' := 50) (i := .iload_n 2) rfl rfl ?_
            refine sL (i := .goto 28) rfl rfl ?_
            refine sL (pc' := 80) (i := .istore 7) (ls' := [some (.ref 179), some (.int (iI a)), some (.int (iI b)), some (.int (iI c)), some (.int (iI e)), some (.int (iI f)), some (.int (iI ((k : Nat) : Int))), some (.int (iI b))]) rfl rfl ?_
            refine sL (pc' := 81) (i := .aload_n 0) rfl rfl ?_
            refine sGc (p := 84) rfl rfl (sk_179 _) rfl rfl rfl ?_
            refine sL (pc' := 85) (i := .aload_n 0) rfl rfl ?_
            refine sGi (p := 88) rfl rfl (sk_179 _) rfl rfl rfl hJ25.1 ?_
            refine sL (pc' := 90) (i := .iload 7) rfl rfl ?_
            refine sKb (p := 92) rfl rfl ?_
            refine sKb (p := 94) rfl rfl ?_
            refine sL (pc' := 96) (i := .iload 6) rfl rfl ?_
            refine sKi (p := 97) rfl rfl ?_
            refine sL (pc' := 98) (i := .iand) rfl rfl ?_
            rw [hand]
            refine sMu (p := 99) rfl rfl ?_
            refine sSb (p := 100) rfl rfl ?_
            rw [show (24 - (8 * ((k % 4 : Nat) : Int))) = ((24 - 8 * (k % 4) : Nat) : Int) from by omega]
            refine sL (pc' := 101) (i := .ishr) rfl rfl ?_
            refine sL (pc' := 102) (i := .i2b) rfl rfl ?_
            rw [i_byt2 (x := iI b) (j := 24 - 8 * (k % 4)) (by omega)]
            refine sWb (p := 103) (i := s + k) (w := sb (fb b (k % 4))) rfl rfl (sk_188 _) (by omega) ⟨by omega, by omega⟩ (sb_w _ (fb_lt _ _)) ?_
            refine sL (pc' := 104) (i := .aload_n 0) rfl rfl ?_
            refine sL (pc' := 105) (i := .dup) rfl rfl ?_
            refine sGi (p := 108) rfl rfl (sk_179 _) rfl rfl rfl ((rI_ne (by decide) _).trans hJ25.1) ?_
            refine sKi (p := 109) rfl rfl ?_
            refine sAd (p := 110) rfl rfl ?_
            rw [show ((((s + k : Nat) : Int) + 1)) = ((s + (k + 1) : Nat) : Int) from by omega]
            refine sPi (z := ((s + (k + 1) : Nat) : Int)) (p := 113) rfl rfl (sk_179 _) rfl rfl rfl rfl ?_
            refine sInX (z := ((k : Nat) : Int)) (ls' := [some (.ref 179), some (.int (iI a)), some (.int (iI b)), some (.int (iI c)), some (.int (iI e)), some (.int (iI f)), some (.int (iI (((k : Nat) : Int) + 1))), some (.int (iI b))]) (p := 116) rfl rfl (Nat.le_of_ble_eq_true rfl) rfl rfl ?_
            refine sL (i := .goto (-91)) rfl rfl ?_
            refine sFg (ls := [some (.ref 179), some (.int (iI a)), some (.int (iI b)), some (.int (iI c)), some (.int (iI e)), some (.int (iI f)), some (.int (iI ((k + 1 : Nat) : Int))), none]) (xx_ll_le (And.intro rfl (And.intro rfl (And.intro rfl (And.intro rfl (And.intro rfl (And.intro rfl (And.intro rfl (True.intro))))))))) (ih25 _ ?_)
            obtain ⟨j1, j2, j3, j4⟩ := hJ25
            refine ⟨rI_at, fun j hj => ?_, frF_trans j3 (frF_trans frF_a (frF_w (Or.inr rfl))), (rI_nj (by decide)).trans ((rI_ne (by decide) _).trans j4)⟩
            refine (rI_ne (by decide) _).trans ?_
            by_cases cj : j = s + k
            · rw [cj, rI_at]
              refine congrArg sb ?_
              unfold adY
              rw [if_neg (by omega), if_neg (by omega), if_neg (by omega), if_pos (by omega)]
              exact congrArg (fb b) (by omega)
            · exact (rI_nj cj).trans (j2 j (by omega))
        · have c3 := c3
          refine sL (pc' := 39) (i := .iload_n 1) rfl rfl ?_
          refine sL (i := .goto 39) rfl rfl ?_
          refine sL (pc' := 80) (i := .istore 7) (ls' := [some (.ref 179), some (.int (iI a)), some (.int (iI b)), some (.int (iI c)), some (.int (iI e)), some (.int (iI f)), some (.int (iI ((k : Nat) : Int))), some (.int (iI a))]) rfl rfl ?_
          refine sL (pc' := 81) (i := .aload_n 0) rfl rfl ?_
          refine sGc (p := 84) rfl rfl (sk_179 _) rfl rfl rfl ?_
          refine sL (pc' := 85) (i := .aload_n 0) rfl rfl ?_
          refine sGi (p := 88) rfl rfl (sk_179 _) rfl rfl rfl hJ25.1 ?_
          refine sL (pc' := 90) (i := .iload 7) rfl rfl ?_
          refine sKb (p := 92) rfl rfl ?_
          refine sKb (p := 94) rfl rfl ?_
          refine sL (pc' := 96) (i := .iload 6) rfl rfl ?_
          refine sKi (p := 97) rfl rfl ?_
          refine sL (pc' := 98) (i := .iand) rfl rfl ?_
          rw [hand]
          refine sMu (p := 99) rfl rfl ?_
          refine sSb (p := 100) rfl rfl ?_
          rw [show (24 - (8 * ((k % 4 : Nat) : Int))) = ((24 - 8 * (k % 4) : Nat) : Int) from by omega]
          refine sL (pc' := 101) (i := .ishr) rfl rfl ?_
          refine sL (pc' := 102) (i := .i2b) rfl rfl ?_
          rw [i_byt2 (x := iI a) (j := 24 - 8 * (k % 4)) (by omega)]
          refine sWb (p := 103) (i := s + k) (w := sb (fb a (k % 4))) rfl rfl (sk_188 _) (by omega) ⟨by omega, by omega⟩ (sb_w _ (fb_lt _ _)) ?_
          refine sL (pc' := 104) (i := .aload_n 0) rfl rfl ?_
          refine sL (pc' := 105) (i := .dup) rfl rfl ?_
          refine sGi (p := 108) rfl rfl (sk_179 _) rfl rfl rfl ((rI_ne (by decide) _).trans hJ25.1) ?_
          refine sKi (p := 109) rfl rfl ?_
          refine sAd (p := 110) rfl rfl ?_
          rw [show ((((s + k : Nat) : Int) + 1)) = ((s + (k + 1) : Nat) : Int) from by omega]
          refine sPi (z := ((s + (k + 1) : Nat) : Int)) (p := 113) rfl rfl (sk_179 _) rfl rfl rfl rfl ?_
          refine sInX (z := ((k : Nat) : Int)) (ls' := [some (.ref 179), some (.int (iI a)), some (.int (iI b)), some (.int (iI c)), some (.int (iI e)), some (.int (iI f)), some (.int (iI (((k : Nat) : Int) + 1))), some (.int (iI a))]) (p := 116) rfl rfl (Nat.le_of_ble_eq_true rfl) rfl rfl ?_
          refine sL (i := .goto (-91)) rfl rfl ?_
          refine sFg (ls := [some (.ref 179), some (.int (iI a)), some (.int (iI b)), some (.int (iI c)), some (.int (iI e)), some (.int (iI f)), some (.int (iI ((k + 1 : Nat) : Int))), none]) (xx_ll_le (And.intro rfl (And.intro rfl (And.intro rfl (And.intro rfl (And.intro rfl (And.intro rfl (And.intro rfl (True.intro))))))))) (ih25 _ ?_)
          obtain ⟨j1, j2, j3, j4⟩ := hJ25
          refine ⟨rI_at, fun j hj => ?_, frF_trans j3 (frF_trans frF_a (frF_w (Or.inr rfl))), (rI_nj (by decide)).trans ((rI_ne (by decide) _).trans j4)⟩
          refine (rI_ne (by decide) _).trans ?_
          by_cases cj : j = s + k
          · rw [cj, rI_at]
            refine congrArg sb ?_
            unfold adY
            rw [if_neg (by omega), if_neg (by omega), if_neg (by omega), if_neg (by omega), if_pos (by omega)]
            exact congrArg (fb a) (by omega)
          · exact (rI_nj cj).trans (j2 j (by omega))
    · have hJ25 := hJ25
      refine sL (pc' := 27) (i := .iload 6) rfl rfl ?_
      refine sKb (p := 29) rfl rfl ?_
      refine sIc_ge (p := 32) rfl rfl ⟨by omega, by omega⟩ ⟨by omega, by omega⟩ (fun c7 => ?_) (fun c7 => ?_)
      · have c7 := c7
        refine sL (pc' := 120) (i := .aload_n 0) rfl rfl ?_
        refine sGi (p := 123) rfl rfl (sk_179 _) rfl rfl rfl hJ25.1 ?_
        refine sEn (i := .ireturn) rfl (rfl) ?_
        obtain ⟨j1, j2, j3, j4⟩ := hJ25
        rw [hS0] at j3
        exact ⟨congrArg (fun z : Nat => some (Value.int (iI ((z : Nat) : Int)))) (by omega), ⟨by omega, hy, j1, j2⟩, j3, j4⟩
      · exact absurd c7 (by decide)
  · exfalso; omega
theorem m_named {kz : Int} (ht : mT S y s) (hF : mFn S fn Fn nc rn rof) (hnm : nmJ nm fn rn rof nc) (hk : SI S 179 14 = kz) (hz : 0 ≤ kz ∧ kz ≤ 5) : sM X 3 212 [.ref 179] S (fun r S' => r = some (.int (iI (if (if nT y s = 1 ∧ tk y s 0 = 258 ∧ tk y s 1 = 264 then fnd nm (tC y s (tA y s 0)) fn 0 else -1) = -1 then -103 else (if nT y s = 1 ∧ tk y s 0 = 258 ∧ tk y s 1 = 264 then fnd nm (tC y s (tA y s 0)) fn 0 else -1)))) ∧ frE S S' ∧ SI S' 179 13 = 0 ∧ SI S' 179 14 = kz ∧ mFn S' fn Fn nc rn rof) := by
  have hs := ht.1
  obtain ⟨S1, hS1⟩ : ∃ S1, S1 = wI (wI (wI (wI S 179 22 ((s : Nat) : Int)) 179 13 0) 179 23 0) 179 14 0 := ⟨_, rfl⟩
  have hfE : frE S S1 := by
    rw [hS1]
    exact frE_trans (frE_trans (frE_trans (frE_w (by omega)) (frE_w (by omega))) (frE_w (by omega))) (frE_w (by omega))
  have hiS : ∀ j, j ≠ 22 → j ≠ 13 → j ≠ 23 → j ≠ 14 → SI S1 179 j = SI S 179 j := fun j h1 h2 h3 h4 => by
    rw [hS1]
    exact (rI_nj h4).trans ((rI_nj h3).trans ((rI_nj h2).trans (rI_nj h1)))
  have hlS : SL S1 = SL S := by rw [hS1]; rfl
  have hcS : ∀ c, c ≠ 179 → SI S1 c = SI S c := fun c hc => by
    rw [hS1]
    exact funext fun j => (rI_ne hc _).trans ((rI_ne hc _).trans ((rI_ne hc _).trans (rI_ne hc _)))
  have h131 : SI S1 179 13 = 0 := by
    rw [hS1]
    exact (rI_nj (by decide)).trans ((rI_nj (by decide)).trans rI_at)
  have hmt : mt S1 y s := ⟨hs, ht.2.1, by rw [hS1]; exact (rI_nj (by decide)).trans ((rI_nj (by decide)).trans ((rI_nj (by decide)).trans rI_at)), fun j hj => by rw [hcS 188 (by decide)]; exact ht.2.2.2 j hj⟩
  have hG : mG S1 y s 0 := ⟨hmt, by rw [hS1]; exact rI_at, 0, Nat.zero_le _, by rw [hS1]; exact (rI_nj (by decide)).trans rI_at, rfl⟩
  have hF1 : mFn S1 fn Fn nc rn rof := by
    unfold mFn rowS at *
    rw [hiS 9 (by decide) (by decide) (by decide) (by decide), hiS 17 (by decide) (by decide) (by decide) (by decide), hcS 190 (by decide), hlS]
    exact hF
  have hnT := nT_ok y s
  have h40c := hF.2.2.2.2.1
  have hr0 := rc_b (k := tk y s 0) (tK_lt _)
  have hr1 := rc_b (k := tk y s 1) (tK_lt _)
  have hfin : ∀ S2, frK S1 S2 → frE S (wI S2 179 14 kz) ∧ SI (wI S2 179 14 kz) 179 13 = 0 ∧ SI (wI S2 179 14 kz) 179 14 = kz ∧ mFn (wI S2 179 14 kz) fn Fn nc rn rof := by
    intro S2 h2
    have hF2 := mFn_K hF1 h2
    refine ⟨frE_trans hfE (frE_trans (frE_K h2) (frE_w (by omega))), (rI_nj (by decide)).trans ((h2.2.2.2.1 13 (by decide)).trans h131), rI_at, (rI_nj (by decide)).trans hF2.1, hF2.2.1, hF2.2.2.1, (rI_nj (by decide)).trans hF2.2.2.2.1, hF2.2.2.2.2.1, hF2.2.2.2.2.2.1, fun i hi => ⟨(rI_ne (by decide) _).trans (hF2.2.2.2.2.2.2 i hi).1, (hF2.2.2.2.2.2.2 i hi).2⟩⟩
  by_cases q0 : tk y s 0 = 258
  · have e0 : rc (tk y s 0) = 1 := by rw [q0]; rfl
    have hnz := tC_nz (y := y) (s := s) q0
    have hj := hnm _ hnz
    have hA2' : ∀ S2, mN S2 y s 0 → mA S2 y s 0 ∧ SL S2 179 26 = tC y s (tA y s 0) := fun S2 h => by
      have h1 := mN_alive h (by omega)
      exact ⟨h1, h1.2.2.2.2.2.2.1 q0⟩
    rcases fnd_b (nm := rn) (x := tC y s (tA y s 0)) nc 0 with hf | hf
    · have hA0 : (if nT y s = 1 ∧ tk y s 0 = 258 ∧ tk y s 1 = 264 then fnd nm (tC y s (tA y s 0)) fn 0 else -1) = -1 := by
        split
        · exact hj.1 hf
        · rfl
      refine sIni (ls := [some (.ref 179), none, none]) rfl ?_
      refine sL (pc' := 1) (i := .aload_n 0) rfl rfl ?_
      refine sL (pc' := 2) (i := .aload_n 0) rfl rfl ?_
      refine sGi (p := 5) rfl rfl (sk_179 _) rfl rfl rfl ht.2.2.1 ?_
      refine sPi (z := ((s : Nat) : Int)) (p := 8) rfl rfl (sk_179 _) rfl rfl rfl rfl ?_
      refine sL (pc' := 9) (i := .aload_n 0) rfl rfl ?_
      refine sKi (p := 10) rfl rfl ?_
      refine sPi (z := 0) (p := 13) rfl rfl (sk_179 _) rfl rfl rfl rfl ?_
      refine sL (pc' := 14) (i := .aload_n 0) rfl rfl ?_
      refine sKi (p := 15) rfl rfl ?_
      refine sPi (z := 0) (p := 18) rfl rfl (sk_179 _) rfl rfl rfl rfl ?_
      refine sL (pc' := 19) (i := .aload_n 0) rfl rfl ?_
      refine sGi (p := 22) rfl rfl (sk_179 _) rfl rfl rfl ((rI_nj (by decide)).trans ((rI_nj (by decide)).trans ((rI_nj (by decide)).trans hk))) ?_
      refine sL (pc' := 23) (i := .istore_n 1) (ls' := [some (.ref 179), some (.int (iI kz)), none]) rfl rfl ?_
      refine sL (pc' := 24) (i := .aload_n 0) rfl rfl ?_
      refine sKi (p := 25) rfl rfl ?_
      refine sPi (z := 0) (p := 28) rfl rfl (sk_179 _) rfl rfl rfl rfl ?_
      rw [show (wI (wI (wI (wI S 179 (534 % 64) ((s : Nat) : Int)) 179 (525 % 64) 0) 179 (535 % 64) 0) 179 (526 % 64) 0) = S1 from hS1.symm]
      refine sL (pc' := 29) (i := .aload_n 0) rfl rfl ?_
      refine sCvQ (p := 32) (as := []) rfl rfl rfl rfl (by decide) (Nat.le_of_ble_eq_true rfl) rfl (Nat.le_of_ble_eq_true rfl) (sk_179 _) rfl (by omega) (m_nextG hG) ?_
      rintro _ S2 ⟨rfl, hf2, hN2⟩
      obtain ⟨hA2, hx⟩ := hA2' S2 hN2
      have hF2 := mFn_K hF1 (frK_J hf2)
      refine sL (pc' := 33) (i := .aload_n 0) rfl rfl ?_
      refine sGi (p := 36) rfl rfl (sk_179 _) rfl rfl rfl hA2.2.1 ?_
      refine sIf_ne (p := 39) rfl rfl ⟨by omega, by omega⟩ (fun c1 => ?_) (fun c1 => ?_)
      · exact absurd c1 (by decide)
      · have c1 := c1
        refine sL (pc' := 40) (i := .aload_n 0) rfl rfl ?_
        refine sGi (p := 43) rfl rfl (sk_179 _) rfl rfl rfl hA2.2.2.2.1 ?_
        refine sKi (p := 44) rfl rfl ?_
        refine sIc_ne (p := 47) rfl rfl ⟨by omega, by omega⟩ ⟨by omega, by omega⟩ (fun c2 => ?_) (fun c2 => ?_)
        · exfalso; omega
        · have c2 := c2
          refine sL (pc' := 48) (i := .aload_n 0) rfl rfl ?_
          refine sL (pc' := 49) (i := .aload_n 0) rfl rfl ?_
          refine sGl (p := 52) rfl rfl (sk_179 _) rfl rfl rfl hx ?_
          refine sCv (p := 55) (as := [_]) rfl rfl rfl rfl (by decide) (Nat.le_of_ble_eq_true rfl) rfl (Nat.le_of_ble_eq_true rfl) (sk_179 _) rfl (by omega) (m_findName hF2.2.2.2.1 h40c hF2.2.2.2.2.2.1) ?_
          rw [hf]
          refine sL (i := .goto 4) rfl rfl ?_
          refine sL (pc' := 60) (i := .istore_n 2) (ls' := [some (.ref 179), some (.int (iI kz)), some (.int (iI (-1)))]) rfl rfl ?_
          refine sL (pc' := 61) (i := .iload_n 2) rfl rfl ?_
          refine sKi (p := 62) rfl rfl ?_
          refine sIc_eq (p := 65) rfl rfl ⟨by omega, by omega⟩ ⟨by omega, by omega⟩ (fun c3 => ?_) (fun c3 => ?_)
          · have c3 := c3
            refine sL (pc' := 90) (i := .aload_n 0) rfl rfl ?_
            refine sL (pc' := 91) (i := .iload_n 1) rfl rfl ?_
            refine sPi (z := kz) (p := 94) rfl rfl (sk_179 _) rfl rfl rfl rfl ?_
            refine sL (pc' := 95) (i := .iload_n 2) rfl rfl ?_
            refine sKi (p := 96) rfl rfl ?_
            refine sIc_ne (p := 99) rfl rfl ⟨by omega, by omega⟩ ⟨by omega, by omega⟩ (fun c4 => ?_) (fun c4 => ?_)
            · exact absurd c4 (by decide)
            · have c4 := c4
              refine sKb (p := 101) rfl rfl ?_
              refine sL (i := .goto 9) rfl rfl ?_
              refine sEn (i := .ireturn) rfl (rfl) ?_
              refine ⟨congrArg (fun z : Int => some (Value.int (iI z))) (show (-103 : Int) = _ from by rw [hA0, if_pos rfl]), hfin _ (frK_J hf2)⟩
          · exact absurd c3 (by decide)
    · have hfn : fnd rn (tC y s (tA y s 0)) nc 0 ≠ -1 := by omega
      have hj2 := hj.2 hfn
      obtain ⟨kf, hkf⟩ : ∃ kf : Nat, fnd rn (tC y s (tA y s 0)) nc 0 = ((kf : Nat) : Int) := ⟨(fnd rn (tC y s (tA y s 0)) nc 0).toNat, by omega⟩
      rw [hkf] at hf hj2
      have hj2 : fnd nm (tC y s (tA y s 0)) fn 0 = ((rof kf : Nat) : Int) := hj2
      have hkn : kf < nc := by omega
      by_cases q1 : tk y s 1 = 264
      · have e1 : rc (tk y s 1) = 0 := by rw [q1]; rfl
        have hn1 : nT y s = 1 := by
          have h0 : nT y s ≠ 0 := fun z => by
            rw [z] at hnT
            omega
          refine Classical.byContradiction fun c => ?_
          have := (hnT.2.2 1 (by omega)).1
          omega
        have hA0 : (if nT y s = 1 ∧ tk y s 0 = 258 ∧ tk y s 1 = 264 then fnd nm (tC y s (tA y s 0)) fn 0 else -1) = ((rof kf : Nat) : Int) := by
          rw [if_pos ⟨hn1, q0, q1⟩]
          exact hj2
        refine sIni (ls := [some (.ref 179), none, none]) rfl ?_
        refine sL (pc' := 1) (i := .aload_n 0) rfl rfl ?_
        refine sL (pc' := 2) (i := .aload_n 0) rfl rfl ?_
        refine sGi (p := 5) rfl rfl (sk_179 _) rfl rfl rfl ht.2.2.1 ?_
        refine sPi (z := ((s : Nat) : Int)) (p := 8) rfl rfl (sk_179 _) rfl rfl rfl rfl ?_
        refine sL (pc' := 9) (i := .aload_n 0) rfl rfl ?_
        refine sKi (p := 10) rfl rfl ?_
        refine sPi (z := 0) (p := 13) rfl rfl (sk_179 _) rfl rfl rfl rfl ?_
        refine sL (pc' := 14) (i := .aload_n 0) rfl rfl ?_
        refine sKi (p := 15) rfl rfl ?_
        refine sPi (z := 0) (p := 18) rfl rfl (sk_179 _) rfl rfl rfl rfl ?_
        refine sL (pc' := 19) (i := .aload_n 0) rfl rfl ?_
        refine sGi (p := 22) rfl rfl (sk_179 _) rfl rfl rfl ((rI_nj (by decide)).trans ((rI_nj (by decide)).trans ((rI_nj (by decide)).trans hk))) ?_
        refine sL (pc' := 23) (i := .istore_n 1) (ls' := [some (.ref 179), some (.int (iI kz)), none]) rfl rfl ?_
        refine sL (pc' := 24) (i := .aload_n 0) rfl rfl ?_
        refine sKi (p := 25) rfl rfl ?_
        refine sPi (z := 0) (p := 28) rfl rfl (sk_179 _) rfl rfl rfl rfl ?_
        rw [show (wI (wI (wI (wI S 179 (534 % 64) ((s : Nat) : Int)) 179 (525 % 64) 0) 179 (535 % 64) 0) 179 (526 % 64) 0) = S1 from hS1.symm]
        refine sL (pc' := 29) (i := .aload_n 0) rfl rfl ?_
        refine sCvQ (p := 32) (as := []) rfl rfl rfl rfl (by decide) (Nat.le_of_ble_eq_true rfl) rfl (Nat.le_of_ble_eq_true rfl) (sk_179 _) rfl (by omega) (m_nextG hG) ?_
        rintro _ S2 ⟨rfl, hf2, hN2⟩
        obtain ⟨hA2, hx⟩ := hA2' S2 hN2
        have hF2 := mFn_K hF1 (frK_J hf2)
        refine sL (pc' := 33) (i := .aload_n 0) rfl rfl ?_
        refine sGi (p := 36) rfl rfl (sk_179 _) rfl rfl rfl hA2.2.1 ?_
        refine sIf_ne (p := 39) rfl rfl ⟨by omega, by omega⟩ (fun c1 => ?_) (fun c1 => ?_)
        · exact absurd c1 (by decide)
        · have c1 := c1
          refine sL (pc' := 40) (i := .aload_n 0) rfl rfl ?_
          refine sGi (p := 43) rfl rfl (sk_179 _) rfl rfl rfl hA2.2.2.2.1 ?_
          refine sKi (p := 44) rfl rfl ?_
          refine sIc_ne (p := 47) rfl rfl ⟨by omega, by omega⟩ ⟨by omega, by omega⟩ (fun c2 => ?_) (fun c2 => ?_)
          · exfalso; omega
          · have c2 := c2
            refine sL (pc' := 48) (i := .aload_n 0) rfl rfl ?_
            refine sL (pc' := 49) (i := .aload_n 0) rfl rfl ?_
            refine sGl (p := 52) rfl rfl (sk_179 _) rfl rfl rfl hx ?_
            refine sCv (p := 55) (as := [_]) rfl rfl rfl rfl (by decide) (Nat.le_of_ble_eq_true rfl) rfl (Nat.le_of_ble_eq_true rfl) (sk_179 _) rfl (by omega) (m_findName hF2.2.2.2.1 h40c hF2.2.2.2.2.2.1) ?_
            rw [hkf]
            refine sL (i := .goto 4) rfl rfl ?_
            refine sL (pc' := 60) (i := .istore_n 2) (ls' := [some (.ref 179), some (.int (iI kz)), some (.int (iI ((kf : Nat) : Int)))]) rfl rfl ?_
            refine sL (pc' := 61) (i := .iload_n 2) rfl rfl ?_
            refine sKi (p := 62) rfl rfl ?_
            refine sIc_eq (p := 65) rfl rfl ⟨by omega, by omega⟩ ⟨by omega, by omega⟩ (fun c3 => ?_) (fun c3 => ?_)
            · exfalso; omega
            · have c3 := c3
              refine sL (pc' := 66) (i := .aload_n 0) rfl rfl ?_
              refine sCvQ (p := 69) (as := []) rfl rfl rfl rfl (by decide) (Nat.le_of_ble_eq_true rfl) rfl (Nat.le_of_ble_eq_true rfl) (sk_179 _) rfl (by omega) (m_nextA hA2) ?_
              rintro _ S3 ⟨rfl, hf3, hN3⟩
              have hA3 : mA S3 y s 1 := mN_alive hN3 (by show tk y s 1 ≠ 265; omega)
              have hF3 := mFn_K hF2 (frK_J hf3)
              have hrof := (hF3.2.2.2.2.2.2 kf hkn).1
              refine sL (pc' := 70) (i := .aload_n 0) rfl rfl ?_
              refine sGi (p := 73) rfl rfl (sk_179 _) rfl rfl rfl hA3.2.1 ?_
              refine sIf_ne (p := 76) rfl rfl ⟨by omega, by omega⟩ (fun c4 => ?_) (fun c4 => ?_)
              · exact absurd c4 (by decide)
              · have c4 := c4
                refine sL (pc' := 77) (i := .aload_n 0) rfl rfl ?_
                refine sGi (p := 80) rfl rfl (sk_179 _) rfl rfl rfl hA3.2.2.2.1 ?_
                refine sIf_ne (p := 83) rfl rfl ⟨by omega, by omega⟩ (fun c5 => ?_) (fun c5 => ?_)
                · exfalso; omega
                · have c5 := c5
                  refine sL (pc' := 84) (i := .iload_n 2) rfl rfl ?_
                  refine sL (i := .goto 4) rfl rfl ?_
                  refine sL (pc' := 89) (i := .istore_n 2) (ls' := [some (.ref 179), some (.int (iI kz)), some (.int (iI ((kf : Nat) : Int)))]) rfl rfl ?_
                  refine sL (pc' := 90) (i := .aload_n 0) rfl rfl ?_
                  refine sL (pc' := 91) (i := .iload_n 1) rfl rfl ?_
                  refine sPi (z := kz) (p := 94) rfl rfl (sk_179 _) rfl rfl rfl rfl ?_
                  refine sL (pc' := 95) (i := .iload_n 2) rfl rfl ?_
                  refine sKi (p := 96) rfl rfl ?_
                  refine sIc_ne (p := 99) rfl rfl ⟨by omega, by omega⟩ ⟨by omega, by omega⟩ (fun c6 => ?_) (fun c6 => ?_)
                  · have c6 := c6
                    refine sL (pc' := 105) (i := .aload_n 0) rfl rfl ?_
                    refine sGc (p := 108) rfl rfl (sk_179 _) rfl rfl rfl ?_
                    refine sL (pc' := 109) (i := .iload_n 2) rfl rfl ?_
                    refine sAi (p := 110) (i := kf) rfl rfl (sk_190 _) (by omega) ⟨by omega, by omega⟩ ((rI_ne (by decide) _).trans hrof) ?_
                    refine sEn (i := .ireturn) rfl (rfl) ?_
                    refine ⟨congrArg (fun z : Int => some (Value.int (iI z))) (show ((rof kf : Nat) : Int) = _ from by rw [hA0, if_neg (by omega)]), hfin _ (frK_J (frJ_trans hf2 hf3))⟩
                  · exfalso; omega
      · have hA0 : (if nT y s = 1 ∧ tk y s 0 = 258 ∧ tk y s 1 = 264 then fnd nm (tC y s (tA y s 0)) fn 0 else -1) = -1 := if_neg (fun z => q1 z.2.2)
        have e1 : rc (tk y s 1) ≠ 0 := by
          have h9 : tk y s 1 ≤ 265 := tK_lt _
          have h8 := tk_sm (y := y) (s := s) (i := 1)
          unfold rc
          repeat' split
          all_goals omega
        by_cases q2 : tk y s 1 = 265
        · have e2 := q2
          refine sIni (ls := [some (.ref 179), none, none]) rfl ?_
          refine sL (pc' := 1) (i := .aload_n 0) rfl rfl ?_
          refine sL (pc' := 2) (i := .aload_n 0) rfl rfl ?_
          refine sGi (p := 5) rfl rfl (sk_179 _) rfl rfl rfl ht.2.2.1 ?_
          refine sPi (z := ((s : Nat) : Int)) (p := 8) rfl rfl (sk_179 _) rfl rfl rfl rfl ?_
          refine sL (pc' := 9) (i := .aload_n 0) rfl rfl ?_
          refine sKi (p := 10) rfl rfl ?_
          refine sPi (z := 0) (p := 13) rfl rfl (sk_179 _) rfl rfl rfl rfl ?_
          refine sL (pc' := 14) (i := .aload_n 0) rfl rfl ?_
          refine sKi (p := 15) rfl rfl ?_
          refine sPi (z := 0) (p := 18) rfl rfl (sk_179 _) rfl rfl rfl rfl ?_
          refine sL (pc' := 19) (i := .aload_n 0) rfl rfl ?_
          refine sGi (p := 22) rfl rfl (sk_179 _) rfl rfl rfl ((rI_nj (by decide)).trans ((rI_nj (by decide)).trans ((rI_nj (by decide)).trans hk))) ?_
          refine sL (pc' := 23) (i := .istore_n 1) (ls' := [some (.ref 179), some (.int (iI kz)), none]) rfl rfl ?_
          refine sL (pc' := 24) (i := .aload_n 0) rfl rfl ?_
          refine sKi (p := 25) rfl rfl ?_
          refine sPi (z := 0) (p := 28) rfl rfl (sk_179 _) rfl rfl rfl rfl ?_
          rw [show (wI (wI (wI (wI S 179 (534 % 64) ((s : Nat) : Int)) 179 (525 % 64) 0) 179 (535 % 64) 0) 179 (526 % 64) 0) = S1 from hS1.symm]
          refine sL (pc' := 29) (i := .aload_n 0) rfl rfl ?_
          refine sCvQ (p := 32) (as := []) rfl rfl rfl rfl (by decide) (Nat.le_of_ble_eq_true rfl) rfl (Nat.le_of_ble_eq_true rfl) (sk_179 _) rfl (by omega) (m_nextG hG) ?_
          rintro _ S2 ⟨rfl, hf2, hN2⟩
          obtain ⟨hA2, hx⟩ := hA2' S2 hN2
          have hF2 := mFn_K hF1 (frK_J hf2)
          refine sL (pc' := 33) (i := .aload_n 0) rfl rfl ?_
          refine sGi (p := 36) rfl rfl (sk_179 _) rfl rfl rfl hA2.2.1 ?_
          refine sIf_ne (p := 39) rfl rfl ⟨by omega, by omega⟩ (fun c1 => ?_) (fun c1 => ?_)
          · exact absurd c1 (by decide)
          · have c1 := c1
            refine sL (pc' := 40) (i := .aload_n 0) rfl rfl ?_
            refine sGi (p := 43) rfl rfl (sk_179 _) rfl rfl rfl hA2.2.2.2.1 ?_
            refine sKi (p := 44) rfl rfl ?_
            refine sIc_ne (p := 47) rfl rfl ⟨by omega, by omega⟩ ⟨by omega, by omega⟩ (fun c2 => ?_) (fun c2 => ?_)
            · exfalso; omega
            · have c2 := c2
              refine sL (pc' := 48) (i := .aload_n 0) rfl rfl ?_
              refine sL (pc' := 49) (i := .aload_n 0) rfl rfl ?_
              refine sGl (p := 52) rfl rfl (sk_179 _) rfl rfl rfl hx ?_
              refine sCv (p := 55) (as := [_]) rfl rfl rfl rfl (by decide) (Nat.le_of_ble_eq_true rfl) rfl (Nat.le_of_ble_eq_true rfl) (sk_179 _) rfl (by omega) (m_findName hF2.2.2.2.1 h40c hF2.2.2.2.2.2.1) ?_
              rw [hkf]
              refine sL (i := .goto 4) rfl rfl ?_
              refine sL (pc' := 60) (i := .istore_n 2) (ls' := [some (.ref 179), some (.int (iI kz)), some (.int (iI ((kf : Nat) : Int)))]) rfl rfl ?_
              refine sL (pc' := 61) (i := .iload_n 2) rfl rfl ?_
              refine sKi (p := 62) rfl rfl ?_
              refine sIc_eq (p := 65) rfl rfl ⟨by omega, by omega⟩ ⟨by omega, by omega⟩ (fun c3 => ?_) (fun c3 => ?_)
              · exfalso; omega
              · have c3 := c3
                refine sL (pc' := 66) (i := .aload_n 0) rfl rfl ?_
                refine sCvQ (p := 69) (as := []) rfl rfl rfl rfl (by decide) (Nat.le_of_ble_eq_true rfl) rfl (Nat.le_of_ble_eq_true rfl) (sk_179 _) rfl (by omega) (m_nextA hA2) ?_
                rintro _ S3 ⟨rfl, hf3, hN3⟩
                have hX3 : mX S3 y s 1 (tA y s 1) := mN_dead hN3 q2
                refine sL (pc' := 70) (i := .aload_n 0) rfl rfl ?_
                refine sGi (p := 73) rfl rfl (sk_179 _) rfl rfl rfl hX3.2.1 ?_
                refine sIf_ne (p := 76) rfl rfl ⟨by omega, by omega⟩ (fun c4 => ?_) (fun c4 => ?_)
                · have c4 := c4
                  refine sKi (p := 88) rfl rfl ?_
                  refine sL (pc' := 89) (i := .istore_n 2) (ls' := [some (.ref 179), some (.int (iI kz)), some (.int (iI (-1)))]) rfl rfl ?_
                  refine sL (pc' := 90) (i := .aload_n 0) rfl rfl ?_
                  refine sL (pc' := 91) (i := .iload_n 1) rfl rfl ?_
                  refine sPi (z := kz) (p := 94) rfl rfl (sk_179 _) rfl rfl rfl rfl ?_
                  refine sL (pc' := 95) (i := .iload_n 2) rfl rfl ?_
                  refine sKi (p := 96) rfl rfl ?_
                  refine sIc_ne (p := 99) rfl rfl ⟨by omega, by omega⟩ ⟨by omega, by omega⟩ (fun c5 => ?_) (fun c5 => ?_)
                  · exact absurd c5 (by decide)
                  · have c5 := c5
                    refine sKb (p := 101) rfl rfl ?_
                    refine sL (i := .goto 9) rfl rfl ?_
                    refine sEn (i := .ireturn) rfl (rfl) ?_
                    refine ⟨congrArg (fun z : Int => some (Value.int (iI z))) (show (-103 : Int) = _ from by rw [hA0, if_pos rfl]), hfin _ (frK_J (frJ_trans hf2 hf3))⟩
                · exact absurd c4 (by decide)
        · have e2 := q2
          refine sIni (ls := [some (.ref 179), none, none]) rfl ?_
          refine sL (pc' := 1) (i := .aload_n 0) rfl rfl ?_
          refine sL (pc' := 2) (i := .aload_n 0) rfl rfl ?_
          refine sGi (p := 5) rfl rfl (sk_179 _) rfl rfl rfl ht.2.2.1 ?_
          refine sPi (z := ((s : Nat) : Int)) (p := 8) rfl rfl (sk_179 _) rfl rfl rfl rfl ?_
          refine sL (pc' := 9) (i := .aload_n 0) rfl rfl ?_
          refine sKi (p := 10) rfl rfl ?_
          refine sPi (z := 0) (p := 13) rfl rfl (sk_179 _) rfl rfl rfl rfl ?_
          refine sL (pc' := 14) (i := .aload_n 0) rfl rfl ?_
          refine sKi (p := 15) rfl rfl ?_
          refine sPi (z := 0) (p := 18) rfl rfl (sk_179 _) rfl rfl rfl rfl ?_
          refine sL (pc' := 19) (i := .aload_n 0) rfl rfl ?_
          refine sGi (p := 22) rfl rfl (sk_179 _) rfl rfl rfl ((rI_nj (by decide)).trans ((rI_nj (by decide)).trans ((rI_nj (by decide)).trans hk))) ?_
          refine sL (pc' := 23) (i := .istore_n 1) (ls' := [some (.ref 179), some (.int (iI kz)), none]) rfl rfl ?_
          refine sL (pc' := 24) (i := .aload_n 0) rfl rfl ?_
          refine sKi (p := 25) rfl rfl ?_
          refine sPi (z := 0) (p := 28) rfl rfl (sk_179 _) rfl rfl rfl rfl ?_
          rw [show (wI (wI (wI (wI S 179 (534 % 64) ((s : Nat) : Int)) 179 (525 % 64) 0) 179 (535 % 64) 0) 179 (526 % 64) 0) = S1 from hS1.symm]
          refine sL (pc' := 29) (i := .aload_n 0) rfl rfl ?_
          refine sCvQ (p := 32) (as := []) rfl rfl rfl rfl (by decide) (Nat.le_of_ble_eq_true rfl) rfl (Nat.le_of_ble_eq_true rfl) (sk_179 _) rfl (by omega) (m_nextG hG) ?_
          rintro _ S2 ⟨rfl, hf2, hN2⟩
          obtain ⟨hA2, hx⟩ := hA2' S2 hN2
          have hF2 := mFn_K hF1 (frK_J hf2)
          refine sL (pc' := 33) (i := .aload_n 0) rfl rfl ?_
          refine sGi (p := 36) rfl rfl (sk_179 _) rfl rfl rfl hA2.2.1 ?_
          refine sIf_ne (p := 39) rfl rfl ⟨by omega, by omega⟩ (fun c1 => ?_) (fun c1 => ?_)
          · exact absurd c1 (by decide)
          · have c1 := c1
            refine sL (pc' := 40) (i := .aload_n 0) rfl rfl ?_
            refine sGi (p := 43) rfl rfl (sk_179 _) rfl rfl rfl hA2.2.2.2.1 ?_
            refine sKi (p := 44) rfl rfl ?_
            refine sIc_ne (p := 47) rfl rfl ⟨by omega, by omega⟩ ⟨by omega, by omega⟩ (fun c2 => ?_) (fun c2 => ?_)
            · exfalso; omega
            · have c2 := c2
              refine sL (pc' := 48) (i := .aload_n 0) rfl rfl ?_
              refine sL (pc' := 49) (i := .aload_n 0) rfl rfl ?_
              refine sGl (p := 52) rfl rfl (sk_179 _) rfl rfl rfl hx ?_
              refine sCv (p := 55) (as := [_]) rfl rfl rfl rfl (by decide) (Nat.le_of_ble_eq_true rfl) rfl (Nat.le_of_ble_eq_true rfl) (sk_179 _) rfl (by omega) (m_findName hF2.2.2.2.1 h40c hF2.2.2.2.2.2.1) ?_
              rw [hkf]
              refine sL (i := .goto 4) rfl rfl ?_
              refine sL (pc' := 60) (i := .istore_n 2) (ls' := [some (.ref 179), some (.int (iI kz)), some (.int (iI ((kf : Nat) : Int)))]) rfl rfl ?_
              refine sL (pc' := 61) (i := .iload_n 2) rfl rfl ?_
              refine sKi (p := 62) rfl rfl ?_
              refine sIc_eq (p := 65) rfl rfl ⟨by omega, by omega⟩ ⟨by omega, by omega⟩ (fun c3 => ?_) (fun c3 => ?_)
              · exfalso; omega
              · have c3 := c3
                refine sL (pc' := 66) (i := .aload_n 0) rfl rfl ?_
                refine sCvQ (p := 69) (as := []) rfl rfl rfl rfl (by decide) (Nat.le_of_ble_eq_true rfl) rfl (Nat.le_of_ble_eq_true rfl) (sk_179 _) rfl (by omega) (m_nextA hA2) ?_
                rintro _ S3 ⟨rfl, hf3, hN3⟩
                have hA3 : mA S3 y s 1 := mN_alive hN3 q2
                refine sL (pc' := 70) (i := .aload_n 0) rfl rfl ?_
                refine sGi (p := 73) rfl rfl (sk_179 _) rfl rfl rfl hA3.2.1 ?_
                refine sIf_ne (p := 76) rfl rfl ⟨by omega, by omega⟩ (fun c4 => ?_) (fun c4 => ?_)
                · exact absurd c4 (by decide)
                · have c4 := c4
                  refine sL (pc' := 77) (i := .aload_n 0) rfl rfl ?_
                  refine sGi (p := 80) rfl rfl (sk_179 _) rfl rfl rfl hA3.2.2.2.1 ?_
                  refine sIf_ne (p := 83) rfl rfl ⟨by omega, by omega⟩ (fun c5 => ?_) (fun c5 => ?_)
                  · have c5 := c5
                    refine sKi (p := 88) rfl rfl ?_
                    refine sL (pc' := 89) (i := .istore_n 2) (ls' := [some (.ref 179), some (.int (iI kz)), some (.int (iI (-1)))]) rfl rfl ?_
                    refine sL (pc' := 90) (i := .aload_n 0) rfl rfl ?_
                    refine sL (pc' := 91) (i := .iload_n 1) rfl rfl ?_
                    refine sPi (z := kz) (p := 94) rfl rfl (sk_179 _) rfl rfl rfl rfl ?_
                    refine sL (pc' := 95) (i := .iload_n 2) rfl rfl ?_
                    refine sKi (p := 96) rfl rfl ?_
                    refine sIc_ne (p := 99) rfl rfl ⟨by omega, by omega⟩ ⟨by omega, by omega⟩ (fun c6 => ?_) (fun c6 => ?_)
                    · exact absurd c6 (by decide)
                    · have c6 := c6
                      refine sKb (p := 101) rfl rfl ?_
                      refine sL (i := .goto 9) rfl rfl ?_
                      refine sEn (i := .ireturn) rfl (rfl) ?_
                      refine ⟨congrArg (fun z : Int => some (Value.int (iI z))) (show (-103 : Int) = _ from by rw [hA0, if_pos rfl]), hfin _ (frK_J (frJ_trans hf2 hf3))⟩
                  · exfalso; omega
  · have hA0 : (if nT y s = 1 ∧ tk y s 0 = 258 ∧ tk y s 1 = 264 then fnd nm (tC y s (tA y s 0)) fn 0 else -1) = -1 := if_neg (fun z => q0 z.2.1)
    have e1 : rc (tk y s 0) ≠ 1 := by
      have h9 : tk y s 0 ≤ 265 := tK_lt _
      have h8 := tk_sm (y := y) (s := s) (i := 0)
      unfold rc
      repeat' split
      all_goals omega
    by_cases q2 : tk y s 0 = 265
    · have e2 := q2
      refine sIni (ls := [some (.ref 179), none, none]) rfl ?_
      refine sL (pc' := 1) (i := .aload_n 0) rfl rfl ?_
      refine sL (pc' := 2) (i := .aload_n 0) rfl rfl ?_
      refine sGi (p := 5) rfl rfl (sk_179 _) rfl rfl rfl ht.2.2.1 ?_
      refine sPi (z := ((s : Nat) : Int)) (p := 8) rfl rfl (sk_179 _) rfl rfl rfl rfl ?_
      refine sL (pc' := 9) (i := .aload_n 0) rfl rfl ?_
      refine sKi (p := 10) rfl rfl ?_
      refine sPi (z := 0) (p := 13) rfl rfl (sk_179 _) rfl rfl rfl rfl ?_
      refine sL (pc' := 14) (i := .aload_n 0) rfl rfl ?_
      refine sKi (p := 15) rfl rfl ?_
      refine sPi (z := 0) (p := 18) rfl rfl (sk_179 _) rfl rfl rfl rfl ?_
      refine sL (pc' := 19) (i := .aload_n 0) rfl rfl ?_
      refine sGi (p := 22) rfl rfl (sk_179 _) rfl rfl rfl ((rI_nj (by decide)).trans ((rI_nj (by decide)).trans ((rI_nj (by decide)).trans hk))) ?_
      refine sL (pc' := 23) (i := .istore_n 1) (ls' := [some (.ref 179), some (.int (iI kz)), none]) rfl rfl ?_
      refine sL (pc' := 24) (i := .aload_n 0) rfl rfl ?_
      refine sKi (p := 25) rfl rfl ?_
      refine sPi (z := 0) (p := 28) rfl rfl (sk_179 _) rfl rfl rfl rfl ?_
      rw [show (wI (wI (wI (wI S 179 (534 % 64) ((s : Nat) : Int)) 179 (525 % 64) 0) 179 (535 % 64) 0) 179 (526 % 64) 0) = S1 from hS1.symm]
      refine sL (pc' := 29) (i := .aload_n 0) rfl rfl ?_
      refine sCvQ (p := 32) (as := []) rfl rfl rfl rfl (by decide) (Nat.le_of_ble_eq_true rfl) rfl (Nat.le_of_ble_eq_true rfl) (sk_179 _) rfl (by omega) (m_nextG hG) ?_
      rintro _ S2 ⟨rfl, hf2, hN2⟩
      have hX2 := mN_dead hN2 q2
      refine sL (pc' := 33) (i := .aload_n 0) rfl rfl ?_
      refine sGi (p := 36) rfl rfl (sk_179 _) rfl rfl rfl hX2.2.1 ?_
      refine sIf_ne (p := 39) rfl rfl ⟨by omega, by omega⟩ (fun c1 => ?_) (fun c1 => ?_)
      · have c1 := c1
        refine sKi (p := 59) rfl rfl ?_
        refine sL (pc' := 60) (i := .istore_n 2) (ls' := [some (.ref 179), some (.int (iI kz)), some (.int (iI (-1)))]) rfl rfl ?_
        refine sL (pc' := 61) (i := .iload_n 2) rfl rfl ?_
        refine sKi (p := 62) rfl rfl ?_
        refine sIc_eq (p := 65) rfl rfl ⟨by omega, by omega⟩ ⟨by omega, by omega⟩ (fun c2 => ?_) (fun c2 => ?_)
        · have c2 := c2
          refine sL (pc' := 90) (i := .aload_n 0) rfl rfl ?_
          refine sL (pc' := 91) (i := .iload_n 1) rfl rfl ?_
          refine sPi (z := kz) (p := 94) rfl rfl (sk_179 _) rfl rfl rfl rfl ?_
          refine sL (pc' := 95) (i := .iload_n 2) rfl rfl ?_
          refine sKi (p := 96) rfl rfl ?_
          refine sIc_ne (p := 99) rfl rfl ⟨by omega, by omega⟩ ⟨by omega, by omega⟩ (fun c3 => ?_) (fun c3 => ?_)
          · exact absurd c3 (by decide)
          · have c3 := c3
            refine sKb (p := 101) rfl rfl ?_
            refine sL (i := .goto 9) rfl rfl ?_
            refine sEn (i := .ireturn) rfl (rfl) ?_
            refine ⟨congrArg (fun z : Int => some (Value.int (iI z))) (show (-103 : Int) = _ from by rw [hA0, if_pos rfl]), hfin _ (frK_J hf2)⟩
        · exact absurd c2 (by decide)
      · exact absurd c1 (by decide)
    · have e2 := q2
      refine sIni (ls := [some (.ref 179), none, none]) rfl ?_
      refine sL (pc' := 1) (i := .aload_n 0) rfl rfl ?_
      refine sL (pc' := 2) (i := .aload_n 0) rfl rfl ?_
      refine sGi (p := 5) rfl rfl (sk_179 _) rfl rfl rfl ht.2.2.1 ?_
      refine sPi (z := ((s : Nat) : Int)) (p := 8) rfl rfl (sk_179 _) rfl rfl rfl rfl ?_
      refine sL (pc' := 9) (i := .aload_n 0) rfl rfl ?_
      refine sKi (p := 10) rfl rfl ?_
      refine sPi (z := 0) (p := 13) rfl rfl (sk_179 _) rfl rfl rfl rfl ?_
      refine sL (pc' := 14) (i := .aload_n 0) rfl rfl ?_
      refine sKi (p := 15) rfl rfl ?_
      refine sPi (z := 0) (p := 18) rfl rfl (sk_179 _) rfl rfl rfl rfl ?_
      refine sL (pc' := 19) (i := .aload_n 0) rfl rfl ?_
      refine sGi (p := 22) rfl rfl (sk_179 _) rfl rfl rfl ((rI_nj (by decide)).trans ((rI_nj (by decide)).trans ((rI_nj (by decide)).trans hk))) ?_
      refine sL (pc' := 23) (i := .istore_n 1) (ls' := [some (.ref 179), some (.int (iI kz)), none]) rfl rfl ?_
      refine sL (pc' := 24) (i := .aload_n 0) rfl rfl ?_
      refine sKi (p := 25) rfl rfl ?_
      refine sPi (z := 0) (p := 28) rfl rfl (sk_179 _) rfl rfl rfl rfl ?_
      rw [show (wI (wI (wI (wI S 179 (534 % 64) ((s : Nat) : Int)) 179 (525 % 64) 0) 179 (535 % 64) 0) 179 (526 % 64) 0) = S1 from hS1.symm]
      refine sL (pc' := 29) (i := .aload_n 0) rfl rfl ?_
      refine sCvQ (p := 32) (as := []) rfl rfl rfl rfl (by decide) (Nat.le_of_ble_eq_true rfl) rfl (Nat.le_of_ble_eq_true rfl) (sk_179 _) rfl (by omega) (m_nextG hG) ?_
      rintro _ S2 ⟨rfl, hf2, hN2⟩
      have hA2 := mN_alive hN2 q2
      refine sL (pc' := 33) (i := .aload_n 0) rfl rfl ?_
      refine sGi (p := 36) rfl rfl (sk_179 _) rfl rfl rfl hA2.2.1 ?_
      refine sIf_ne (p := 39) rfl rfl ⟨by omega, by omega⟩ (fun c1 => ?_) (fun c1 => ?_)
      · exact absurd c1 (by decide)
      · have c1 := c1
        refine sL (pc' := 40) (i := .aload_n 0) rfl rfl ?_
        refine sGi (p := 43) rfl rfl (sk_179 _) rfl rfl rfl hA2.2.2.2.1 ?_
        refine sKi (p := 44) rfl rfl ?_
        refine sIc_ne (p := 47) rfl rfl ⟨by omega, by omega⟩ ⟨by omega, by omega⟩ (fun c2 => ?_) (fun c2 => ?_)
        · have c2 := c2
          refine sKi (p := 59) rfl rfl ?_
          refine sL (pc' := 60) (i := .istore_n 2) (ls' := [some (.ref 179), some (.int (iI kz)), some (.int (iI (-1)))]) rfl rfl ?_
          refine sL (pc' := 61) (i := .iload_n 2) rfl rfl ?_
          refine sKi (p := 62) rfl rfl ?_
          refine sIc_eq (p := 65) rfl rfl ⟨by omega, by omega⟩ ⟨by omega, by omega⟩ (fun c3 => ?_) (fun c3 => ?_)
          · have c3 := c3
            refine sL (pc' := 90) (i := .aload_n 0) rfl rfl ?_
            refine sL (pc' := 91) (i := .iload_n 1) rfl rfl ?_
            refine sPi (z := kz) (p := 94) rfl rfl (sk_179 _) rfl rfl rfl rfl ?_
            refine sL (pc' := 95) (i := .iload_n 2) rfl rfl ?_
            refine sKi (p := 96) rfl rfl ?_
            refine sIc_ne (p := 99) rfl rfl ⟨by omega, by omega⟩ ⟨by omega, by omega⟩ (fun c4 => ?_) (fun c4 => ?_)
            · exact absurd c4 (by decide)
            · have c4 := c4
              refine sKb (p := 101) rfl rfl ?_
              refine sL (i := .goto 9) rfl rfl ?_
              refine sEn (i := .ireturn) rfl (rfl) ?_
              refine ⟨congrArg (fun z : Int => some (Value.int (iI z))) (show (-103 : Int) = _ from by rw [hA0, if_pos rfl]), hfin _ (frK_J hf2)⟩
          · exact absurd c3 (by decide)
        · exfalso; omega
end MO
