/-! ===== the class: odds ===== -/
theorem l_sar63 {z : Int} (h : rl z) : lI z >>> ((iI 63).toInt64 &&& 63) = lI (if z < 0 then -1 else 0) := by
  have e : (((iI 63).toInt64 &&& 63).toBitVec.smod 64).toNat = 63 := by decide +kernel
  have h1 := h.1
  have h2 := h.2
  rw [← Int64.toInt_inj, ← Int64.toInt_toBitVec, Int64.toBitVec_shiftRight, BitVec.toInt_sshiftRight', e, Int64.toInt_toBitVec, lI_toInt h, Int.shiftRight_eq_div_pow]
  split
  · rw [lI_toInt ⟨by omega, by omega⟩]
    omega
  · rw [lI_toInt ⟨by omega, by omega⟩]
    omega
theorem lI_N {z : Int} (h : rl z) : lI z = lN (z % 18446744073709551616).toNat := by
  have h1 := h.1
  have h2 := h.2
  refine lN_ext (by omega) ?_
  show (BitVec.ofInt 64 z).toNat = _
  rw [BitVec.toNat_ofInt]
  rfl
def sg3 (z : Int) : Int := if z < 0 then -1 else if z = 0 then 0 else 1
theorem l_sig {z : Int} (h1 : -4611686018427387904 ≤ z) (h2 : z ≤ 4611686018427387904) : ((lI z >>> ((iI 63).toInt64 &&& 63)) ||| ((-(lI z)).toUInt64 >>> ((iI 63).toInt64.toUInt64 &&& Int64.toUInt64 63)).toInt64).toInt32 = iI (sg3 z) := by
  have h3 : rl z := ⟨by omega, by omega⟩
  have h4 : rl (-z) := ⟨by omega, by omega⟩
  have e := lN_shr (a := (-z % 18446744073709551616).toNat) (j := 63) (by omega) (by decide)
  rw [show iI ((63 : Nat) : Int) = iI 63 from rfl] at e
  rw [l_sar63 h3, lI_neg, lI_N h4, e]
  unfold sg3
  by_cases c : z < 0
  · rw [if_pos c, if_pos c, show (-z % 18446744073709551616).toNat / 2 ^ 63 = 0 from by omega]
    decide
  · by_cases c2 : z = 0
    · rw [if_neg c, if_neg c, if_pos c2, show (-z % 18446744073709551616).toNat / 2 ^ 63 = 0 from by omega]
      decide
    · rw [if_neg c, if_neg c, if_neg c2, show (-z % 18446744073709551616).toNat / 2 ^ 63 = 1 from by omega]
      decide
section CZ
variable {X : List Int32} {S : ST} {n fn Z : Nat} {sz ord : Nat → Nat} {wt : Nat → Int} {ro : Nat → Bool} {Fn : Nat → Nat → Bool} {nm : Nat → Int64} {sd : Option (Nat → Bool)} {tr tn : Int} {up lo : Int64}
theorem c_signum {z : Int} (h1 : -4611686018427387904 ≤ z) (h2 : z ≤ 4611686018427387904) : sM X 0 270 [.long (lI z)] S (sV (some (.int (iI (sg3 z)))) S) := by
  refine sIni (ls := [some (.long (lI z)), none]) rfl ?_
  refine sL (pc' := 1) (i := .lload_n 0) rfl rfl ?_
  refine sKb (p := 3) rfl rfl ?_
  refine sL (pc' := 4) (i := .lshr) rfl rfl ?_
  refine sL (pc' := 5) (i := .lload_n 0) rfl rfl ?_
  refine sL (pc' := 6) (i := .lneg) rfl rfl ?_
  refine sKb (p := 8) rfl rfl ?_
  refine sL (pc' := 9) (i := .lushr) rfl rfl ?_
  refine sL (pc' := 10) (i := .lor) rfl rfl ?_
  refine sL (pc' := 11) (i := .l2i) rfl rfl ?_
  rw [l_sig h1 h2]
  refine sEn (i := .ireturn) rfl rfl ?_
  exact ⟨rfl, rfl⟩
theorem c_maxJ {a b : Int} (ha : rl a) (hb : rl b) : sM X 0 337 [.long (lI a), .long (lI b)] S (sV (some (.long (lI (if a < b then b else a)))) S) := by
  have a1 := ha.1
  have a2 := ha.2
  have b1 := hb.1
  have b2 := hb.2
  refine sIni (ls := [some (.long (lI a)), none, some (.long (lI b)), none]) rfl ?_
  refine sL (pc' := 1) (i := .lload_n 0) rfl rfl ?_
  refine sL (pc' := 2) (i := .lload_n 2) rfl rfl ?_
  refine sLf_lt (p := 6) rfl rfl rfl ⟨by omega, by omega⟩ ⟨by omega, by omega⟩ (fun c1 => ?_) (fun c1 => ?_)
  · have c1 := c1
    refine sL (pc' := 11) (i := .lload_n 2) rfl rfl ?_
    refine sEn (i := .lreturn) rfl (rfl) ?_
    exact ⟨congrArg (fun z => some (Value.long (lI z))) (by rw [if_pos (by omega)]), rfl⟩
  · have c1 := c1
    refine sL (pc' := 7) (i := .lload_n 0) rfl rfl ?_
    refine sL (i := .goto 4) rfl rfl ?_
    refine sEn (i := .lreturn) rfl (rfl) ?_
    exact ⟨congrArg (fun z => some (Value.long (lI z))) (by rw [if_neg (by omega)]), rfl⟩
theorem c_commonDivisor {a b : Nat} (ha : a < 700000000000000000) (hb : b < 700000000000000000) : sM X 0 149 [.long (lI ((a : Nat) : Int)), .long (lI ((b : Nat) : Int))] S (sV (some (.long (lI ((Nat.gcd a b : Nat) : Int)))) S) := by
  have hes := est_le 60 a b (by omega)
  refine sIni (ls := [some (.long (lI ((a : Nat) : Int))), none, some (.long (lI ((b : Nat) : Int))), none, none, none, none, none, none, none, none]) rfl ?_
  refine sL (pc' := 1) (i := .lload_n 0) rfl rfl ?_
  refine sL (pc' := 3) (i := .lstore 4) (ls' := [some (.long (lI ((a : Nat) : Int))), none, some (.long (lI ((b : Nat) : Int))), none, some (.long (lI ((a : Nat) : Int))), none, none, none, none, none, none]) rfl rfl ?_
  refine sL (pc' := 4) (i := .lload_n 2) rfl rfl ?_
  refine sL (pc' := 6) (i := .lstore 6) (ls' := [some (.long (lI ((a : Nat) : Int))), none, some (.long (lI ((b : Nat) : Int))), none, some (.long (lI ((a : Nat) : Int))), none, some (.long (lI ((b : Nat) : Int))), none, none, none, none]) rfl rfl ?_
  refine sKi (p := 7) rfl rfl ?_
  refine sL (pc' := 9) (i := .istore 8) (ls' := [some (.long (lI ((a : Nat) : Int))), none, some (.long (lI ((b : Nat) : Int))), none, some (.long (lI ((a : Nat) : Int))), none, some (.long (lI ((b : Nat) : Int))), none, some (.int (iI 0)), none, none]) rfl rfl ?_
  refine sIt (A := fun i => [some (.long (lI ((a : Nat) : Int))), none, some (.long (lI ((b : Nat) : Int))), none, some (.long (lI (((eu a b i).1 : Nat) : Int))), none, some (.long (lI (((eu a b i).2 : Nat) : Int))), none, some (.int (iI ((i : Nat) : Int))), none, none]) (B := fun _ => S) (fun _ => True) (est a b) True.intro (fun i hi9 hI9 ih9 => ?_) (fun hI9 => ?_)
  · have hi9 := hi9
    have hnz := eu_nz hi9
    have hle := eu_le (a := a) (b := b) (M := 700000000000000000) (by omega) (by omega) i
    refine sL (pc' := 11) (i := .iload 8) rfl rfl ?_
    refine sKs (p := 14) rfl rfl ?_
    refine sIc_ge (p := 17) rfl rfl ⟨by omega, by omega⟩ ⟨by omega, by omega⟩ (fun c1 => ?_) (fun c1 => ?_)
    · exfalso; omega
    · have c1 := c1
      refine sL (pc' := 19) (i := .lload 6) rfl rfl ?_
      refine sKj0 (p := 20) rfl rfl rfl ?_
      refine sLf_eq (p := 24) rfl rfl rfl ⟨by omega, by omega⟩ ⟨by omega, by omega⟩ (fun c2 => ?_) (fun c2 => ?_)
      · exfalso; omega
      · have c2 := c2
        refine sL (pc' := 26) (i := .lload 4) rfl rfl ?_
        refine sL (pc' := 28) (i := .lload 6) rfl rfl ?_
        refine sLrm (p := 29) rfl rfl ⟨by omega, by omega⟩ ⟨by omega, by omega⟩ ?_
        refine sL (pc' := 31) (i := .lstore 9) (ls' := [some (.long (lI ((a : Nat) : Int))), none, some (.long (lI ((b : Nat) : Int))), none, some (.long (lI (((eu a b i).1 : Nat) : Int))), none, some (.long (lI (((eu a b i).2 : Nat) : Int))), none, some (.int (iI ((i : Nat) : Int))), some (.long (lI (((((eu a b i).1 : Nat) : Int)) % ((((eu a b i).2 : Nat) : Int))))), none]) rfl rfl ?_
        refine sL (pc' := 33) (i := .lload 6) rfl rfl ?_
        refine sL (pc' := 35) (i := .lstore 4) (ls' := [some (.long (lI ((a : Nat) : Int))), none, some (.long (lI ((b : Nat) : Int))), none, some (.long (lI (((eu a b i).2 : Nat) : Int))), none, some (.long (lI (((eu a b i).2 : Nat) : Int))), none, some (.int (iI ((i : Nat) : Int))), some (.long (lI (((((eu a b i).1 : Nat) : Int)) % ((((eu a b i).2 : Nat) : Int))))), none]) rfl rfl ?_
        refine sL (pc' := 37) (i := .lload 9) rfl rfl ?_
        refine sL (pc' := 39) (i := .lstore 6) (ls' := [some (.long (lI ((a : Nat) : Int))), none, some (.long (lI ((b : Nat) : Int))), none, some (.long (lI (((eu a b i).2 : Nat) : Int))), none, some (.long (lI (((((eu a b i).1 : Nat) : Int)) % ((((eu a b i).2 : Nat) : Int))))), none, some (.int (iI ((i : Nat) : Int))), some (.long (lI (((((eu a b i).1 : Nat) : Int)) % ((((eu a b i).2 : Nat) : Int))))), none]) rfl rfl ?_
        refine sInX (z := ((i : Nat) : Int)) (ls' := [some (.long (lI ((a : Nat) : Int))), none, some (.long (lI ((b : Nat) : Int))), none, some (.long (lI (((eu a b i).2 : Nat) : Int))), none, some (.long (lI (((((eu a b i).1 : Nat) : Int)) % ((((eu a b i).2 : Nat) : Int))))), none, some (.int (iI (((i : Nat) : Int) + 1))), some (.long (lI (((((eu a b i).1 : Nat) : Int)) % ((((eu a b i).2 : Nat) : Int))))), none]) (p := 42) rfl rfl (Nat.le_of_ble_eq_true rfl) rfl rfl ?_
        refine sL (i := .goto (-33)) rfl rfl ?_
        refine sRo (ls := [some (.long (lI ((a : Nat) : Int))), none, some (.long (lI ((b : Nat) : Int))), none, some (.long (lI (((eu a b (i + 1)).1 : Nat) : Int))), none, some (.long (lI (((eu a b (i + 1)).2 : Nat) : Int))), none, some (.int (iI ((i + 1 : Nat) : Int))), none, none]) (T := _) (And.intro rfl (And.intro rfl (And.intro rfl (And.intro rfl (And.intro rfl (True.intro)))))) (rfl) (ih9 ?_)
        exact True.intro
  · have hI9 := hI9
    have hle := eu_le (a := a) (b := b) (M := 700000000000000000) (by omega) (by omega) (est a b)
    have hend := eu_end a b
    rw [eu_fin]
    refine sL (pc' := 11) (i := .iload 8) rfl rfl ?_
    refine sKs (p := 14) rfl rfl ?_
    refine sIc_ge (p := 17) rfl rfl ⟨by omega, by omega⟩ ⟨by omega, by omega⟩ (fun c3 => ?_) (fun c3 => ?_)
    · exfalso; omega
    · have c3 := c3
      refine sL (pc' := 19) (i := .lload 6) rfl rfl ?_
      refine sKj0 (p := 20) rfl rfl rfl ?_
      refine sLf_eq (p := 24) rfl rfl rfl ⟨by omega, by omega⟩ ⟨by omega, by omega⟩ (fun c4 => ?_) (fun c4 => ?_)
      · have c4 := c4
        refine sL (pc' := 47) (i := .lload 4) rfl rfl ?_
        refine sEn (i := .lreturn) rfl (rfl) ?_
        exact ⟨rfl, rfl⟩
      · exfalso; omega
theorem k_Odds_u {x y : Int} (h : CI S n sz wt ro fn Fn nm ord sd tr tn up lo Z) (hx : rg x) (hy : rg y) (hb : ¬ ((0 ≤ x ∧ x < fn) ∧ (y = -1 ∨ (0 ≤ y ∧ y < fn)))) : sM X 16 148 [.ref 0, .int (iI x), .int (iI y)] S (qQ (.int (iI (-101))) (fun S' => CI S' n sz wt ro fn Fn nm ord sd tr tn up lo Z) S) := by
  have hCI := h
  obtain ⟨hvC, hwC, ⟨wb, hgC⟩, ⟨hfn, hdr, h40, hF, hev, hnm, htb⟩, ⟨b, R, pl, D, U, rt, hR, hro, hsd, hz1, hz2⟩, t1, t2, t3, t4⟩ := h
  have hn := hvC.1.1
  have hT0 := hvC.1.2.2
  have x1 := hx.1
  have x2 := hx.2
  have y1 := hy.1
  have y2 := hy.2
  refine sIni (ls := [some (.ref 0), some (.int (iI x)), some (.int (iI y)), none, none, none, none, none, none, none]) rfl ?_
  refine sL (pc' := 1) (i := .aload_n 0) rfl rfl ?_
  refine sGc (p := 4) rfl rfl (sk_0 _) rfl rfl rfl ?_
  refine sL (pc' := 5) (i := .iload_n 1) rfl rfl ?_
  refine sCv (p := 8) (as := [_]) rfl rfl rfl rfl (by decide) (Nat.le_of_ble_eq_true rfl) rfl (Nat.le_of_ble_eq_true rfl) (sk_7 _) rfl (by omega) (c_fhas hfn h40 hx) ?_
  refine sBe (p := 11) rfl rfl (fun c1 => ?_) (fun c1 => ?_)
  · have c1 := c1
    have c1 := of_decide_eq_false c1
    refine sKb (p := 29) rfl rfl ?_
    refine sEn (i := .ireturn) rfl (rfl) ?_
    exact ⟨rfl, hCI, frX_refl _⟩
  · have c1 := c1
    have c1 := of_decide_eq_true c1
    refine sL (pc' := 12) (i := .iload_n 2) rfl rfl ?_
    refine sKi (p := 13) rfl rfl ?_
    refine sIc_eq (p := 16) rfl rfl ⟨by omega, by omega⟩ ⟨by omega, by omega⟩ (fun c2 => ?_) (fun c2 => ?_)
    · exfalso; omega
    · have c2 := c2
      refine sL (pc' := 17) (i := .aload_n 0) rfl rfl ?_
      refine sGc (p := 20) rfl rfl (sk_0 _) rfl rfl rfl ?_
      refine sL (pc' := 21) (i := .iload_n 2) rfl rfl ?_
      refine sCv (p := 24) (as := [_]) rfl rfl rfl rfl (by decide) (Nat.le_of_ble_eq_true rfl) rfl (Nat.le_of_ble_eq_true rfl) (sk_7 _) rfl (by omega) (c_fhas hfn h40 hy) ?_
      refine sBn (p := 27) rfl rfl (fun c3 => ?_) (fun c3 => ?_)
      · exfalso; have c3 := of_decide_eq_true c3; omega
      · have c3 := c3
        have c3 := of_decide_eq_false c3
        refine sKb (p := 29) rfl rfl ?_
        refine sEn (i := .ireturn) rfl (rfl) ?_
        exact ⟨rfl, hCI, frX_refl _⟩
theorem sg3_O {a b : Int} : sg3 (2 * a - b) = sgO a b := by
  unfold sg3 sgO
  by_cases c1 : 2 * a < b
  · rw [if_pos c1, if_pos (by omega)]
  · by_cases c2 : 2 * a = b
    · rw [if_neg (by omega), if_pos (by omega), if_neg c1, if_pos c2]
    · rw [if_neg (by omega), if_neg (by omega), if_neg c1, if_neg c2]
theorem CI_uo {p q : Int64} (h : CI S n sz wt ro fn Fn nm ord sd tr tn up lo Z) : CI (wL (wL S 0 9 p) 0 10 q) n sz wt ro fn Fn nm ord sd tr tn p q Z ∧ frX S (wL (wL S 0 9 p) 0 10 q) := by
  have hC := h
  obtain ⟨hvC, hwC, ⟨wb, hgC⟩, _, _, t1, t2, t3, t4⟩ := h
  have hL : ∀ c, c ≠ 0 → SL (wL (wL S 0 9 p) 0 10 q) c = SL S c := fun c h0 => funext fun k => by rw [SL_wL, if_neg (fun z => h0 z.1), SL_wL, if_neg (fun z => h0 z.1)]
  have h9 := CI_upd (S' := wL (wL S 0 9 p) 0 10 q) hC rfl rfl (fun _ _ _ _ _ => rfl) rfl rfl rfl (fun c h0 _ => hL c h0) hwC ⟨wb, hgC.1, fun w r hr => by rw [hL 6 (by decide)]; exact hgC.2 w r hr⟩
  rw [show SL (wL (wL S 0 9 p) 0 10 q) 0 9 = p from by rw [SL_wL, if_neg (by omega), SL_wL, if_pos ⟨rfl, rfl⟩], show SL (wL (wL S 0 9 p) 0 10 q) 0 10 = q from by rw [SL_wL, if_pos ⟨rfl, rfl⟩], show SI (wL (wL S 0 9 p) 0 10 q) = SI S from rfl, t1, t2] at h9
  exact ⟨h9, frX_upd rfl rfl (fun _ _ _ _ _ => rfl) (fun c h0 _ => hL c h0)⟩

theorem k_Odds_N {u v l m : Nat} (h : CI S n sz wt ro fn Fn nm ord sd tr tn up lo Z) (hu : u < fn) (hl : swt (fun _ => true) (wq sz wt ro n) (pr sz n) = (l : Int)) (hm : swt (fun r => Fn u r) (wq sz wt ro n) (pr sz n) = (m : Int)) (h0 : 0 < l) (hlb : l < 700000000000000000) (hmb : m < 700000000000000000) : sM X 16 148 [.ref 0, .int (iI ((u : Nat) : Int)), .int (iI (-1))] S (qQ (.int (iI (sgO ((m / Nat.gcd l m : Nat) : Int) ((l / Nat.gcd l m : Nat) : Int)))) (fun S' => CI S' n sz wt ro fn Fn nm ord sd tr tn (lI ((m / Nat.gcd l m : Nat) : Int)) (lI ((l / Nat.gcd l m : Nat) : Int)) Z) S) := by
  have hCI := h
  obtain ⟨hvC, hwC, ⟨wb, hgC⟩, ⟨hfn, hdr, h40, hF, hev, hnm, htb⟩, ⟨b, R, pl, D, U, rt, hR, hro, hsd, hz1, hz2⟩, t1, t2, t3, t4⟩ := h
  have hn := hvC.1.1
  have hT0 := hvC.1.2.2
  have hl : swt (fun r => evr (pr sz n) r && evr (pr sz n) r) (wq sz wt ro n) (pr sz n) = (l : Int) := (swt_c (fun r hr => by show (decide (r < pr sz n) && decide (r < pr sz n)) = true; rw [decide_eq_true hr]; rfl)).trans hl
  have hm : swt (fun r => Fn u r && evr (pr sz n) r) (wq sz wt ro n) (pr sz n) = (m : Int) := (swt_c (fun r hr => by show (Fn u r && decide (r < pr sz n)) = Fn u r; rw [decide_eq_true hr, Bool.and_true])).trans hm
  have hg0 : 0 < Nat.gcd l m := Nat.gcd_pos_of_pos_left _ h0
  have hg1 : Nat.gcd l m ≤ l := Nat.gcd_le_left _ h0
  have hd1 : m / Nat.gcd l m ≤ m := Nat.div_le_self _ _
  have hd2 : l / Nat.gcd l m ≤ l := Nat.div_le_self _ _
  have hd3 : (0 : Int) ≤ ((m / Nat.gcd l m : Nat) : Int) := Int.natCast_nonneg _
  have hd4 : (0 : Int) ≤ ((l / Nat.gcd l m : Nat) : Int) := Int.natCast_nonneg _
  refine sIni (ls := [some (.ref 0), some (.int (iI ((u : Nat) : Int))), some (.int (iI (-1))), none, none, none, none, none, none, none]) rfl ?_
  refine sL (pc' := 1) (i := .aload_n 0) rfl rfl ?_
  refine sGc (p := 4) rfl rfl (sk_0 _) rfl rfl rfl ?_
  refine sL (pc' := 5) (i := .iload_n 1) rfl rfl ?_
  refine sCv (p := 8) (as := [_]) rfl rfl rfl rfl (by decide) (Nat.le_of_ble_eq_true rfl) rfl (Nat.le_of_ble_eq_true rfl) (sk_7 _) rfl (by omega) (c_fhas hfn h40 ⟨by omega, by omega⟩) ?_
  refine sBe (p := 11) rfl rfl (fun c1 => ?_) (fun c1 => ?_)
  · exfalso; have c1 := of_decide_eq_false c1; omega
  · have c1 := c1
    have c1 := of_decide_eq_true c1
    refine sL (pc' := 12) (i := .iload_n 2) rfl rfl ?_
    refine sKi (p := 13) rfl rfl ?_
    refine sIc_eq (p := 16) rfl rfl ⟨by omega, by omega⟩ ⟨by omega, by omega⟩ (fun c2 => ?_) (fun c2 => ?_)
    · have c2 := c2
      refine sL (pc' := 31) (i := .iload_n 2) rfl rfl ?_
      refine sKi (p := 32) rfl rfl ?_
      refine sIc_ne (p := 35) rfl rfl ⟨by omega, by omega⟩ ⟨by omega, by omega⟩ (fun c3 => ?_) (fun c3 => ?_)
      · exact absurd c3 (by decide)
      · have c3 := c3
        refine sL (pc' := 36) (i := .aload_n 0) rfl rfl ?_
        refine sGc (p := 39) rfl rfl (sk_0 _) rfl rfl rfl ?_
        refine sGc (p := 42) rfl rfl (sk_7 _) rfl rfl rfl ?_
        refine sL (i := .goto 11) rfl rfl ?_
        refine sL (pc' := 54) (i := .astore_n 3) (ls' := [some (.ref 0), some (.int (iI ((u : Nat) : Int))), some (.int (iI (-1))), some (.ref 51), none, none, none, none, none, none]) rfl rfl ?_
        refine sL (pc' := 55) (i := .aload_n 0) rfl rfl ?_
        refine sGc (p := 58) rfl rfl (sk_0 _) rfl rfl rfl ?_
        refine sL (pc' := 59) (i := .aload_n 3) rfl rfl ?_
        refine sL (pc' := 60) (i := .aload_n 3) rfl rfl ?_
        refine sCv (p := 63) (as := [_, _]) rfl rfl rfl rfl (by decide) (Nat.le_of_ble_eq_true rfl) rfl (Nat.le_of_ble_eq_true rfl) (sk_7 _) rfl (by omega) (c_weightOfBoth (a := 51) (b := 51) hvC hwC hgC (sk_51 _) (sk_51 _) (by omega) (by omega) hev hev) ?_
        rw [hl]
        refine sL (pc' := 65) (i := .lstore 4) (ls' := [some (.ref 0), some (.int (iI ((u : Nat) : Int))), some (.int (iI (-1))), some (.ref 51), some (.long (lI ((l : Nat) : Int))), none, none, none, none, none]) rfl rfl ?_
        refine sL (pc' := 67) (i := .lload 4) rfl rfl ?_
        refine sKj0 (p := 68) rfl rfl rfl ?_
        refine sLf_ne (p := 72) rfl rfl rfl ⟨by omega, by omega⟩ ⟨by omega, by omega⟩ (fun c4 => ?_) (fun c4 => ?_)
        · have c4 := c4
          refine sL (pc' := 83) (i := .aload_n 0) rfl rfl ?_
          refine sGc (p := 86) rfl rfl (sk_0 _) rfl rfl rfl ?_
          refine sL (pc' := 87) (i := .aload_n 0) rfl rfl ?_
          refine sGc (p := 90) rfl rfl (sk_0 _) rfl rfl rfl ?_
          refine sL (pc' := 91) (i := .iload_n 1) rfl rfl ?_
          refine sCv (p := 94) (as := [_]) rfl rfl rfl rfl (by decide) (Nat.le_of_ble_eq_true rfl) rfl (Nat.le_of_ble_eq_true rfl) (sk_7 _) rfl (by omega) (c_row (i := u) (by omega)) ?_
          refine sL (pc' := 95) (i := .aload_n 3) rfl rfl ?_
          refine sCv (p := 98) (as := [_, _]) rfl rfl rfl rfl (by decide) (Nat.le_of_ble_eq_true rfl) rfl (Nat.le_of_ble_eq_true rfl) (sk_7 _) rfl (by omega) (c_weightOfBoth (S := (wgB (anyB (fun r => evr (pr sz n) r && evr (pr sz n) r) (pr sz n)) S n sz wt ro)) (a := 9 + u) (b := 51) (wgB_vC hvC) (wgB_wC hwC) (wgB_gC hgC) (sk_rows _ (by omega)) (sk_51 _) (by omega) (by omega) (wgB_row (by omega) (hF u hu)) (wgB_row (by omega) hev)) ?_
          rw [hm]
          refine sL (pc' := 100) (i := .lstore 6) (ls' := [some (.ref 0), some (.int (iI ((u : Nat) : Int))), some (.int (iI (-1))), some (.ref 51), some (.long (lI ((l : Nat) : Int))), none, some (.long (lI ((m : Nat) : Int))), none, none, none]) rfl rfl ?_
          refine sKj1 (p := 101) rfl rfl rfl ?_
          refine sL (pc' := 103) (i := .lload 6) rfl rfl ?_
          refine sL (pc' := 105) (i := .lload 4) rfl rfl ?_
          refine sCs (p := 108) (as := [_, _]) rfl rfl rfl rfl (by decide) (Nat.le_of_ble_eq_true rfl) rfl (Nat.le_of_ble_eq_true rfl) rfl (by omega) (c_commonDivisor hmb hlb) ?_
          rw [Nat.gcd_comm m l]
          refine sCs (p := 111) (as := [_, _]) rfl rfl rfl rfl (by decide) (Nat.le_of_ble_eq_true rfl) rfl (Nat.le_of_ble_eq_true rfl) rfl (by omega) (c_maxJ (a := 1) (b := ((Nat.gcd l m : Nat) : Int)) ⟨by omega, by omega⟩ ⟨by omega, by omega⟩) ?_
          rw [show (if (1 : Int) < ((Nat.gcd l m : Nat) : Int) then ((Nat.gcd l m : Nat) : Int) else 1) = ((Nat.gcd l m : Nat) : Int) from by split <;> omega]
          refine sL (pc' := 113) (i := .lstore 8) (ls' := [some (.ref 0), some (.int (iI ((u : Nat) : Int))), some (.int (iI (-1))), some (.ref 51), some (.long (lI ((l : Nat) : Int))), none, some (.long (lI ((m : Nat) : Int))), none, some (.long (lI ((Nat.gcd l m : Nat) : Int))), none]) rfl rfl ?_
          refine sL (pc' := 114) (i := .aload_n 0) rfl rfl ?_
          refine sL (pc' := 116) (i := .lload 6) rfl rfl ?_
          refine sL (pc' := 118) (i := .lload 8) rfl rfl ?_
          refine sLdv (p := 119) rfl rfl ⟨by omega, by omega⟩ ⟨by omega, by omega⟩ ?_
          rw [show ((((m : Nat) : Int)) / (((Nat.gcd l m : Nat) : Int))) = ((m / Nat.gcd l m : Nat) : Int) from by rfl]
          refine sPl (p := 122) rfl rfl (sk_0 _) rfl rfl rfl rfl ?_
          refine sL (pc' := 123) (i := .aload_n 0) rfl rfl ?_
          refine sL (pc' := 125) (i := .lload 4) rfl rfl ?_
          refine sL (pc' := 127) (i := .lload 8) rfl rfl ?_
          refine sLdv (p := 128) rfl rfl ⟨by omega, by omega⟩ ⟨by omega, by omega⟩ ?_
          rw [show ((((l : Nat) : Int)) / (((Nat.gcd l m : Nat) : Int))) = ((l / Nat.gcd l m : Nat) : Int) from by rfl]
          refine sPl (p := 131) rfl rfl (sk_0 _) rfl rfl rfl rfl ?_
          refine sK2 (z := 2) (p := 134) rfl rfl rfl ?_
          refine sL (pc' := 135) (i := .aload_n 0) rfl rfl ?_
          refine sGl (p := 138) (z := (lI ((m / Nat.gcd l m : Nat) : Int))) rfl rfl (sk_0 _) rfl rfl rfl rfl ?_
          refine sLml (p := 139) rfl rfl ?_
          refine sL (pc' := 140) (i := .aload_n 0) rfl rfl ?_
          refine sGl (p := 143) (z := (lI ((l / Nat.gcd l m : Nat) : Int))) rfl rfl (sk_0 _) rfl rfl rfl rfl ?_
          refine sLsb (p := 144) rfl rfl ?_
          refine sCs (p := 147) (as := [_]) rfl rfl rfl rfl (by decide) (Nat.le_of_ble_eq_true rfl) rfl (Nat.le_of_ble_eq_true rfl) rfl (by omega) (c_signum (z := 2 * ((m / Nat.gcd l m : Nat) : Int) - ((l / Nat.gcd l m : Nat) : Int)) (by omega) (by omega)) ?_
          refine sEn (i := .ireturn) rfl (rfl) ?_
          have hc1 := CI_wg (q := anyB (fun r => evr (pr sz n) r && evr (pr sz n) r) (pr sz n)) hCI
          have hc2 := CI_wg (q := anyB (fun r => Fn u r && evr (pr sz n) r) (pr sz n)) hc1.1
          have hc3 := CI_uo (p := lI ((m / Nat.gcd l m : Nat) : Int)) (q := lI ((l / Nat.gcd l m : Nat) : Int)) hc2.1
          exact ⟨congrArg (fun z => some (Value.int (iI z))) sg3_O, hc3.1, frX_trans (frX_trans hc1.2 hc2.2) hc3.2⟩
        · exfalso; omega
    · exact absurd c2 (by decide)
theorem k_Odds_F {u v l m : Nat} (h : CI S n sz wt ro fn Fn nm ord sd tr tn up lo Z) (hu : u < fn) (hvf : v < fn) (hl : swt (fun r => Fn v r) (wq sz wt ro n) (pr sz n) = (l : Int)) (hm : swt (fun r => Fn u r && Fn v r) (wq sz wt ro n) (pr sz n) = (m : Int)) (h0 : 0 < l) (hlb : l < 700000000000000000) (hmb : m < 700000000000000000) : sM X 16 148 [.ref 0, .int (iI ((u : Nat) : Int)), .int (iI ((v : Nat) : Int))] S (qQ (.int (iI (sgO ((m / Nat.gcd l m : Nat) : Int) ((l / Nat.gcd l m : Nat) : Int)))) (fun S' => CI S' n sz wt ro fn Fn nm ord sd tr tn (lI ((m / Nat.gcd l m : Nat) : Int)) (lI ((l / Nat.gcd l m : Nat) : Int)) Z) S) := by
  have hCI := h
  obtain ⟨hvC, hwC, ⟨wb, hgC⟩, ⟨hfn, hdr, h40, hF, hev, hnm, htb⟩, ⟨b, R, pl, D, U, rt, hR, hro, hsd, hz1, hz2⟩, t1, t2, t3, t4⟩ := h
  have hn := hvC.1.1
  have hT0 := hvC.1.2.2
  have hl : swt (fun r => Fn v r && Fn v r) (wq sz wt ro n) (pr sz n) = (l : Int) := (swt_c (fun r hr => Bool.and_self _)).trans hl
  have hm : swt (fun r => Fn u r && Fn v r) (wq sz wt ro n) (pr sz n) = (m : Int) := (swt_c (fun r hr => rfl)).trans hm
  have hg0 : 0 < Nat.gcd l m := Nat.gcd_pos_of_pos_left _ h0
  have hg1 : Nat.gcd l m ≤ l := Nat.gcd_le_left _ h0
  have hd1 : m / Nat.gcd l m ≤ m := Nat.div_le_self _ _
  have hd2 : l / Nat.gcd l m ≤ l := Nat.div_le_self _ _
  have hd3 : (0 : Int) ≤ ((m / Nat.gcd l m : Nat) : Int) := Int.natCast_nonneg _
  have hd4 : (0 : Int) ≤ ((l / Nat.gcd l m : Nat) : Int) := Int.natCast_nonneg _
  refine sIni (ls := [some (.ref 0), some (.int (iI ((u : Nat) : Int))), some (.int (iI ((v : Nat) : Int))), none, none, none, none, none, none, none]) rfl ?_
  refine sL (pc' := 1) (i := .aload_n 0) rfl rfl ?_
  refine sGc (p := 4) rfl rfl (sk_0 _) rfl rfl rfl ?_
  refine sL (pc' := 5) (i := .iload_n 1) rfl rfl ?_
  refine sCv (p := 8) (as := [_]) rfl rfl rfl rfl (by decide) (Nat.le_of_ble_eq_true rfl) rfl (Nat.le_of_ble_eq_true rfl) (sk_7 _) rfl (by omega) (c_fhas hfn h40 ⟨by omega, by omega⟩) ?_
  refine sBe (p := 11) rfl rfl (fun c1 => ?_) (fun c1 => ?_)
  · exfalso; have c1 := of_decide_eq_false c1; omega
  · have c1 := c1
    have c1 := of_decide_eq_true c1
    refine sL (pc' := 12) (i := .iload_n 2) rfl rfl ?_
    refine sKi (p := 13) rfl rfl ?_
    refine sIc_eq (p := 16) rfl rfl ⟨by omega, by omega⟩ ⟨by omega, by omega⟩ (fun c2 => ?_) (fun c2 => ?_)
    · exfalso; omega
    · have c2 := c2
      refine sL (pc' := 17) (i := .aload_n 0) rfl rfl ?_
      refine sGc (p := 20) rfl rfl (sk_0 _) rfl rfl rfl ?_
      refine sL (pc' := 21) (i := .iload_n 2) rfl rfl ?_
      refine sCv (p := 24) (as := [_]) rfl rfl rfl rfl (by decide) (Nat.le_of_ble_eq_true rfl) rfl (Nat.le_of_ble_eq_true rfl) (sk_7 _) rfl (by omega) (c_fhas hfn h40 ⟨by omega, by omega⟩) ?_
      refine sBn (p := 27) rfl rfl (fun c3 => ?_) (fun c3 => ?_)
      · have c3 := c3
        have c3 := of_decide_eq_true c3
        refine sL (pc' := 31) (i := .iload_n 2) rfl rfl ?_
        refine sKi (p := 32) rfl rfl ?_
        refine sIc_ne (p := 35) rfl rfl ⟨by omega, by omega⟩ ⟨by omega, by omega⟩ (fun c4 => ?_) (fun c4 => ?_)
        · have c4 := c4
          refine sL (pc' := 46) (i := .aload_n 0) rfl rfl ?_
          refine sGc (p := 49) rfl rfl (sk_0 _) rfl rfl rfl ?_
          refine sL (pc' := 50) (i := .iload_n 2) rfl rfl ?_
          refine sCv (p := 53) (as := [_]) rfl rfl rfl rfl (by decide) (Nat.le_of_ble_eq_true rfl) rfl (Nat.le_of_ble_eq_true rfl) (sk_7 _) rfl (by omega) (c_row (i := v) (by omega)) ?_
          refine sL (pc' := 54) (i := .astore_n 3) (ls' := [some (.ref 0), some (.int (iI ((u : Nat) : Int))), some (.int (iI ((v : Nat) : Int))), some (.ref (9 + v)), none, none, none, none, none, none]) rfl rfl ?_
          refine sL (pc' := 55) (i := .aload_n 0) rfl rfl ?_
          refine sGc (p := 58) rfl rfl (sk_0 _) rfl rfl rfl ?_
          refine sL (pc' := 59) (i := .aload_n 3) rfl rfl ?_
          refine sL (pc' := 60) (i := .aload_n 3) rfl rfl ?_
          refine sCv (p := 63) (as := [_, _]) rfl rfl rfl rfl (by decide) (Nat.le_of_ble_eq_true rfl) rfl (Nat.le_of_ble_eq_true rfl) (sk_7 _) rfl (by omega) (c_weightOfBoth (a := 9 + v) (b := 9 + v) hvC hwC hgC (sk_rows _ (by omega)) (sk_rows _ (by omega)) (by omega) (by omega) (hF v hvf) (hF v hvf)) ?_
          rw [hl]
          refine sL (pc' := 65) (i := .lstore 4) (ls' := [some (.ref 0), some (.int (iI ((u : Nat) : Int))), some (.int (iI ((v : Nat) : Int))), some (.ref (9 + v)), some (.long (lI ((l : Nat) : Int))), none, none, none, none, none]) rfl rfl ?_
          refine sL (pc' := 67) (i := .lload 4) rfl rfl ?_
          refine sKj0 (p := 68) rfl rfl rfl ?_
          refine sLf_ne (p := 72) rfl rfl rfl ⟨by omega, by omega⟩ ⟨by omega, by omega⟩ (fun c5 => ?_) (fun c5 => ?_)
          · have c5 := c5
            refine sL (pc' := 83) (i := .aload_n 0) rfl rfl ?_
            refine sGc (p := 86) rfl rfl (sk_0 _) rfl rfl rfl ?_
            refine sL (pc' := 87) (i := .aload_n 0) rfl rfl ?_
            refine sGc (p := 90) rfl rfl (sk_0 _) rfl rfl rfl ?_
            refine sL (pc' := 91) (i := .iload_n 1) rfl rfl ?_
            refine sCv (p := 94) (as := [_]) rfl rfl rfl rfl (by decide) (Nat.le_of_ble_eq_true rfl) rfl (Nat.le_of_ble_eq_true rfl) (sk_7 _) rfl (by omega) (c_row (i := u) (by omega)) ?_
            refine sL (pc' := 95) (i := .aload_n 3) rfl rfl ?_
            refine sCv (p := 98) (as := [_, _]) rfl rfl rfl rfl (by decide) (Nat.le_of_ble_eq_true rfl) rfl (Nat.le_of_ble_eq_true rfl) (sk_7 _) rfl (by omega) (c_weightOfBoth (S := (wgB (anyB (fun r => Fn v r && Fn v r) (pr sz n)) S n sz wt ro)) (a := 9 + u) (b := 9 + v) (wgB_vC hvC) (wgB_wC hwC) (wgB_gC hgC) (sk_rows _ (by omega)) (sk_rows _ (by omega)) (by omega) (by omega) (wgB_row (by omega) (hF u hu)) (wgB_row (by omega) (hF v hvf))) ?_
            rw [hm]
            refine sL (pc' := 100) (i := .lstore 6) (ls' := [some (.ref 0), some (.int (iI ((u : Nat) : Int))), some (.int (iI ((v : Nat) : Int))), some (.ref (9 + v)), some (.long (lI ((l : Nat) : Int))), none, some (.long (lI ((m : Nat) : Int))), none, none, none]) rfl rfl ?_
            refine sKj1 (p := 101) rfl rfl rfl ?_
            refine sL (pc' := 103) (i := .lload 6) rfl rfl ?_
            refine sL (pc' := 105) (i := .lload 4) rfl rfl ?_
            refine sCs (p := 108) (as := [_, _]) rfl rfl rfl rfl (by decide) (Nat.le_of_ble_eq_true rfl) rfl (Nat.le_of_ble_eq_true rfl) rfl (by omega) (c_commonDivisor hmb hlb) ?_
            rw [Nat.gcd_comm m l]
            refine sCs (p := 111) (as := [_, _]) rfl rfl rfl rfl (by decide) (Nat.le_of_ble_eq_true rfl) rfl (Nat.le_of_ble_eq_true rfl) rfl (by omega) (c_maxJ (a := 1) (b := ((Nat.gcd l m : Nat) : Int)) ⟨by omega, by omega⟩ ⟨by omega, by omega⟩) ?_
            rw [show (if (1 : Int) < ((Nat.gcd l m : Nat) : Int) then ((Nat.gcd l m : Nat) : Int) else 1) = ((Nat.gcd l m : Nat) : Int) from by split <;> omega]
            refine sL (pc' := 113) (i := .lstore 8) (ls' := [some (.ref 0), some (.int (iI ((u : Nat) : Int))), some (.int (iI ((v : Nat) : Int))), some (.ref (9 + v)), some (.long (lI ((l : Nat) : Int))), none, some (.long (lI ((m : Nat) : Int))), none, some (.long (lI ((Nat.gcd l m : Nat) : Int))), none]) rfl rfl ?_
            refine sL (pc' := 114) (i := .aload_n 0) rfl rfl ?_
            refine sL (pc' := 116) (i := .lload 6) rfl rfl ?_
            refine sL (pc' := 118) (i := .lload 8) rfl rfl ?_
            refine sLdv (p := 119) rfl rfl ⟨by omega, by omega⟩ ⟨by omega, by omega⟩ ?_
            rw [show ((((m : Nat) : Int)) / (((Nat.gcd l m : Nat) : Int))) = ((m / Nat.gcd l m : Nat) : Int) from by rfl]
            refine sPl (p := 122) rfl rfl (sk_0 _) rfl rfl rfl rfl ?_
            refine sL (pc' := 123) (i := .aload_n 0) rfl rfl ?_
            refine sL (pc' := 125) (i := .lload 4) rfl rfl ?_
            refine sL (pc' := 127) (i := .lload 8) rfl rfl ?_
            refine sLdv (p := 128) rfl rfl ⟨by omega, by omega⟩ ⟨by omega, by omega⟩ ?_
            rw [show ((((l : Nat) : Int)) / (((Nat.gcd l m : Nat) : Int))) = ((l / Nat.gcd l m : Nat) : Int) from by rfl]
            refine sPl (p := 131) rfl rfl (sk_0 _) rfl rfl rfl rfl ?_
            refine sK2 (z := 2) (p := 134) rfl rfl rfl ?_
            refine sL (pc' := 135) (i := .aload_n 0) rfl rfl ?_
            refine sGl (p := 138) (z := (lI ((m / Nat.gcd l m : Nat) : Int))) rfl rfl (sk_0 _) rfl rfl rfl rfl ?_
            refine sLml (p := 139) rfl rfl ?_
            refine sL (pc' := 140) (i := .aload_n 0) rfl rfl ?_
            refine sGl (p := 143) (z := (lI ((l / Nat.gcd l m : Nat) : Int))) rfl rfl (sk_0 _) rfl rfl rfl rfl ?_
            refine sLsb (p := 144) rfl rfl ?_
            refine sCs (p := 147) (as := [_]) rfl rfl rfl rfl (by decide) (Nat.le_of_ble_eq_true rfl) rfl (Nat.le_of_ble_eq_true rfl) rfl (by omega) (c_signum (z := 2 * ((m / Nat.gcd l m : Nat) : Int) - ((l / Nat.gcd l m : Nat) : Int)) (by omega) (by omega)) ?_
            refine sEn (i := .ireturn) rfl (rfl) ?_
            have hc1 := CI_wg (q := anyB (fun r => Fn v r && Fn v r) (pr sz n)) hCI
            have hc2 := CI_wg (q := anyB (fun r => Fn u r && Fn v r) (pr sz n)) hc1.1
            have hc3 := CI_uo (p := lI ((m / Nat.gcd l m : Nat) : Int)) (q := lI ((l / Nat.gcd l m : Nat) : Int)) hc2.1
            exact ⟨congrArg (fun z => some (Value.int (iI z))) sg3_O, hc3.1, frX_trans (frX_trans hc1.2 hc2.2) hc3.2⟩
          · exfalso; omega
        · exfalso; omega
      · exfalso; have c3 := of_decide_eq_false c3; omega
end CZ
