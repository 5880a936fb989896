/-! ===== the scanner's signs ===== -/
section SY
variable {X : List Int32} {S : ST}
def sgY : List Nat := [35, 38, 124, 94, 33, 40, 41, 61, 58, 59, 46, 44]
theorem k4_get : ∀ i, i < 12 → ([35, 38, 124, 94, 33, 40, 41, 61, 58, 59, 46, 44] : List Int32)[i]? = some (iI ((sgY.getD i 0 : Nat) : Int)) := by decide +kernel
theorem i8_sb : ∀ c, c < 256 → (iI ((c : Nat) : Int)).toInt8.toInt32 = iI (sb c) := by decide +kernel
theorem sg_y : ∀ c, c < 256 → isY c = (List.range 12).any (fun j => decide (((sgY.getD j 0 : Nat) : Int) = sb c)) := by decide +kernel
theorem sg_b : ∀ i, i < 12 → sgY.getD i 0 < 128 := by decide +kernel
theorem c_ko : sM X 0 280 [.retAddr 3] S (sV (some (.int (iI 0))) S) := by
  refine sIni (ls := [some (.retAddr 3)]) rfl ?_
  refine sGs (p := 3) rfl rfl ?_
  refine sIf_eq (p := 6) rfl rfl ⟨by omega, by omega⟩ (fun c1 => ?_) (fun c1 => ?_)
  · exact absurd c1 (by decide)
  · have c1 := c1
    refine sL (pc' := 7) (i := .aload_n 0) rfl rfl ?_
    refine sKg1 (p := 10) rfl rfl rfl ?_
    refine sL (i := .goto 4) rfl rfl ?_
    refine sEn (i := .ireturn) rfl (rfl) ?_
    exact ⟨rfl, rfl⟩
theorem c_kl : sM X 0 281 [.retAddr 3] S (sV (some (.int (iI (bI true)))) S) := by
  refine sIni (ls := [some (.retAddr 3)]) rfl ?_
  refine sGs (p := 3) rfl rfl ?_
  refine sIf_eq (p := 6) rfl rfl ⟨by omega, by omega⟩ (fun c1 => ?_) (fun c1 => ?_)
  · exact absurd c1 (by decide)
  · have c1 := c1
    refine sL (pc' := 7) (i := .aload_n 0) rfl rfl ?_
    refine sKg1 (p := 10) rfl rfl rfl ?_
    refine sIf_ne (p := 13) rfl rfl ⟨by omega, by omega⟩ (fun c2 => ?_) (fun c2 => ?_)
    · exact absurd c2 (by decide)
    · have c2 := c2
      refine sKi (p := 14) rfl rfl ?_
      refine sL (i := .goto 4) rfl rfl ?_
      refine sEn (i := .ireturn) rfl (rfl) ?_
      exact ⟨rfl, rfl⟩
theorem c_kn : sM X 1 275 [.retAddr 3] S (sV (some (.int (iI 12))) S) := by
  refine sIni (ls := [some (.retAddr 3)]) rfl ?_
  refine sL (pc' := 1) (i := .aload_n 0) rfl rfl ?_
  refine sKg0 (p := 4) rfl rfl rfl ?_
  refine sKn (p := 5) (n := 12) rfl rfl rfl rfl ?_
  refine sL (pc' := 6) (i := .aload_n 0) rfl rfl ?_
  refine sCk (p := 9) (as := []) rfl rfl rfl rfl (by decide) (Nat.le_of_ble_eq_true rfl) rfl (Nat.le_of_ble_eq_true rfl) rfl (by omega) (c_ko) ?_
  refine sSr0 (p := 10) (a := 12) rfl rfl ⟨by omega, by omega⟩ ?_
  refine sEn (i := .ireturn) rfl (rfl) ?_
  exact ⟨rfl, rfl⟩
theorem c_ke {c : Nat} (h : c < 256) : sM X 0 294 [.int (iI ((c : Nat) : Int))] S (sV (some (.int (iI (bI true)))) S) := by
  refine sIni (ls := [some (.int (iI ((c : Nat) : Int)))]) rfl ?_
  refine sL (pc' := 1) (i := .iload_n 0) rfl rfl ?_
  refine sIf_lt (p := 4) rfl rfl ⟨by omega, by omega⟩ (fun c1 => ?_) (fun c1 => ?_)
  · exfalso; omega
  · have c1 := c1
    refine sL (pc' := 5) (i := .iload_n 0) rfl rfl ?_
    refine sKs (p := 8) rfl rfl ?_
    refine sIc_gt (p := 11) rfl rfl ⟨by omega, by omega⟩ ⟨by omega, by omega⟩ (fun c2 => ?_) (fun c2 => ?_)
    · exfalso; omega
    · have c2 := c2
      refine sKi (p := 12) rfl rfl ?_
      refine sL (i := .goto 4) rfl rfl ?_
      refine sEn (i := .ireturn) rfl (rfl) ?_
      exact ⟨rfl, rfl⟩
theorem c_kc {c : Nat} (h : c < 256) : sM X 0 296 [.retAddr 4, .int (iI ((c : Nat) : Int)), .int (iI 0), .int (iI 12)] S (fun r S' => S' = S ∧ ∃ z : Int, r = some (.int (iI z)) ∧ rg z ∧ (z < 0 ↔ isY c = false)) := by
  have hy := sg_y c h
  have hbr := sb_rg h
  refine sIni (ls := [some (.retAddr 4), some (.int (iI ((c : Nat) : Int))), some (.int (iI 0)), some (.int (iI 12)), none, none]) rfl ?_
  refine sL (pc' := 1) (i := .iload_n 1) rfl rfl ?_
  refine sI2b (p := 2) (z := sb c) rfl rfl (i8_sb c h) ?_
  refine sL (pc' := 4) (i := .istore 4) (ls' := [some (.retAddr 4), some (.int (iI ((c : Nat) : Int))), some (.int (iI 0)), some (.int (iI 12)), some (.int (iI (sb c))), none]) rfl rfl ?_
  refine sL (pc' := 5) (i := .iload_n 2) rfl rfl ?_
  refine sL (pc' := 7) (i := .istore 5) (ls' := [some (.retAddr 4), some (.int (iI ((c : Nat) : Int))), some (.int (iI 0)), some (.int (iI 12)), some (.int (iI (sb c))), some (.int (iI 0))]) rfl rfl ?_
  refine sIt (A := fun i => [some (.retAddr 4), some (.int (iI ((c : Nat) : Int))), some (.int (iI 0)), some (.int (iI 12)), some (.int (iI (sb c))), some (.int (iI ((i : Nat) : Int)))]) (B := fun _ => S) (fun i => ∀ j, j < i → ((sgY.getD j 0 : Nat) : Int) ≠ sb c) 12 (fun j hj => absurd hj (Nat.not_lt_zero _)) (fun i hi7 hI7 ih7 => ?_) (fun hI7 => ?_)
  · have hi7 := hi7
    refine sL (pc' := 9) (i := .iload 5) rfl rfl ?_
    refine sL (pc' := 10) (i := .iload_n 3) rfl rfl ?_
    refine sIc_ge (p := 13) rfl rfl ⟨by omega, by omega⟩ ⟨by omega, by omega⟩ (fun c1 => ?_) (fun c1 => ?_)
    · exfalso; omega
    · have c1 := c1
      refine sL (pc' := 14) (i := .aload_n 0) rfl rfl ?_
      refine sL (pc' := 16) (i := .iload 5) rfl rfl ?_
      refine sKy (p := 17) (j := i) rfl rfl rfl rfl ⟨k4_get i hi7, by omega⟩ ?_
      refine sL (pc' := 19) (i := .iload 4) rfl rfl ?_
      refine sIc_ne (p := 22) rfl rfl ⟨by have := sg_b i hi7; omega, by have := sg_b i hi7; omega⟩ ⟨by omega, by omega⟩ (fun c2 => ?_) (fun c2 => ?_)
      · have c2 := c2
        refine sInX (z := ((i : Nat) : Int)) (ls' := [some (.retAddr 4), some (.int (iI ((c : Nat) : Int))), some (.int (iI 0)), some (.int (iI 12)), some (.int (iI (sb c))), some (.int (iI (((i : Nat) : Int) + 1)))]) (p := 28) rfl rfl (Nat.le_of_ble_eq_true rfl) rfl rfl ?_
        refine sL (i := .goto (-21)) rfl rfl ?_
        refine sRo (ls := [some (.retAddr 4), some (.int (iI ((c : Nat) : Int))), some (.int (iI 0)), some (.int (iI 12)), some (.int (iI (sb c))), some (.int (iI ((i + 1 : Nat) : Int)))]) (T := _) (And.intro rfl (And.intro rfl (And.intro rfl (And.intro rfl (And.intro rfl (And.intro rfl (True.intro))))))) (rfl) (ih7 ?_)
        intro j hj
        rcases Nat.lt_or_ge j i with q | q
        · exact hI7 j q
        · obtain rfl : j = i := by omega
          assumption
      · have c2 := c2
        refine sL (pc' := 24) (i := .iload 5) rfl rfl ?_
        refine sEn (i := .ireturn) rfl (rfl) ?_
        refine ⟨rfl, _, rfl, ⟨by omega, by omega⟩, ?_⟩
        rw [hy]
        refine ⟨fun q => absurd q (by omega), fun q => absurd q ?_⟩
        rw [List.any_eq_true.mpr ⟨i, List.mem_range.mpr hi7, decide_eq_true (by assumption)⟩]
        decide
  · have hI7 := hI7
    refine sL (pc' := 9) (i := .iload 5) rfl rfl ?_
    refine sL (pc' := 10) (i := .iload_n 3) rfl rfl ?_
    refine sIc_ge (p := 13) rfl rfl ⟨by omega, by omega⟩ ⟨by omega, by omega⟩ (fun c3 => ?_) (fun c3 => ?_)
    · have c3 := c3
      refine sKi (p := 32) rfl rfl ?_
      refine sEn (i := .ireturn) rfl (rfl) ?_
      refine ⟨rfl, _, rfl, ⟨by decide, by decide⟩, ?_⟩
      rw [hy]
      refine ⟨fun _ => ?_, fun _ => by decide⟩
      rw [List.any_eq_false]
      intro j hj
      exact fun q => hI7 j (List.mem_range.mp hj) (of_decide_eq_true q)
    · exact absurd c3 (by decide)
theorem c_k3 {c : Nat} (h : c < 256) : sM X 1 295 [.retAddr 4, .int (iI ((c : Nat) : Int)), .int (iI 0), .int (iI 12)] S (fun r S' => S' = S ∧ ∃ z : Int, r = some (.int (iI z)) ∧ rg z ∧ (z < 0 ↔ isY c = false)) := by
  refine sIni (ls := [some (.retAddr 4), some (.int (iI ((c : Nat) : Int))), some (.int (iI 0)), some (.int (iI 12))]) rfl ?_
  refine sL (pc' := 1) (i := .iload_n 1) rfl rfl ?_
  refine sCs (p := 4) (as := [_]) rfl rfl rfl rfl (by decide) (Nat.le_of_ble_eq_true rfl) rfl (Nat.le_of_ble_eq_true rfl) rfl (by omega) (c_ke h) ?_
  refine sBn (p := 7) rfl rfl (fun c1 => ?_) (fun c1 => ?_)
  · have c1 := c1
    refine sL (pc' := 10) (i := .iload_n 2) rfl rfl ?_
    refine sKi (p := 11) rfl rfl ?_
    refine sCs (p := 14) (as := [_, _]) rfl rfl rfl rfl (by decide) (Nat.le_of_ble_eq_true rfl) rfl (Nat.le_of_ble_eq_true rfl) rfl (by omega) (c_max (x := 0) (y := 0) ⟨by decide, by decide⟩ ⟨by decide, by decide⟩) ?_
    rw [if_neg (by decide)]
    refine sL (pc' := 15) (i := .istore_n 2) (ls' := [some (.retAddr 4), some (.int (iI ((c : Nat) : Int))), some (.int (iI 0)), some (.int (iI 12))]) rfl rfl ?_
    refine sL (pc' := 16) (i := .iload_n 3) rfl rfl ?_
    refine sL (pc' := 17) (i := .aload_n 0) rfl rfl ?_
    refine sKn (p := 18) (n := 12) rfl rfl rfl rfl ?_
    refine sCs (p := 21) (as := [_, _]) rfl rfl rfl rfl (by decide) (Nat.le_of_ble_eq_true rfl) rfl (Nat.le_of_ble_eq_true rfl) rfl (by omega) (c_min (x := 12) (y := 12) ⟨by decide, by decide⟩ ⟨by decide, by decide⟩) ?_
    rw [if_neg (by decide)]
    refine sL (pc' := 22) (i := .istore_n 3) (ls' := [some (.retAddr 4), some (.int (iI ((c : Nat) : Int))), some (.int (iI 0)), some (.int (iI 12))]) rfl rfl ?_
    refine sL (pc' := 23) (i := .iload_n 2) rfl rfl ?_
    refine sL (pc' := 24) (i := .iload_n 3) rfl rfl ?_
    refine sIc_lt (p := 27) rfl rfl ⟨by omega, by omega⟩ ⟨by omega, by omega⟩ (fun c2 => ?_) (fun c2 => ?_)
    · have c2 := c2
      refine sL (pc' := 30) (i := .aload_n 0) rfl rfl ?_
      refine sL (pc' := 31) (i := .iload_n 1) rfl rfl ?_
      refine sL (pc' := 32) (i := .iload_n 2) rfl rfl ?_
      refine sL (pc' := 33) (i := .iload_n 3) rfl rfl ?_
      refine sCsQ (p := 36) (as := [_, _, _, _]) rfl rfl rfl rfl (by decide) (Nat.le_of_ble_eq_true rfl) rfl (Nat.le_of_ble_eq_true rfl) rfl (by omega) (c_kc h) ?_
      rintro _ _ ⟨rfl, zz, rfl, h1, h2⟩
      refine sEn (i := .ireturn) rfl (rfl) ?_
      exact ⟨rfl, zz, rfl, h1, h2⟩
    · exact absurd c2 (by decide)
  · exact absurd c1 (by decide)
theorem c_k2 {c : Nat} (h : c < 256) : sM X 2 277 [.retAddr 3, .int (iI ((c : Nat) : Int)), .int (iI 0)] S (fun r S' => S' = S ∧ ∃ z : Int, r = some (.int (iI z)) ∧ rg z ∧ (z < 0 ↔ isY c = false)) := by
  refine sIni (ls := [some (.retAddr 3), some (.int (iI ((c : Nat) : Int))), some (.int (iI 0))]) rfl ?_
  refine sL (pc' := 1) (i := .aload_n 0) rfl rfl ?_
  refine sCk (p := 4) (as := []) rfl rfl rfl rfl (by decide) (Nat.le_of_ble_eq_true rfl) rfl (Nat.le_of_ble_eq_true rfl) rfl (by omega) (c_kl) ?_
  refine sBe (p := 7) rfl rfl (fun c1 => ?_) (fun c1 => ?_)
  · exact absurd c1 (by decide)
  · have c1 := c1
    refine sL (pc' := 8) (i := .aload_n 0) rfl rfl ?_
    refine sKg0 (p := 11) rfl rfl rfl ?_
    refine sL (pc' := 12) (i := .iload_n 1) rfl rfl ?_
    refine sL (pc' := 13) (i := .iload_n 2) rfl rfl ?_
    refine sL (pc' := 14) (i := .aload_n 0) rfl rfl ?_
    refine sCk (p := 17) (as := []) rfl rfl rfl rfl (by decide) (Nat.le_of_ble_eq_true rfl) rfl (Nat.le_of_ble_eq_true rfl) rfl (by omega) (c_kn) ?_
    refine sCsQ (p := 20) (as := [_, _, _, _]) rfl rfl rfl rfl (by decide) (Nat.le_of_ble_eq_true rfl) rfl (Nat.le_of_ble_eq_true rfl) rfl (by omega) (c_k3 h) ?_
    rintro _ _ ⟨rfl, zz, rfl, h1, h2⟩
    refine sL (i := .goto 16) rfl rfl ?_
    refine sEn (i := .ireturn) rfl (rfl) ?_
    exact ⟨rfl, zz, rfl, h1, h2⟩
theorem c_k1 {c : Nat} (h : c < 256) : sM X 3 276 [.retAddr 3, .int (iI ((c : Nat) : Int))] S (fun r S' => S' = S ∧ ∃ z : Int, r = some (.int (iI z)) ∧ rg z ∧ (z < 0 ↔ isY c = false)) := by
  refine sIni (ls := [some (.retAddr 3), some (.int (iI ((c : Nat) : Int)))]) rfl ?_
  refine sL (pc' := 1) (i := .aload_n 0) rfl rfl ?_
  refine sL (pc' := 2) (i := .iload_n 1) rfl rfl ?_
  refine sKi (p := 3) rfl rfl ?_
  refine sCkQ (p := 6) (as := [_, _]) rfl rfl rfl rfl (by decide) (Nat.le_of_ble_eq_true rfl) rfl (Nat.le_of_ble_eq_true rfl) rfl (by omega) (c_k2 h) ?_
  rintro _ _ ⟨rfl, zz, rfl, h1, h2⟩
  refine sEn (i := .ireturn) rfl (rfl) ?_
  exact ⟨rfl, zz, rfl, h1, h2⟩
theorem tK_s {y : Nat → Nat} {s a : Nat} (h : a < s) (h1 : isL (y a) = false) (h2 : isD (y a) = false) : tK y s a = if y a = 61 ∧ bA y s (a + 1) = 62 then 256 else if y a = 60 ∧ bA y s (a + 1) = 61 ∧ bA y s (a + 2) = 62 then 257 else if isY (y a) then y a else 265 := by
  unfold tK
  rw [if_neg (fun z => z h), if_neg (by rw [h1]; decide), if_neg (by rw [h2]; decide)]
theorem tE_s {y : Nat → Nat} {s a : Nat} (h : a < s) (h1 : isL (y a) = false) (h2 : isD (y a) = false) : tE y s a = if y a = 61 ∧ bA y s (a + 1) = 62 then a + 2 else if y a = 60 ∧ bA y s (a + 1) = 61 ∧ bA y s (a + 2) = 62 then a + 3 else a + 1 := by
  unfold tE
  rw [if_neg (fun z => z h), if_neg (by rw [h1]; decide), if_neg (by rw [h2]; decide)]
theorem bA_rg {y : Nat → Nat} (h : ∀ j, y j < 256) (s p : Nat) : -1 ≤ bA y s p ∧ bA y s p < 256 := by
  unfold bA
  have := h p
  split <;> omega
theorem SYM_ok (X : List Int32) : SYM X := by
  intro S y s a ht h5 ha hL hD
  have hy := ht.2.1
  have hs4 := ht.1
  have hya := hy a
  have hb1 := bA_rg hy s (a + 1)
  have hb2 := bA_rg hy s (a + 2)
  refine sIni (ls := [some (.ref 64), some (.int (iI ((y a : Nat) : Int))), none]) rfl ?_
  refine sL (pc' := 1) (i := .aload_n 0) rfl rfl ?_
  refine sL (pc' := 2) (i := .aload_n 0) rfl rfl ?_
  refine sGi (p := 5) rfl rfl (sk_64 _) rfl rfl rfl h5 ?_
  refine sKi (p := 6) rfl rfl ?_
  refine sAd (p := 7) rfl rfl ?_
  rw [show ((((a : Nat) : Int) + 1) : Int) = ((a + 1 : Nat) : Int) from by omega]
  refine sCv (p := 10) (as := [_]) rfl rfl rfl rfl (by decide) (Nat.le_of_ble_eq_true rfl) rfl (Nat.le_of_ble_eq_true rfl) (sk_64 _) rfl (by omega) (c_byteAt (p := a + 1) ht (by omega)) ?_
  refine sL (pc' := 11) (i := .istore_n 2) (ls' := [some (.ref 64), some (.int (iI ((y a : Nat) : Int))), some (.int (iI (bA y s (a + 1))))]) rfl rfl ?_
  refine sL (pc' := 12) (i := .iload_n 1) rfl rfl ?_
  refine sKb (p := 14) rfl rfl ?_
  refine sIc_ne (p := 17) rfl rfl ⟨by omega, by omega⟩ ⟨by omega, by omega⟩ (fun c1 => ?_) (fun c1 => ?_)
  · have c1 := c1
    refine sL (pc' := 38) (i := .iload_n 1) rfl rfl ?_
    refine sKb (p := 40) rfl rfl ?_
    refine sIc_ne (p := 43) rfl rfl ⟨by omega, by omega⟩ ⟨by omega, by omega⟩ (fun c2 => ?_) (fun c2 => ?_)
    · have c2 := c2
      refine sL (pc' := 79) (i := .aload_n 0) rfl rfl ?_
      refine sL (pc' := 80) (i := .dup) rfl rfl ?_
      refine sGi (p := 83) rfl rfl (sk_64 _) rfl rfl rfl h5 ?_
      refine sKi (p := 84) rfl rfl ?_
      refine sAd (p := 85) rfl rfl ?_
      refine sPi (z := (((a : Nat) : Int) + 1)) (p := 88) rfl rfl (sk_64 _) rfl rfl rfl rfl ?_
      refine sNp (p := 90) rfl rfl (by decide) ?_
      refine sL (pc' := 91) (i := .iload_n 1) rfl rfl ?_
      refine sI2c (p := 92) rfl rfl hya ?_
      refine sCkQ (p := 95) (as := [_]) rfl rfl rfl rfl (by decide) (Nat.le_of_ble_eq_true rfl) rfl (Nat.le_of_ble_eq_true rfl) rfl (by omega) (c_k1 hya) ?_
      rintro _ _ ⟨rfl, zz, rfl, hzr, hzz⟩
      refine sIf_lt (p := 98) rfl rfl hzr (fun c3 => ?_) (fun c3 => ?_)
      · have c3 := c3
        refine sKs (p := 105) rfl rfl ?_
        refine sEn (i := .ireturn) rfl (rfl) ?_
        rw [tK_s ha hL hD, tE_s ha hL hD, if_neg (show ¬ (y a = 61 ∧ bA y s (a + 1) = 62) by omega), if_neg (show ¬ (y a = 61 ∧ bA y s (a + 1) = 62) by omega), if_neg (show ¬ (y a = 60 ∧ bA y s (a + 1) = 61 ∧ bA y s (a + 2) = 62) by omega), if_neg (show ¬ (y a = 60 ∧ bA y s (a + 1) = 61 ∧ bA y s (a + 2) = 62) by omega)]
        rw [if_neg (by rw [hzz.mp (by omega)]; decide)]
        exact ⟨rfl, congrArg sH (congrArg (wI S 64 5) (by omega))⟩
      · have c3 := c3
        refine sL (pc' := 99) (i := .iload_n 1) rfl rfl ?_
        refine sL (i := .goto 6) rfl rfl ?_
        refine sEn (i := .ireturn) rfl (rfl) ?_
        rw [tK_s ha hL hD, tE_s ha hL hD, if_neg (show ¬ (y a = 61 ∧ bA y s (a + 1) = 62) by omega), if_neg (show ¬ (y a = 61 ∧ bA y s (a + 1) = 62) by omega), if_neg (show ¬ (y a = 60 ∧ bA y s (a + 1) = 61 ∧ bA y s (a + 2) = 62) by omega), if_neg (show ¬ (y a = 60 ∧ bA y s (a + 1) = 61 ∧ bA y s (a + 2) = 62) by omega)]
        rw [if_pos (by cases hq : isY (y a) with | true => rfl | false => exact absurd (hzz.mpr hq) (by omega))]
        exact ⟨rfl, congrArg sH (congrArg (wI S 64 5) (by omega))⟩
    · have c2 := c2
      refine sL (pc' := 44) (i := .iload_n 2) rfl rfl ?_
      refine sKb (p := 46) rfl rfl ?_
      refine sIc_ne (p := 49) rfl rfl ⟨by omega, by omega⟩ ⟨by omega, by omega⟩ (fun c4 => ?_) (fun c4 => ?_)
      · have c4 := c4
        refine sL (pc' := 79) (i := .aload_n 0) rfl rfl ?_
        refine sL (pc' := 80) (i := .dup) rfl rfl ?_
        refine sGi (p := 83) rfl rfl (sk_64 _) rfl rfl rfl h5 ?_
        refine sKi (p := 84) rfl rfl ?_
        refine sAd (p := 85) rfl rfl ?_
        refine sPi (z := (((a : Nat) : Int) + 1)) (p := 88) rfl rfl (sk_64 _) rfl rfl rfl rfl ?_
        refine sNp (p := 90) rfl rfl (by decide) ?_
        refine sL (pc' := 91) (i := .iload_n 1) rfl rfl ?_
        refine sI2c (p := 92) rfl rfl hya ?_
        refine sCkQ (p := 95) (as := [_]) rfl rfl rfl rfl (by decide) (Nat.le_of_ble_eq_true rfl) rfl (Nat.le_of_ble_eq_true rfl) rfl (by omega) (c_k1 hya) ?_
        rintro _ _ ⟨rfl, zz, rfl, hzr, hzz⟩
        refine sIf_lt (p := 98) rfl rfl hzr (fun c5 => ?_) (fun c5 => ?_)
        · have c5 := c5
          refine sKs (p := 105) rfl rfl ?_
          refine sEn (i := .ireturn) rfl (rfl) ?_
          rw [tK_s ha hL hD, tE_s ha hL hD, if_neg (show ¬ (y a = 61 ∧ bA y s (a + 1) = 62) by omega), if_neg (show ¬ (y a = 61 ∧ bA y s (a + 1) = 62) by omega), if_neg (show ¬ (y a = 60 ∧ bA y s (a + 1) = 61 ∧ bA y s (a + 2) = 62) by omega), if_neg (show ¬ (y a = 60 ∧ bA y s (a + 1) = 61 ∧ bA y s (a + 2) = 62) by omega)]
          rw [if_neg (by rw [hzz.mp (by omega)]; decide)]
          exact ⟨rfl, congrArg sH (congrArg (wI S 64 5) (by omega))⟩
        · have c5 := c5
          refine sL (pc' := 99) (i := .iload_n 1) rfl rfl ?_
          refine sL (i := .goto 6) rfl rfl ?_
          refine sEn (i := .ireturn) rfl (rfl) ?_
          rw [tK_s ha hL hD, tE_s ha hL hD, if_neg (show ¬ (y a = 61 ∧ bA y s (a + 1) = 62) by omega), if_neg (show ¬ (y a = 61 ∧ bA y s (a + 1) = 62) by omega), if_neg (show ¬ (y a = 60 ∧ bA y s (a + 1) = 61 ∧ bA y s (a + 2) = 62) by omega), if_neg (show ¬ (y a = 60 ∧ bA y s (a + 1) = 61 ∧ bA y s (a + 2) = 62) by omega)]
          rw [if_pos (by cases hq : isY (y a) with | true => rfl | false => exact absurd (hzz.mpr hq) (by omega))]
          exact ⟨rfl, congrArg sH (congrArg (wI S 64 5) (by omega))⟩
      · have c4 := c4
        refine sL (pc' := 50) (i := .aload_n 0) rfl rfl ?_
        refine sL (pc' := 51) (i := .aload_n 0) rfl rfl ?_
        refine sGi (p := 54) rfl rfl (sk_64 _) rfl rfl rfl h5 ?_
        refine sKi (p := 55) rfl rfl ?_
        refine sAd (p := 56) rfl rfl ?_
        rw [show ((((a : Nat) : Int) + 2) : Int) = ((a + 2 : Nat) : Int) from by omega]
        refine sCv (p := 59) (as := [_]) rfl rfl rfl rfl (by decide) (Nat.le_of_ble_eq_true rfl) rfl (Nat.le_of_ble_eq_true rfl) (sk_64 _) rfl (by omega) (c_byteAt (p := a + 2) ht (by omega)) ?_
        refine sKb (p := 61) rfl rfl ?_
        refine sIc_ne (p := 64) rfl rfl ⟨by omega, by omega⟩ ⟨by omega, by omega⟩ (fun c6 => ?_) (fun c6 => ?_)
        · have c6 := c6
          refine sL (pc' := 79) (i := .aload_n 0) rfl rfl ?_
          refine sL (pc' := 80) (i := .dup) rfl rfl ?_
          refine sGi (p := 83) rfl rfl (sk_64 _) rfl rfl rfl h5 ?_
          refine sKi (p := 84) rfl rfl ?_
          refine sAd (p := 85) rfl rfl ?_
          refine sPi (z := (((a : Nat) : Int) + 1)) (p := 88) rfl rfl (sk_64 _) rfl rfl rfl rfl ?_
          refine sNp (p := 90) rfl rfl (by decide) ?_
          refine sL (pc' := 91) (i := .iload_n 1) rfl rfl ?_
          refine sI2c (p := 92) rfl rfl hya ?_
          refine sCkQ (p := 95) (as := [_]) rfl rfl rfl rfl (by decide) (Nat.le_of_ble_eq_true rfl) rfl (Nat.le_of_ble_eq_true rfl) rfl (by omega) (c_k1 hya) ?_
          rintro _ _ ⟨rfl, zz, rfl, hzr, hzz⟩
          refine sIf_lt (p := 98) rfl rfl hzr (fun c7 => ?_) (fun c7 => ?_)
          · have c7 := c7
            refine sKs (p := 105) rfl rfl ?_
            refine sEn (i := .ireturn) rfl (rfl) ?_
            rw [tK_s ha hL hD, tE_s ha hL hD, if_neg (show ¬ (y a = 61 ∧ bA y s (a + 1) = 62) by omega), if_neg (show ¬ (y a = 61 ∧ bA y s (a + 1) = 62) by omega), if_neg (show ¬ (y a = 60 ∧ bA y s (a + 1) = 61 ∧ bA y s (a + 2) = 62) by omega), if_neg (show ¬ (y a = 60 ∧ bA y s (a + 1) = 61 ∧ bA y s (a + 2) = 62) by omega)]
            rw [if_neg (by rw [hzz.mp (by omega)]; decide)]
            exact ⟨rfl, congrArg sH (congrArg (wI S 64 5) (by omega))⟩
          · have c7 := c7
            refine sL (pc' := 99) (i := .iload_n 1) rfl rfl ?_
            refine sL (i := .goto 6) rfl rfl ?_
            refine sEn (i := .ireturn) rfl (rfl) ?_
            rw [tK_s ha hL hD, tE_s ha hL hD, if_neg (show ¬ (y a = 61 ∧ bA y s (a + 1) = 62) by omega), if_neg (show ¬ (y a = 61 ∧ bA y s (a + 1) = 62) by omega), if_neg (show ¬ (y a = 60 ∧ bA y s (a + 1) = 61 ∧ bA y s (a + 2) = 62) by omega), if_neg (show ¬ (y a = 60 ∧ bA y s (a + 1) = 61 ∧ bA y s (a + 2) = 62) by omega)]
            rw [if_pos (by cases hq : isY (y a) with | true => rfl | false => exact absurd (hzz.mpr hq) (by omega))]
            exact ⟨rfl, congrArg sH (congrArg (wI S 64 5) (by omega))⟩
        · have c6 := c6
          refine sL (pc' := 65) (i := .aload_n 0) rfl rfl ?_
          refine sL (pc' := 66) (i := .dup) rfl rfl ?_
          refine sGi (p := 69) rfl rfl (sk_64 _) rfl rfl rfl h5 ?_
          refine sKi (p := 70) rfl rfl ?_
          refine sAd (p := 71) rfl rfl ?_
          refine sPi (z := (((a : Nat) : Int) + 3)) (p := 74) rfl rfl (sk_64 _) rfl rfl rfl rfl ?_
          refine sKs (p := 77) rfl rfl ?_
          refine sEn (i := .ireturn) rfl (rfl) ?_
          rw [tK_s ha hL hD, tE_s ha hL hD, if_neg (show ¬ (y a = 61 ∧ bA y s (a + 1) = 62) by omega), if_neg (show ¬ (y a = 61 ∧ bA y s (a + 1) = 62) by omega), if_pos (show y a = 60 ∧ bA y s (a + 1) = 61 ∧ bA y s (a + 2) = 62 from ⟨by omega, by omega, by omega⟩), if_pos (show y a = 60 ∧ bA y s (a + 1) = 61 ∧ bA y s (a + 2) = 62 from ⟨by omega, by omega, by omega⟩)]
          exact ⟨rfl, congrArg sH (congrArg (wI S 64 5) (by omega))⟩
  · have c1 := c1
    refine sL (pc' := 18) (i := .iload_n 2) rfl rfl ?_
    refine sKb (p := 20) rfl rfl ?_
    refine sIc_ne (p := 23) rfl rfl ⟨by omega, by omega⟩ ⟨by omega, by omega⟩ (fun c8 => ?_) (fun c8 => ?_)
    · have c8 := c8
      refine sL (pc' := 38) (i := .iload_n 1) rfl rfl ?_
      refine sKb (p := 40) rfl rfl ?_
      refine sIc_ne (p := 43) rfl rfl ⟨by omega, by omega⟩ ⟨by omega, by omega⟩ (fun c9 => ?_) (fun c9 => ?_)
      · have c9 := c9
        refine sL (pc' := 79) (i := .aload_n 0) rfl rfl ?_
        refine sL (pc' := 80) (i := .dup) rfl rfl ?_
        refine sGi (p := 83) rfl rfl (sk_64 _) rfl rfl rfl h5 ?_
        refine sKi (p := 84) rfl rfl ?_
        refine sAd (p := 85) rfl rfl ?_
        refine sPi (z := (((a : Nat) : Int) + 1)) (p := 88) rfl rfl (sk_64 _) rfl rfl rfl rfl ?_
        refine sNp (p := 90) rfl rfl (by decide) ?_
        refine sL (pc' := 91) (i := .iload_n 1) rfl rfl ?_
        refine sI2c (p := 92) rfl rfl hya ?_
        refine sCkQ (p := 95) (as := [_]) rfl rfl rfl rfl (by decide) (Nat.le_of_ble_eq_true rfl) rfl (Nat.le_of_ble_eq_true rfl) rfl (by omega) (c_k1 hya) ?_
        rintro _ _ ⟨rfl, zz, rfl, hzr, hzz⟩
        refine sIf_lt (p := 98) rfl rfl hzr (fun c10 => ?_) (fun c10 => ?_)
        · have c10 := c10
          refine sKs (p := 105) rfl rfl ?_
          refine sEn (i := .ireturn) rfl (rfl) ?_
          rw [tK_s ha hL hD, tE_s ha hL hD, if_neg (show ¬ (y a = 61 ∧ bA y s (a + 1) = 62) by omega), if_neg (show ¬ (y a = 61 ∧ bA y s (a + 1) = 62) by omega), if_neg (show ¬ (y a = 60 ∧ bA y s (a + 1) = 61 ∧ bA y s (a + 2) = 62) by omega), if_neg (show ¬ (y a = 60 ∧ bA y s (a + 1) = 61 ∧ bA y s (a + 2) = 62) by omega)]
          rw [if_neg (by rw [hzz.mp (by omega)]; decide)]
          exact ⟨rfl, congrArg sH (congrArg (wI S 64 5) (by omega))⟩
        · have c10 := c10
          refine sL (pc' := 99) (i := .iload_n 1) rfl rfl ?_
          refine sL (i := .goto 6) rfl rfl ?_
          refine sEn (i := .ireturn) rfl (rfl) ?_
          rw [tK_s ha hL hD, tE_s ha hL hD, if_neg (show ¬ (y a = 61 ∧ bA y s (a + 1) = 62) by omega), if_neg (show ¬ (y a = 61 ∧ bA y s (a + 1) = 62) by omega), if_neg (show ¬ (y a = 60 ∧ bA y s (a + 1) = 61 ∧ bA y s (a + 2) = 62) by omega), if_neg (show ¬ (y a = 60 ∧ bA y s (a + 1) = 61 ∧ bA y s (a + 2) = 62) by omega)]
          rw [if_pos (by cases hq : isY (y a) with | true => rfl | false => exact absurd (hzz.mpr hq) (by omega))]
          exact ⟨rfl, congrArg sH (congrArg (wI S 64 5) (by omega))⟩
      · have c9 := c9
        refine sL (pc' := 44) (i := .iload_n 2) rfl rfl ?_
        refine sKb (p := 46) rfl rfl ?_
        refine sIc_ne (p := 49) rfl rfl ⟨by omega, by omega⟩ ⟨by omega, by omega⟩ (fun c11 => ?_) (fun c11 => ?_)
        · have c11 := c11
          refine sL (pc' := 79) (i := .aload_n 0) rfl rfl ?_
          refine sL (pc' := 80) (i := .dup) rfl rfl ?_
          refine sGi (p := 83) rfl rfl (sk_64 _) rfl rfl rfl h5 ?_
          refine sKi (p := 84) rfl rfl ?_
          refine sAd (p := 85) rfl rfl ?_
          refine sPi (z := (((a : Nat) : Int) + 1)) (p := 88) rfl rfl (sk_64 _) rfl rfl rfl rfl ?_
          refine sNp (p := 90) rfl rfl (by decide) ?_
          refine sL (pc' := 91) (i := .iload_n 1) rfl rfl ?_
          refine sI2c (p := 92) rfl rfl hya ?_
          refine sCkQ (p := 95) (as := [_]) rfl rfl rfl rfl (by decide) (Nat.le_of_ble_eq_true rfl) rfl (Nat.le_of_ble_eq_true rfl) rfl (by omega) (c_k1 hya) ?_
          rintro _ _ ⟨rfl, zz, rfl, hzr, hzz⟩
          refine sIf_lt (p := 98) rfl rfl hzr (fun c12 => ?_) (fun c12 => ?_)
          · have c12 := c12
            refine sKs (p := 105) rfl rfl ?_
            refine sEn (i := .ireturn) rfl (rfl) ?_
            rw [tK_s ha hL hD, tE_s ha hL hD, if_neg (show ¬ (y a = 61 ∧ bA y s (a + 1) = 62) by omega), if_neg (show ¬ (y a = 61 ∧ bA y s (a + 1) = 62) by omega), if_neg (show ¬ (y a = 60 ∧ bA y s (a + 1) = 61 ∧ bA y s (a + 2) = 62) by omega), if_neg (show ¬ (y a = 60 ∧ bA y s (a + 1) = 61 ∧ bA y s (a + 2) = 62) by omega)]
            rw [if_neg (by rw [hzz.mp (by omega)]; decide)]
            exact ⟨rfl, congrArg sH (congrArg (wI S 64 5) (by omega))⟩
          · have c12 := c12
            refine sL (pc' := 99) (i := .iload_n 1) rfl rfl ?_
            refine sL (i := .goto 6) rfl rfl ?_
            refine sEn (i := .ireturn) rfl (rfl) ?_
            rw [tK_s ha hL hD, tE_s ha hL hD, if_neg (show ¬ (y a = 61 ∧ bA y s (a + 1) = 62) by omega), if_neg (show ¬ (y a = 61 ∧ bA y s (a + 1) = 62) by omega), if_neg (show ¬ (y a = 60 ∧ bA y s (a + 1) = 61 ∧ bA y s (a + 2) = 62) by omega), if_neg (show ¬ (y a = 60 ∧ bA y s (a + 1) = 61 ∧ bA y s (a + 2) = 62) by omega)]
            rw [if_pos (by cases hq : isY (y a) with | true => rfl | false => exact absurd (hzz.mpr hq) (by omega))]
            exact ⟨rfl, congrArg sH (congrArg (wI S 64 5) (by omega))⟩
        · have c11 := c11
          refine sL (pc' := 50) (i := .aload_n 0) rfl rfl ?_
          refine sL (pc' := 51) (i := .aload_n 0) rfl rfl ?_
          refine sGi (p := 54) rfl rfl (sk_64 _) rfl rfl rfl h5 ?_
          refine sKi (p := 55) rfl rfl ?_
          refine sAd (p := 56) rfl rfl ?_
          rw [show ((((a : Nat) : Int) + 2) : Int) = ((a + 2 : Nat) : Int) from by omega]
          refine sCv (p := 59) (as := [_]) rfl rfl rfl rfl (by decide) (Nat.le_of_ble_eq_true rfl) rfl (Nat.le_of_ble_eq_true rfl) (sk_64 _) rfl (by omega) (c_byteAt (p := a + 2) ht (by omega)) ?_
          refine sKb (p := 61) rfl rfl ?_
          refine sIc_ne (p := 64) rfl rfl ⟨by omega, by omega⟩ ⟨by omega, by omega⟩ (fun c13 => ?_) (fun c13 => ?_)
          · have c13 := c13
            refine sL (pc' := 79) (i := .aload_n 0) rfl rfl ?_
            refine sL (pc' := 80) (i := .dup) rfl rfl ?_
            refine sGi (p := 83) rfl rfl (sk_64 _) rfl rfl rfl h5 ?_
            refine sKi (p := 84) rfl rfl ?_
            refine sAd (p := 85) rfl rfl ?_
            refine sPi (z := (((a : Nat) : Int) + 1)) (p := 88) rfl rfl (sk_64 _) rfl rfl rfl rfl ?_
            refine sNp (p := 90) rfl rfl (by decide) ?_
            refine sL (pc' := 91) (i := .iload_n 1) rfl rfl ?_
            refine sI2c (p := 92) rfl rfl hya ?_
            refine sCkQ (p := 95) (as := [_]) rfl rfl rfl rfl (by decide) (Nat.le_of_ble_eq_true rfl) rfl (Nat.le_of_ble_eq_true rfl) rfl (by omega) (c_k1 hya) ?_
            rintro _ _ ⟨rfl, zz, rfl, hzr, hzz⟩
            refine sIf_lt (p := 98) rfl rfl hzr (fun c14 => ?_) (fun c14 => ?_)
            · have c14 := c14
              refine sKs (p := 105) rfl rfl ?_
              refine sEn (i := .ireturn) rfl (rfl) ?_
              rw [tK_s ha hL hD, tE_s ha hL hD, if_neg (show ¬ (y a = 61 ∧ bA y s (a + 1) = 62) by omega), if_neg (show ¬ (y a = 61 ∧ bA y s (a + 1) = 62) by omega), if_neg (show ¬ (y a = 60 ∧ bA y s (a + 1) = 61 ∧ bA y s (a + 2) = 62) by omega), if_neg (show ¬ (y a = 60 ∧ bA y s (a + 1) = 61 ∧ bA y s (a + 2) = 62) by omega)]
              rw [if_neg (by rw [hzz.mp (by omega)]; decide)]
              exact ⟨rfl, congrArg sH (congrArg (wI S 64 5) (by omega))⟩
            · have c14 := c14
              refine sL (pc' := 99) (i := .iload_n 1) rfl rfl ?_
              refine sL (i := .goto 6) rfl rfl ?_
              refine sEn (i := .ireturn) rfl (rfl) ?_
              rw [tK_s ha hL hD, tE_s ha hL hD, if_neg (show ¬ (y a = 61 ∧ bA y s (a + 1) = 62) by omega), if_neg (show ¬ (y a = 61 ∧ bA y s (a + 1) = 62) by omega), if_neg (show ¬ (y a = 60 ∧ bA y s (a + 1) = 61 ∧ bA y s (a + 2) = 62) by omega), if_neg (show ¬ (y a = 60 ∧ bA y s (a + 1) = 61 ∧ bA y s (a + 2) = 62) by omega)]
              rw [if_pos (by cases hq : isY (y a) with | true => rfl | false => exact absurd (hzz.mpr hq) (by omega))]
              exact ⟨rfl, congrArg sH (congrArg (wI S 64 5) (by omega))⟩
          · have c13 := c13
            refine sL (pc' := 65) (i := .aload_n 0) rfl rfl ?_
            refine sL (pc' := 66) (i := .dup) rfl rfl ?_
            refine sGi (p := 69) rfl rfl (sk_64 _) rfl rfl rfl h5 ?_
            refine sKi (p := 70) rfl rfl ?_
            refine sAd (p := 71) rfl rfl ?_
            refine sPi (z := (((a : Nat) : Int) + 3)) (p := 74) rfl rfl (sk_64 _) rfl rfl rfl rfl ?_
            refine sKs (p := 77) rfl rfl ?_
            refine sEn (i := .ireturn) rfl (rfl) ?_
            rw [tK_s ha hL hD, tE_s ha hL hD, if_neg (show ¬ (y a = 61 ∧ bA y s (a + 1) = 62) by omega), if_neg (show ¬ (y a = 61 ∧ bA y s (a + 1) = 62) by omega), if_pos (show y a = 60 ∧ bA y s (a + 1) = 61 ∧ bA y s (a + 2) = 62 from ⟨by omega, by omega, by omega⟩), if_pos (show y a = 60 ∧ bA y s (a + 1) = 61 ∧ bA y s (a + 2) = 62 from ⟨by omega, by omega, by omega⟩)]
            exact ⟨rfl, congrArg sH (congrArg (wI S 64 5) (by omega))⟩
    · have c8 := c8
      refine sL (pc' := 24) (i := .aload_n 0) rfl rfl ?_
      refine sL (pc' := 25) (i := .dup) rfl rfl ?_
      refine sGi (p := 28) rfl rfl (sk_64 _) rfl rfl rfl h5 ?_
      refine sKi (p := 29) rfl rfl ?_
      refine sAd (p := 30) rfl rfl ?_
      refine sPi (z := (((a : Nat) : Int) + 2)) (p := 33) rfl rfl (sk_64 _) rfl rfl rfl rfl ?_
      refine sKs (p := 36) rfl rfl ?_
      refine sEn (i := .ireturn) rfl (rfl) ?_
      rw [tK_s ha hL hD, tE_s ha hL hD, if_pos (show y a = 61 ∧ bA y s (a + 1) = 62 from ⟨by omega, by omega⟩), if_pos (show y a = 61 ∧ bA y s (a + 1) = 62 from ⟨by omega, by omega⟩)]
      exact ⟨rfl, congrArg sH (congrArg (wI S 64 5) (by omega))⟩
end SY
