/-! ===== the reference's tokens: next ===== -/
section MN
variable {X : List Int32} {S : ST} {y : Nat → Nat} {s a p : Nat} {kz : Int}
/-- where the next token starts -/
def nxB (S : ST) (a : Nat) : ST := wI (wI S 179 23 ((a : Nat) : Int)) 179 25 ((a : Nat) : Int)
theorem nx_bkL {u u' : Int} {v v' : Int64} : wI (wL (wL (wI S 179 23 u) 179 26 v) 179 26 v') 179 23 u' = wL (wI S 179 23 u') 179 26 v' := st_ext rfl (funext fun b => funext fun k => by
  show SI (wI (wI S 179 23 u) 179 23 u') b k = SI (wI S 179 23 u') b k
  rw [wI_wI]) (funext fun b => funext fun k => by
  show SL (wL (wL S 179 26 v) 179 26 v') b k = SL (wL S 179 26 v') b k
  rw [SL_wL, SL_wL, SL_wL]
  split <;> rfl) rfl
theorem nx_bkN {u u' z z' : Int} : wI (wI (wI (wI S 179 23 u) 179 27 z) 179 27 z') 179 23 u' = wI (wI S 179 23 u') 179 27 z' := st_ext rfl (funext fun b => funext fun k => by
  rw [wI_wI, SI_wI, SI_wI, SI_wI, SI_wI, SI_wI]
  by_cases c1 : b = 179 ∧ k = 23
  · rw [if_pos c1, if_neg (by omega), if_pos c1]
  · rw [if_neg c1]
    by_cases c2 : b = 179 ∧ k = 27
    · rw [if_pos c2, if_pos c2]
    · rw [if_neg c2, if_neg c2, if_neg c1, if_neg c1]) rfl rfl
theorem bA_y {q : Nat} (h : q < s) : bA y s q = ((y q : Nat) : Int) := by
  unfold bA
  rw [if_pos h]
theorem isL_b {q : Nat} (hy : ∀ j, y j < 256) : decide (97 ≤ bA y s q ∧ bA y s q ≤ 122) = decide (q < s ∧ isL (y q) = true) := by
  refine decide_eq_decide.mpr ?_
  unfold bA isL
  by_cases c : q < s
  · rw [if_pos c]
    constructor
    · intro h
      exact ⟨c, decide_eq_true (by omega)⟩
    · intro h
      have := of_decide_eq_true h.2
      omega
  · rw [if_neg c]
    constructor
    · intro h
      omega
    · intro h
      exact absurd h.1 c
theorem isD_b {q : Nat} (hy : ∀ j, y j < 256) : decide (48 ≤ bA y s q ∧ bA y s q ≤ 57) = decide (q < s ∧ isD (y q) = true) := by
  refine decide_eq_decide.mpr ?_
  unfold bA isD
  by_cases c : q < s
  · rw [if_pos c]
    constructor
    · intro h
      exact ⟨c, decide_eq_true (by omega)⟩
    · intro h
      have := of_decide_eq_true h.2
      omega
  · rw [if_neg c]
    constructor
    · intro h
      omega
    · intro h
      exact absurd h.1 c
theorem mtB (ht : mt S y s) : mt (nxB S a) y s := mt_w (mt_w ht (by decide)) (by decide)
theorem m_next_e (ht : mt S y s) (hp : SI S 179 23 = ((p : Nat) : Int)) (hpl : p ≤ s) (hk : SI S 179 14 = kz) (hz : 0 ≤ kz ∧ kz ≤ 5) (ha : a = rE isB y s p) (hc : a = s) : sM X 2 197 [.ref 179] S (sV none (wI (nxB S a) 179 24 0)) := by
  have hs := ht.1
  have hr := rE_ok (p := isB) (y := y) hpl
  rw [← ha] at hr
  obtain ⟨L0, hL0⟩ : ∃ L0, p + L0 = a := ⟨a - p, by omega⟩
  have htB := mtB (a := a) ht
  have hbb := bA_b (y := y) (s := s) ht.2.1
  have hba : bA y s a = -1 := by unfold bA; rw [if_neg (by omega)]
  refine sIni (ls := [some (.ref 179), none]) rfl ?_
  refine sL (pc' := 1) (i := .aload_n 0) rfl rfl ?_
  refine sCv (p := 4) (as := []) rfl rfl rfl rfl (by decide) (Nat.le_of_ble_eq_true rfl) rfl (Nat.le_of_ble_eq_true rfl) (sk_179 _) rfl (by omega) (m_skip (L := L0) ht hp (by omega) (fun j hj => hr.2.1 _ (by omega) (by omega)) (fun h => by rw [hL0] at h ⊢; exact hr.2.2 h)) ?_
  rw [hL0]
  refine sL (pc' := 5) (i := .aload_n 0) rfl rfl ?_
  refine sL (pc' := 6) (i := .aload_n 0) rfl rfl ?_
  refine sGi (p := 9) rfl rfl (sk_179 _) rfl rfl rfl rI_at ?_
  refine sPi (z := ((a : Nat) : Int)) (p := 12) rfl rfl (sk_179 _) rfl rfl rfl rfl ?_
  refine sL (pc' := 13) (i := .aload_n 0) rfl rfl ?_
  refine sL (pc' := 14) (i := .aload_n 0) rfl rfl ?_
  refine sGi (p := 17) rfl rfl (sk_179 _) rfl rfl rfl ((rI_nj (by decide)).trans rI_at) ?_
  refine sCv (p := 20) (as := [_]) rfl rfl rfl rfl (by decide) (Nat.le_of_ble_eq_true rfl) rfl (Nat.le_of_ble_eq_true rfl) (sk_179 _) rfl (by omega) (m_look (S := nxB S a) (p := a) htB (by omega)) ?_
  rw [hba]
  refine sL (pc' := 21) (i := .istore_n 1) (ls' := [some (.ref 179), some (.int (iI (-1)))]) rfl rfl ?_
  refine sL (pc' := 22) (i := .iload_n 1) rfl rfl ?_
  refine sKi (p := 23) rfl rfl ?_
  refine sIc_ne (p := 26) rfl rfl ⟨by omega, by omega⟩ ⟨by omega, by omega⟩ (fun c1 => ?_) (fun c1 => ?_)
  · exact absurd c1 (by decide)
  · have c1 := c1
    refine sL (pc' := 27) (i := .aload_n 0) rfl rfl ?_
    refine sKi (p := 28) rfl rfl ?_
    refine sPi (z := 0) (p := 31) rfl rfl (sk_179 _) rfl rfl rfl rfl ?_
    refine sL (i := .goto 327) rfl rfl ?_
    refine sEn (i := .return_) rfl (rfl) ?_
    exact ⟨rfl, rfl⟩
theorem m_next_s (ht : mt S y s) (hp : SI S 179 23 = ((p : Nat) : Int)) (hpl : p ≤ s) (hk : SI S 179 14 = kz) (hz : 0 ≤ kz ∧ kz ≤ 5) (ha : a = rE isB y s p) (hc : a < s) (hL : isL (y a) = false) (hD : isD (y a) = false) : sM X 2 197 [.ref 179] S (sV none (sgS (nxB S a) y s a kz)) := by
  have hs := ht.1
  have hr := rE_ok (p := isB) (y := y) hpl
  rw [← ha] at hr
  obtain ⟨L0, hL0⟩ : ∃ L0, p + L0 = a := ⟨a - p, by omega⟩
  have htB := mtB (a := a) ht
  have hbb := bA_b (y := y) (s := s) ht.2.1
  have hba := bA_y (y := y) hc
  have hya := ht.2.1 a
  have eL : decide (97 ≤ ((y a : Nat) : Int) ∧ ((y a : Nat) : Int) ≤ 122) = false := decide_eq_false (fun z => by have := of_decide_eq_false hL; omega)
  have eD : decide (48 ≤ ((y a : Nat) : Int) ∧ ((y a : Nat) : Int) ≤ 57) = false := decide_eq_false (fun z => by have := of_decide_eq_false hD; omega)
  refine sIni (ls := [some (.ref 179), none]) rfl ?_
  refine sL (pc' := 1) (i := .aload_n 0) rfl rfl ?_
  refine sCv (p := 4) (as := []) rfl rfl rfl rfl (by decide) (Nat.le_of_ble_eq_true rfl) rfl (Nat.le_of_ble_eq_true rfl) (sk_179 _) rfl (by omega) (m_skip (L := L0) ht hp (by omega) (fun j hj => hr.2.1 _ (by omega) (by omega)) (fun h => by rw [hL0] at h ⊢; exact hr.2.2 h)) ?_
  rw [hL0]
  refine sL (pc' := 5) (i := .aload_n 0) rfl rfl ?_
  refine sL (pc' := 6) (i := .aload_n 0) rfl rfl ?_
  refine sGi (p := 9) rfl rfl (sk_179 _) rfl rfl rfl rI_at ?_
  refine sPi (z := ((a : Nat) : Int)) (p := 12) rfl rfl (sk_179 _) rfl rfl rfl rfl ?_
  refine sL (pc' := 13) (i := .aload_n 0) rfl rfl ?_
  refine sL (pc' := 14) (i := .aload_n 0) rfl rfl ?_
  refine sGi (p := 17) rfl rfl (sk_179 _) rfl rfl rfl ((rI_nj (by decide)).trans rI_at) ?_
  refine sCv (p := 20) (as := [_]) rfl rfl rfl rfl (by decide) (Nat.le_of_ble_eq_true rfl) rfl (Nat.le_of_ble_eq_true rfl) (sk_179 _) rfl (by omega) (m_look (S := nxB S a) (p := a) htB (by omega)) ?_
  rw [hba]
  refine sL (pc' := 21) (i := .istore_n 1) (ls' := [some (.ref 179), some (.int (iI ((y a : Nat) : Int)))]) rfl rfl ?_
  refine sL (pc' := 22) (i := .iload_n 1) rfl rfl ?_
  refine sKi (p := 23) rfl rfl ?_
  refine sIc_ne (p := 26) rfl rfl ⟨by omega, by omega⟩ ⟨by omega, by omega⟩ (fun c1 => ?_) (fun c1 => ?_)
  · have c1 := c1
    refine sL (pc' := 35) (i := .iload_n 1) rfl rfl ?_
    refine sCs (p := 38) (as := [_]) rfl rfl rfl rfl (by decide) (Nat.le_of_ble_eq_true rfl) rfl (Nat.le_of_ble_eq_true rfl) rfl (by omega) (m_isLetter (c := ((y a : Nat) : Int)) ⟨by omega, by omega⟩) ?_
    rw [eL]
    refine sBe (p := 41) rfl rfl (fun c2 => ?_) (fun c2 => ?_)
    · have c2 := c2
      refine sL (pc' := 238) (i := .iload_n 1) rfl rfl ?_
      refine sCs (p := 241) (as := [_]) rfl rfl rfl rfl (by decide) (Nat.le_of_ble_eq_true rfl) rfl (Nat.le_of_ble_eq_true rfl) rfl (by omega) (m_isDigit (c := ((y a : Nat) : Int)) ⟨by omega, by omega⟩) ?_
      rw [eD]
      refine sBe (p := 244) rfl rfl (fun c3 => ?_) (fun c3 => ?_)
      · have c3 := c3
        refine sL (pc' := 354) (i := .aload_n 0) rfl rfl ?_
        refine sL (pc' := 355) (i := .iload_n 1) rfl rfl ?_
        refine sCv (p := 358) (as := [_]) rfl rfl rfl rfl (by decide) (Nat.le_of_ble_eq_true rfl) rfl (Nat.le_of_ble_eq_true rfl) (sk_179 _) rfl (by omega) (m_sign (S := nxB S a) htB ((rI_nj (by decide)).trans rI_at) rI_at ((rI_nj (by decide)).trans ((rI_nj (by decide)).trans hk)) hz hc hL hD) ?_
        refine sEn (i := .return_) rfl (rfl) ?_
        exact ⟨rfl, rfl⟩
      · exact absurd c3 (by decide)
    · exact absurd c2 (by decide)
  · exfalso; omega
theorem m_next_w {L : Nat} (ht : mt S y s) (hp : SI S 179 23 = ((p : Nat) : Int)) (hpl : p ≤ s) (hk : SI S 179 14 = kz) (hz : 0 ≤ kz ∧ kz ≤ 5) (ha : a = rE isB y s p) (hc : a < s) (hL : isL (y a) = true) (hLe : a + L = rE isW y s a) (hL6 : L ≤ 6) : sM X 2 197 [.ref 179] S (sV none (wI (wL (wI (nxB S a) 179 23 ((a + L : Nat) : Int)) 179 26 (wv y a L)) 179 24 (if wv y a L = lI 1953658213 then 3 else if wv y a L = lI 439721161573 then 4 else if wv y a L = lI 1936682341 then 5 else if wv y a L = lI 6384748 then 6 else 1))) := by
  have hs := ht.1
  have hr := rE_ok (p := isB) (y := y) hpl
  rw [← ha] at hr
  obtain ⟨L0, hL0⟩ : ∃ L0, p + L0 = a := ⟨a - p, by omega⟩
  have htB := mtB (a := a) ht
  have hbb := bA_b (y := y) (s := s) ht.2.1
  have hba := bA_y (y := y) hc
  have hya := ht.2.1 a
  have hw := rE_ok (p := isW) (y := y) (a := a) (s := s) (by omega)
  have eL : decide (97 ≤ ((y a : Nat) : Int) ∧ ((y a : Nat) : Int) ≤ 122) = true := decide_eq_true (by have := of_decide_eq_true hL; omega)
  refine sIni (ls := [some (.ref 179), none]) rfl ?_
  refine sL (pc' := 1) (i := .aload_n 0) rfl rfl ?_
  refine sCv (p := 4) (as := []) rfl rfl rfl rfl (by decide) (Nat.le_of_ble_eq_true rfl) rfl (Nat.le_of_ble_eq_true rfl) (sk_179 _) rfl (by omega) (m_skip (L := L0) ht hp (by omega) (fun j hj => hr.2.1 _ (by omega) (by omega)) (fun h => by rw [hL0] at h ⊢; exact hr.2.2 h)) ?_
  rw [hL0]
  refine sL (pc' := 5) (i := .aload_n 0) rfl rfl ?_
  refine sL (pc' := 6) (i := .aload_n 0) rfl rfl ?_
  refine sGi (p := 9) rfl rfl (sk_179 _) rfl rfl rfl rI_at ?_
  refine sPi (z := ((a : Nat) : Int)) (p := 12) rfl rfl (sk_179 _) rfl rfl rfl rfl ?_
  refine sL (pc' := 13) (i := .aload_n 0) rfl rfl ?_
  refine sL (pc' := 14) (i := .aload_n 0) rfl rfl ?_
  refine sGi (p := 17) rfl rfl (sk_179 _) rfl rfl rfl ((rI_nj (by decide)).trans rI_at) ?_
  refine sCv (p := 20) (as := [_]) rfl rfl rfl rfl (by decide) (Nat.le_of_ble_eq_true rfl) rfl (Nat.le_of_ble_eq_true rfl) (sk_179 _) rfl (by omega) (m_look (S := nxB S a) (p := a) htB (by omega)) ?_
  rw [hba]
  refine sL (pc' := 21) (i := .istore_n 1) (ls' := [some (.ref 179), some (.int (iI ((y a : Nat) : Int)))]) rfl rfl ?_
  refine sL (pc' := 22) (i := .iload_n 1) rfl rfl ?_
  refine sKi (p := 23) rfl rfl ?_
  refine sIc_ne (p := 26) rfl rfl ⟨by omega, by omega⟩ ⟨by omega, by omega⟩ (fun c1 => ?_) (fun c1 => ?_)
  · have c1 := c1
    refine sL (pc' := 35) (i := .iload_n 1) rfl rfl ?_
    refine sCs (p := 38) (as := [_]) rfl rfl rfl rfl (by decide) (Nat.le_of_ble_eq_true rfl) rfl (Nat.le_of_ble_eq_true rfl) rfl (by omega) (m_isLetter (c := ((y a : Nat) : Int)) ⟨by omega, by omega⟩) ?_
    rw [eL]
    refine sBe (p := 41) rfl rfl (fun c2 => ?_) (fun c2 => ?_)
    · exact absurd c2 (by decide)
    · have c2 := c2
      refine sL (pc' := 42) (i := .aload_n 0) rfl rfl ?_
      refine sKj0 (p := 43) rfl rfl rfl ?_
      refine sPl (p := 46) rfl rfl (sk_179 _) rfl rfl rfl rfl ?_
      refine sSh (T := (wL (wI (nxB S a) 179 23 ((a + 0 : Nat) : Int)) 179 26 (wv y a 0))) (congrArg (fun T => sH (wL T 179 26 (lI 0))) (wI_self (S := nxB S a) ((rI_nj (by decide)).trans rI_at)).symm) ?_
      refine sIt (A := fun k => [some (.ref 179), some (.int (iI ((y a : Nat) : Int)))]) (B := fun k => (wL (wI (nxB S a) 179 23 ((a + k : Nat) : Int)) 179 26 (wv y a k))) (fun _ => True) L True.intro (fun k hi46 hI46 ih46 => ?_) (fun hI46 => ?_)
      · have hi46 := hi46
        have hw1 := hw.2.1 (a + k) (by omega) (by omega)
        have hyk := ht.2.1 (a + k)
        have hbk := bA_y (y := y) (show a + k < s by omega)
        refine sL (pc' := 47) (i := .aload_n 0) rfl rfl ?_
        refine sL (pc' := 48) (i := .aload_n 0) rfl rfl ?_
        refine sGi (p := 51) rfl rfl (sk_179 _) rfl rfl rfl (show SI (wL (wI (nxB S a) 179 23 ((a + k : Nat) : Int)) 179 26 (wv y a k)) 179 23 = ((a + k : Nat) : Int) from rI_at (S := nxB S a) (a := 179) (i := 23) (z := ((a + k : Nat) : Int))) ?_
        refine sCv (p := 54) (as := [_]) rfl rfl rfl rfl (by decide) (Nat.le_of_ble_eq_true rfl) rfl (Nat.le_of_ble_eq_true rfl) (sk_179 _) rfl (by omega) (m_look (S := (wL (wI (nxB S a) 179 23 ((a + k : Nat) : Int)) 179 26 (wv y a k))) (p := a + k) (show mt (wL (wI (nxB S a) 179 23 ((a + k : Nat) : Int)) 179 26 (wv y a k)) y s from mt_w (S := nxB S a) (c := 179) (k := 23) (z := ((a + k : Nat) : Int)) htB (by decide)) (by omega)) ?_
        refine sCs (p := 57) (as := [_]) rfl rfl rfl rfl (by decide) (Nat.le_of_ble_eq_true rfl) rfl (Nat.le_of_ble_eq_true rfl) rfl (by omega) (m_isLetter (c := bA y s (a + k)) ⟨by have := hbb (a + k); omega, by have := hbb (a + k); omega⟩) ?_
        rw [isL_b ht.2.1]
        refine sBn (p := 60) rfl rfl (fun c3 => ?_) (fun c3 => ?_)
        · have c3 := c3
          have c3 := of_decide_eq_true c3
          refine sL (pc' := 75) (i := .aload_n 0) rfl rfl ?_
          refine sGi (p := 78) rfl rfl (sk_179 _) rfl rfl rfl (show SI (wL (wI (nxB S a) 179 23 ((a + k : Nat) : Int)) 179 26 (wv y a k)) 179 23 = ((a + k : Nat) : Int) from rI_at (S := nxB S a) (a := 179) (i := 23) (z := ((a + k : Nat) : Int))) ?_
          refine sL (pc' := 79) (i := .aload_n 0) rfl rfl ?_
          refine sGi (p := 82) (z := ((a : Nat) : Int)) rfl rfl (sk_179 _) rfl rfl rfl rfl ?_
          refine sSb (p := 83) rfl rfl ?_
          refine sKb (p := 85) rfl rfl ?_
          refine sIc_ne (p := 88) rfl rfl ⟨by omega, by omega⟩ ⟨by omega, by omega⟩ (fun c4 => ?_) (fun c4 => ?_)
          · have c4 := c4
            refine sL (pc' := 99) (i := .aload_n 0) rfl rfl ?_
            refine sL (pc' := 100) (i := .aload_n 0) rfl rfl ?_
            refine sGl (p := 103) rfl rfl (sk_179 _) rfl rfl rfl (show SL (wL (wI (nxB S a) 179 23 ((a + k : Nat) : Int)) 179 26 (wv y a k)) 179 26 = wv y a k from by rw [SL_wL, if_pos ⟨rfl, rfl⟩]) ?_
            refine sKb (p := 105) rfl rfl ?_
            refine sL (pc' := 106) (i := .lshl) (st' := [.long (wv y a k <<< ((iI 8).toInt64 &&& 63)), .ref 179]) rfl rfl ?_
            refine sL (pc' := 107) (i := .aload_n 0) rfl rfl ?_
            refine sL (pc' := 108) (i := .aload_n 0) rfl rfl ?_
            refine sGi (p := 111) rfl rfl (sk_179 _) rfl rfl rfl (show SI (wL (wI (nxB S a) 179 23 ((a + k : Nat) : Int)) 179 26 (wv y a k)) 179 23 = ((a + k : Nat) : Int) from rI_at (S := nxB S a) (a := 179) (i := 23) (z := ((a + k : Nat) : Int))) ?_
            refine sCv (p := 114) (as := [_]) rfl rfl rfl rfl (by decide) (Nat.le_of_ble_eq_true rfl) rfl (Nat.le_of_ble_eq_true rfl) (sk_179 _) rfl (by omega) (m_look (S := (wL (wI (nxB S a) 179 23 ((a + k : Nat) : Int)) 179 26 (wv y a k))) (p := a + k) (show mt (wL (wI (nxB S a) 179 23 ((a + k : Nat) : Int)) 179 26 (wv y a k)) y s from mt_w (S := nxB S a) (c := 179) (k := 23) (z := ((a + k : Nat) : Int)) htB (by decide)) (by omega)) ?_
            rw [hbk]
            refine sI2l (p := 115) rfl rfl ⟨by omega, by omega⟩ ?_
            refine sL (pc' := 116) (i := .lor) rfl rfl ?_
            refine sPl (p := 119) rfl rfl (sk_179 _) rfl rfl rfl rfl ?_
            refine sL (pc' := 120) (i := .aload_n 0) rfl rfl ?_
            refine sL (pc' := 121) (i := .dup) rfl rfl ?_
            refine sGi (p := 124) rfl rfl (sk_179 _) rfl rfl rfl (show SI (wL (wI (nxB S a) 179 23 ((a + k : Nat) : Int)) 179 26 (wv y a k)) 179 23 = ((a + k : Nat) : Int) from rI_at (S := nxB S a) (a := 179) (i := 23) (z := ((a + k : Nat) : Int))) ?_
            refine sKi (p := 125) rfl rfl ?_
            refine sAd (p := 126) rfl rfl ?_
            refine sPi (z := (((a + k : Nat) : Int) + 1)) (p := 129) rfl rfl (sk_179 _) rfl rfl rfl rfl ?_
            refine sL (i := .goto (-83)) rfl rfl ?_
            refine sRo (ls := [some (.ref 179), some (.int (iI ((y a : Nat) : Int)))]) (T := (wL (wI (nxB S a) 179 23 ((a + (k + 1) : Nat) : Int)) 179 26 (wv y a (k + 1)))) (And.intro rfl (And.intro rfl (True.intro))) (congrArg sH (nx_bkL.trans (congrArg (fun u => wL (wI (nxB S a) 179 23 u) 179 26 (wv y a (k + 1))) (by omega)))) (ih46 ?_)
            exact True.intro
          · exfalso; omega
        · have c3 := c3
          have c3 := of_decide_eq_false c3
          refine sL (pc' := 61) (i := .aload_n 0) rfl rfl ?_
          refine sL (pc' := 62) (i := .aload_n 0) rfl rfl ?_
          refine sGi (p := 65) rfl rfl (sk_179 _) rfl rfl rfl (show SI (wL (wI (nxB S a) 179 23 ((a + k : Nat) : Int)) 179 26 (wv y a k)) 179 23 = ((a + k : Nat) : Int) from rI_at (S := nxB S a) (a := 179) (i := 23) (z := ((a + k : Nat) : Int))) ?_
          refine sCv (p := 68) (as := [_]) rfl rfl rfl rfl (by decide) (Nat.le_of_ble_eq_true rfl) rfl (Nat.le_of_ble_eq_true rfl) (sk_179 _) rfl (by omega) (m_look (S := (wL (wI (nxB S a) 179 23 ((a + k : Nat) : Int)) 179 26 (wv y a k))) (p := a + k) (show mt (wL (wI (nxB S a) 179 23 ((a + k : Nat) : Int)) 179 26 (wv y a k)) y s from mt_w (S := nxB S a) (c := 179) (k := 23) (z := ((a + k : Nat) : Int)) htB (by decide)) (by omega)) ?_
          refine sCs (p := 71) (as := [_]) rfl rfl rfl rfl (by decide) (Nat.le_of_ble_eq_true rfl) rfl (Nat.le_of_ble_eq_true rfl) rfl (by omega) (m_isDigit (c := bA y s (a + k)) ⟨by have := hbb (a + k); omega, by have := hbb (a + k); omega⟩) ?_
          rw [isD_b ht.2.1]
          refine sBe (p := 74) rfl rfl (fun c5 => ?_) (fun c5 => ?_)
          · exfalso; have c5 := of_decide_eq_false c5; have cL : ¬ (a + k < s ∧ isL (y (a + k)) = true) := (by assumption); have cD : ¬ (a + k < s ∧ isD (y (a + k)) = true) := (by assumption); unfold isW at hw1; rcases Bool.or_eq_true_iff.mp hw1 with z | z <;> first | exact cL ⟨by omega, z⟩ | exact cD ⟨by omega, z⟩
          · have c5 := c5
            have c5 := of_decide_eq_true c5
            refine sL (pc' := 75) (i := .aload_n 0) rfl rfl ?_
            refine sGi (p := 78) rfl rfl (sk_179 _) rfl rfl rfl (show SI (wL (wI (nxB S a) 179 23 ((a + k : Nat) : Int)) 179 26 (wv y a k)) 179 23 = ((a + k : Nat) : Int) from rI_at (S := nxB S a) (a := 179) (i := 23) (z := ((a + k : Nat) : Int))) ?_
            refine sL (pc' := 79) (i := .aload_n 0) rfl rfl ?_
            refine sGi (p := 82) (z := ((a : Nat) : Int)) rfl rfl (sk_179 _) rfl rfl rfl rfl ?_
            refine sSb (p := 83) rfl rfl ?_
            refine sKb (p := 85) rfl rfl ?_
            refine sIc_ne (p := 88) rfl rfl ⟨by omega, by omega⟩ ⟨by omega, by omega⟩ (fun c6 => ?_) (fun c6 => ?_)
            · have c6 := c6
              refine sL (pc' := 99) (i := .aload_n 0) rfl rfl ?_
              refine sL (pc' := 100) (i := .aload_n 0) rfl rfl ?_
              refine sGl (p := 103) rfl rfl (sk_179 _) rfl rfl rfl (show SL (wL (wI (nxB S a) 179 23 ((a + k : Nat) : Int)) 179 26 (wv y a k)) 179 26 = wv y a k from by rw [SL_wL, if_pos ⟨rfl, rfl⟩]) ?_
              refine sKb (p := 105) rfl rfl ?_
              refine sL (pc' := 106) (i := .lshl) (st' := [.long (wv y a k <<< ((iI 8).toInt64 &&& 63)), .ref 179]) rfl rfl ?_
              refine sL (pc' := 107) (i := .aload_n 0) rfl rfl ?_
              refine sL (pc' := 108) (i := .aload_n 0) rfl rfl ?_
              refine sGi (p := 111) rfl rfl (sk_179 _) rfl rfl rfl (show SI (wL (wI (nxB S a) 179 23 ((a + k : Nat) : Int)) 179 26 (wv y a k)) 179 23 = ((a + k : Nat) : Int) from rI_at (S := nxB S a) (a := 179) (i := 23) (z := ((a + k : Nat) : Int))) ?_
              refine sCv (p := 114) (as := [_]) rfl rfl rfl rfl (by decide) (Nat.le_of_ble_eq_true rfl) rfl (Nat.le_of_ble_eq_true rfl) (sk_179 _) rfl (by omega) (m_look (S := (wL (wI (nxB S a) 179 23 ((a + k : Nat) : Int)) 179 26 (wv y a k))) (p := a + k) (show mt (wL (wI (nxB S a) 179 23 ((a + k : Nat) : Int)) 179 26 (wv y a k)) y s from mt_w (S := nxB S a) (c := 179) (k := 23) (z := ((a + k : Nat) : Int)) htB (by decide)) (by omega)) ?_
              rw [hbk]
              refine sI2l (p := 115) rfl rfl ⟨by omega, by omega⟩ ?_
              refine sL (pc' := 116) (i := .lor) rfl rfl ?_
              refine sPl (p := 119) rfl rfl (sk_179 _) rfl rfl rfl rfl ?_
              refine sL (pc' := 120) (i := .aload_n 0) rfl rfl ?_
              refine sL (pc' := 121) (i := .dup) rfl rfl ?_
              refine sGi (p := 124) rfl rfl (sk_179 _) rfl rfl rfl (show SI (wL (wI (nxB S a) 179 23 ((a + k : Nat) : Int)) 179 26 (wv y a k)) 179 23 = ((a + k : Nat) : Int) from rI_at (S := nxB S a) (a := 179) (i := 23) (z := ((a + k : Nat) : Int))) ?_
              refine sKi (p := 125) rfl rfl ?_
              refine sAd (p := 126) rfl rfl ?_
              refine sPi (z := (((a + k : Nat) : Int) + 1)) (p := 129) rfl rfl (sk_179 _) rfl rfl rfl rfl ?_
              refine sL (i := .goto (-83)) rfl rfl ?_
              refine sRo (ls := [some (.ref 179), some (.int (iI ((y a : Nat) : Int)))]) (T := (wL (wI (nxB S a) 179 23 ((a + (k + 1) : Nat) : Int)) 179 26 (wv y a (k + 1)))) (And.intro rfl (And.intro rfl (True.intro))) (congrArg sH (nx_bkL.trans (congrArg (fun u => wL (wI (nxB S a) 179 23 u) 179 26 (wv y a (k + 1))) (by omega)))) (ih46 ?_)
              exact True.intro
            · exfalso; omega
      · have hI46 := hI46
        have hf1 : a + L < s → isW (y (a + L)) = false := fun h => by have h9 := hw.2.2 (by omega); rw [← hLe] at h9; exact h9
        refine sL (pc' := 47) (i := .aload_n 0) rfl rfl ?_
        refine sL (pc' := 48) (i := .aload_n 0) rfl rfl ?_
        refine sGi (p := 51) rfl rfl (sk_179 _) rfl rfl rfl (show SI (wL (wI (nxB S a) 179 23 ((a + L : Nat) : Int)) 179 26 (wv y a L)) 179 23 = ((a + L : Nat) : Int) from rI_at (S := nxB S a) (a := 179) (i := 23) (z := ((a + L : Nat) : Int))) ?_
        refine sCv (p := 54) (as := [_]) rfl rfl rfl rfl (by decide) (Nat.le_of_ble_eq_true rfl) rfl (Nat.le_of_ble_eq_true rfl) (sk_179 _) rfl (by omega) (m_look (S := (wL (wI (nxB S a) 179 23 ((a + L : Nat) : Int)) 179 26 (wv y a L))) (p := a + L) (show mt (wL (wI (nxB S a) 179 23 ((a + L : Nat) : Int)) 179 26 (wv y a L)) y s from mt_w (S := nxB S a) (c := 179) (k := 23) (z := ((a + L : Nat) : Int)) htB (by decide)) (by omega)) ?_
        refine sCs (p := 57) (as := [_]) rfl rfl rfl rfl (by decide) (Nat.le_of_ble_eq_true rfl) rfl (Nat.le_of_ble_eq_true rfl) rfl (by omega) (m_isLetter (c := bA y s (a + L)) ⟨by have := hbb (a + L); omega, by have := hbb (a + L); omega⟩) ?_
        rw [isL_b ht.2.1]
        refine sBn (p := 60) rfl rfl (fun c7 => ?_) (fun c7 => ?_)
        · exfalso; have c7 := of_decide_eq_true c7; have cL : a + L < s ∧ isL (y (a + L)) = true := (by assumption); have h9 := hf1 cL.1; unfold isW at h9; rw [cL.2, Bool.true_or] at h9; cases h9
        · have c7 := c7
          have c7 := of_decide_eq_false c7
          refine sL (pc' := 61) (i := .aload_n 0) rfl rfl ?_
          refine sL (pc' := 62) (i := .aload_n 0) rfl rfl ?_
          refine sGi (p := 65) rfl rfl (sk_179 _) rfl rfl rfl (show SI (wL (wI (nxB S a) 179 23 ((a + L : Nat) : Int)) 179 26 (wv y a L)) 179 23 = ((a + L : Nat) : Int) from rI_at (S := nxB S a) (a := 179) (i := 23) (z := ((a + L : Nat) : Int))) ?_
          refine sCv (p := 68) (as := [_]) rfl rfl rfl rfl (by decide) (Nat.le_of_ble_eq_true rfl) rfl (Nat.le_of_ble_eq_true rfl) (sk_179 _) rfl (by omega) (m_look (S := (wL (wI (nxB S a) 179 23 ((a + L : Nat) : Int)) 179 26 (wv y a L))) (p := a + L) (show mt (wL (wI (nxB S a) 179 23 ((a + L : Nat) : Int)) 179 26 (wv y a L)) y s from mt_w (S := nxB S a) (c := 179) (k := 23) (z := ((a + L : Nat) : Int)) htB (by decide)) (by omega)) ?_
          refine sCs (p := 71) (as := [_]) rfl rfl rfl rfl (by decide) (Nat.le_of_ble_eq_true rfl) rfl (Nat.le_of_ble_eq_true rfl) rfl (by omega) (m_isDigit (c := bA y s (a + L)) ⟨by have := hbb (a + L); omega, by have := hbb (a + L); omega⟩) ?_
          rw [isD_b ht.2.1]
          refine sBe (p := 74) rfl rfl (fun c8 => ?_) (fun c8 => ?_)
          · have c8 := c8
            have c8 := of_decide_eq_false c8
            refine sL (pc' := 133) (i := .aload_n 0) rfl rfl ?_
            refine sL (pc' := 134) (i := .aload_n 0) rfl rfl ?_
            refine sGl (p := 137) rfl rfl (sk_179 _) rfl rfl rfl (show SL (wL (wI (nxB S a) 179 23 ((a + L : Nat) : Int)) 179 26 (wv y a L)) 179 26 = wv y a L from by rw [SL_wL, if_pos ⟨rfl, rfl⟩]) ?_
            refine sKb (p := 139) rfl rfl ?_
            refine sKb (p := 141) rfl rfl ?_
            refine sKb (p := 143) rfl rfl ?_
            refine sKb (p := 145) rfl rfl ?_
            refine sKi (p := 146) rfl rfl ?_
            refine sCs (p := 149) (as := [_, _, _, _, _]) rfl rfl rfl rfl (by decide) (Nat.le_of_ble_eq_true rfl) rfl (Nat.le_of_ble_eq_true rfl) rfl (by omega) (m_word_true) ?_
            refine sLq_ne (p := 153) rfl rfl rfl (fun c9 => ?_) (fun c9 => ?_)
            · have c9 := c9
              refine sL (pc' := 158) (i := .aload_n 0) rfl rfl ?_
              refine sGl (p := 161) rfl rfl (sk_179 _) rfl rfl rfl (show SL (wL (wI (nxB S a) 179 23 ((a + L : Nat) : Int)) 179 26 (wv y a L)) 179 26 = wv y a L from by rw [SL_wL, if_pos ⟨rfl, rfl⟩]) ?_
              refine sKb (p := 163) rfl rfl ?_
              refine sKb (p := 165) rfl rfl ?_
              refine sKb (p := 167) rfl rfl ?_
              refine sKb (p := 169) rfl rfl ?_
              refine sKb (p := 171) rfl rfl ?_
              refine sCs (p := 174) (as := [_, _, _, _, _]) rfl rfl rfl rfl (by decide) (Nat.le_of_ble_eq_true rfl) rfl (Nat.le_of_ble_eq_true rfl) rfl (by omega) (m_word_false) ?_
              refine sLq_ne (p := 178) rfl rfl rfl (fun c10 => ?_) (fun c10 => ?_)
              · have c10 := c10
                refine sL (pc' := 183) (i := .aload_n 0) rfl rfl ?_
                refine sGl (p := 186) rfl rfl (sk_179 _) rfl rfl rfl (show SL (wL (wI (nxB S a) 179 23 ((a + L : Nat) : Int)) 179 26 (wv y a L)) 179 26 = wv y a L from by rw [SL_wL, if_pos ⟨rfl, rfl⟩]) ?_
                refine sKb (p := 188) rfl rfl ?_
                refine sKb (p := 190) rfl rfl ?_
                refine sKb (p := 192) rfl rfl ?_
                refine sKb (p := 194) rfl rfl ?_
                refine sKi (p := 195) rfl rfl ?_
                refine sCs (p := 198) (as := [_, _, _, _, _]) rfl rfl rfl rfl (by decide) (Nat.le_of_ble_eq_true rfl) rfl (Nat.le_of_ble_eq_true rfl) rfl (by omega) (m_word_some) ?_
                refine sLq_ne (p := 202) rfl rfl rfl (fun c11 => ?_) (fun c11 => ?_)
                · have c11 := c11
                  refine sL (pc' := 207) (i := .aload_n 0) rfl rfl ?_
                  refine sGl (p := 210) rfl rfl (sk_179 _) rfl rfl rfl (show SL (wL (wI (nxB S a) 179 23 ((a + L : Nat) : Int)) 179 26 (wv y a L)) 179 26 = wv y a L from by rw [SL_wL, if_pos ⟨rfl, rfl⟩]) ?_
                  refine sKb (p := 212) rfl rfl ?_
                  refine sKb (p := 214) rfl rfl ?_
                  refine sKb (p := 216) rfl rfl ?_
                  refine sKi (p := 217) rfl rfl ?_
                  refine sKi (p := 218) rfl rfl ?_
                  refine sCs (p := 221) (as := [_, _, _, _, _]) rfl rfl rfl rfl (by decide) (Nat.le_of_ble_eq_true rfl) rfl (Nat.le_of_ble_eq_true rfl) rfl (by omega) (m_word_all) ?_
                  refine sLq_ne (p := 225) rfl rfl rfl (fun c12 => ?_) (fun c12 => ?_)
                  · have c12 := c12
                    refine sKi (p := 231) rfl rfl ?_
                    refine sPi (z := 1) (p := 234) rfl rfl (sk_179 _) rfl rfl rfl rfl ?_
                    refine sL (i := .goto 124) rfl rfl ?_
                    refine sEn (i := .return_) rfl (rfl) ?_
                    exact ⟨rfl, congrArg (fun u => sH (wI (wL (wI (nxB S a) 179 23 ((a + L : Nat) : Int)) 179 26 (wv y a L)) 179 24 u)) (show (1 : Int) = (if wv y a L = lI 1953658213 then 3 else if wv y a L = lI 439721161573 then 4 else if wv y a L = lI 1936682341 then 5 else if wv y a L = lI 6384748 then 6 else 1) from by rw [if_neg (by assumption), if_neg (by assumption), if_neg (by assumption), if_neg (by assumption)])⟩
                  · have c12 := c12
                    refine sKb (p := 227) rfl rfl ?_
                    refine sL (i := .goto 4) rfl rfl ?_
                    refine sPi (z := 6) (p := 234) rfl rfl (sk_179 _) rfl rfl rfl rfl ?_
                    refine sL (i := .goto 124) rfl rfl ?_
                    refine sEn (i := .return_) rfl (rfl) ?_
                    exact ⟨rfl, congrArg (fun u => sH (wI (wL (wI (nxB S a) 179 23 ((a + L : Nat) : Int)) 179 26 (wv y a L)) 179 24 u)) (show (6 : Int) = (if wv y a L = lI 1953658213 then 3 else if wv y a L = lI 439721161573 then 4 else if wv y a L = lI 1936682341 then 5 else if wv y a L = lI 6384748 then 6 else 1) from by rw [if_neg (by assumption), if_neg (by assumption), if_neg (by assumption), if_pos (by assumption)])⟩
                · have c11 := c11
                  refine sKi (p := 203) rfl rfl ?_
                  refine sL (i := .goto 28) rfl rfl ?_
                  refine sPi (z := 5) (p := 234) rfl rfl (sk_179 _) rfl rfl rfl rfl ?_
                  refine sL (i := .goto 124) rfl rfl ?_
                  refine sEn (i := .return_) rfl (rfl) ?_
                  exact ⟨rfl, congrArg (fun u => sH (wI (wL (wI (nxB S a) 179 23 ((a + L : Nat) : Int)) 179 26 (wv y a L)) 179 24 u)) (show (5 : Int) = (if wv y a L = lI 1953658213 then 3 else if wv y a L = lI 439721161573 then 4 else if wv y a L = lI 1936682341 then 5 else if wv y a L = lI 6384748 then 6 else 1) from by rw [if_neg (by assumption), if_neg (by assumption), if_pos (by assumption)])⟩
              · have c10 := c10
                refine sKi (p := 179) rfl rfl ?_
                refine sL (i := .goto 52) rfl rfl ?_
                refine sPi (z := 4) (p := 234) rfl rfl (sk_179 _) rfl rfl rfl rfl ?_
                refine sL (i := .goto 124) rfl rfl ?_
                refine sEn (i := .return_) rfl (rfl) ?_
                exact ⟨rfl, congrArg (fun u => sH (wI (wL (wI (nxB S a) 179 23 ((a + L : Nat) : Int)) 179 26 (wv y a L)) 179 24 u)) (show (4 : Int) = (if wv y a L = lI 1953658213 then 3 else if wv y a L = lI 439721161573 then 4 else if wv y a L = lI 1936682341 then 5 else if wv y a L = lI 6384748 then 6 else 1) from by rw [if_neg (by assumption), if_pos (by assumption)])⟩
            · have c9 := c9
              refine sKi (p := 154) rfl rfl ?_
              refine sL (i := .goto 77) rfl rfl ?_
              refine sPi (z := 3) (p := 234) rfl rfl (sk_179 _) rfl rfl rfl rfl ?_
              refine sL (i := .goto 124) rfl rfl ?_
              refine sEn (i := .return_) rfl (rfl) ?_
              exact ⟨rfl, congrArg (fun u => sH (wI (wL (wI (nxB S a) 179 23 ((a + L : Nat) : Int)) 179 26 (wv y a L)) 179 24 u)) (show (3 : Int) = (if wv y a L = lI 1953658213 then 3 else if wv y a L = lI 439721161573 then 4 else if wv y a L = lI 1936682341 then 5 else if wv y a L = lI 6384748 then 6 else 1) from by rw [if_pos (by assumption)])⟩
          · exfalso; have c8 := of_decide_eq_true c8; have cD : a + L < s ∧ isD (y (a + L)) = true := (by assumption); have h9 := hf1 cD.1; unfold isW at h9; rw [cD.2, Bool.or_true] at h9; cases h9
  · exfalso; omega
theorem m_next_W (ht : mt S y s) (hp : SI S 179 23 = ((p : Nat) : Int)) (hpl : p ≤ s) (hk : SI S 179 14 = kz) (hz : 0 ≤ kz ∧ kz ≤ 5) (ha : a = rE isB y s p) (hc : a < s) (hL : isL (y a) = true) (hL6 : a + 6 < rE isW y s a) : sM X 2 197 [.ref 179] S (sV none (bdS (wL (wI (nxB S a) 179 23 ((a + 6 : Nat) : Int)) 179 26 (wv y a 6)) kz 1 ((a : Nat) : Int))) := by
  have hs := ht.1
  have hr := rE_ok (p := isB) (y := y) hpl
  rw [← ha] at hr
  obtain ⟨L0, hL0⟩ : ∃ L0, p + L0 = a := ⟨a - p, by omega⟩
  have htB := mtB (a := a) ht
  have hbb := bA_b (y := y) (s := s) ht.2.1
  have hba := bA_y (y := y) hc
  have hya := ht.2.1 a
  have hw := rE_ok (p := isW) (y := y) (a := a) (s := s) (by omega)
  have eL : decide (97 ≤ ((y a : Nat) : Int) ∧ ((y a : Nat) : Int) ≤ 122) = true := decide_eq_true (by have := of_decide_eq_true hL; omega)
  refine sIni (ls := [some (.ref 179), none]) rfl ?_
  refine sL (pc' := 1) (i := .aload_n 0) rfl rfl ?_
  refine sCv (p := 4) (as := []) rfl rfl rfl rfl (by decide) (Nat.le_of_ble_eq_true rfl) rfl (Nat.le_of_ble_eq_true rfl) (sk_179 _) rfl (by omega) (m_skip (L := L0) ht hp (by omega) (fun j hj => hr.2.1 _ (by omega) (by omega)) (fun h => by rw [hL0] at h ⊢; exact hr.2.2 h)) ?_
  rw [hL0]
  refine sL (pc' := 5) (i := .aload_n 0) rfl rfl ?_
  refine sL (pc' := 6) (i := .aload_n 0) rfl rfl ?_
  refine sGi (p := 9) rfl rfl (sk_179 _) rfl rfl rfl rI_at ?_
  refine sPi (z := ((a : Nat) : Int)) (p := 12) rfl rfl (sk_179 _) rfl rfl rfl rfl ?_
  refine sL (pc' := 13) (i := .aload_n 0) rfl rfl ?_
  refine sL (pc' := 14) (i := .aload_n 0) rfl rfl ?_
  refine sGi (p := 17) rfl rfl (sk_179 _) rfl rfl rfl ((rI_nj (by decide)).trans rI_at) ?_
  refine sCv (p := 20) (as := [_]) rfl rfl rfl rfl (by decide) (Nat.le_of_ble_eq_true rfl) rfl (Nat.le_of_ble_eq_true rfl) (sk_179 _) rfl (by omega) (m_look (S := nxB S a) (p := a) htB (by omega)) ?_
  rw [hba]
  refine sL (pc' := 21) (i := .istore_n 1) (ls' := [some (.ref 179), some (.int (iI ((y a : Nat) : Int)))]) rfl rfl ?_
  refine sL (pc' := 22) (i := .iload_n 1) rfl rfl ?_
  refine sKi (p := 23) rfl rfl ?_
  refine sIc_ne (p := 26) rfl rfl ⟨by omega, by omega⟩ ⟨by omega, by omega⟩ (fun c1 => ?_) (fun c1 => ?_)
  · have c1 := c1
    refine sL (pc' := 35) (i := .iload_n 1) rfl rfl ?_
    refine sCs (p := 38) (as := [_]) rfl rfl rfl rfl (by decide) (Nat.le_of_ble_eq_true rfl) rfl (Nat.le_of_ble_eq_true rfl) rfl (by omega) (m_isLetter (c := ((y a : Nat) : Int)) ⟨by omega, by omega⟩) ?_
    rw [eL]
    refine sBe (p := 41) rfl rfl (fun c2 => ?_) (fun c2 => ?_)
    · exact absurd c2 (by decide)
    · have c2 := c2
      refine sL (pc' := 42) (i := .aload_n 0) rfl rfl ?_
      refine sKj0 (p := 43) rfl rfl rfl ?_
      refine sPl (p := 46) rfl rfl (sk_179 _) rfl rfl rfl rfl ?_
      refine sSh (T := (wL (wI (nxB S a) 179 23 ((a + 0 : Nat) : Int)) 179 26 (wv y a 0))) (congrArg (fun T => sH (wL T 179 26 (lI 0))) (wI_self (S := nxB S a) ((rI_nj (by decide)).trans rI_at)).symm) ?_
      refine sIt (A := fun k => [some (.ref 179), some (.int (iI ((y a : Nat) : Int)))]) (B := fun k => (wL (wI (nxB S a) 179 23 ((a + k : Nat) : Int)) 179 26 (wv y a k))) (fun _ => True) 6 True.intro (fun k hi46 hI46 ih46 => ?_) (fun hI46 => ?_)
      · have hi46 := hi46
        have hw1 := hw.2.1 (a + k) (by omega) (by omega)
        have hyk := ht.2.1 (a + k)
        have hbk := bA_y (y := y) (show a + k < s by omega)
        refine sL (pc' := 47) (i := .aload_n 0) rfl rfl ?_
        refine sL (pc' := 48) (i := .aload_n 0) rfl rfl ?_
        refine sGi (p := 51) rfl rfl (sk_179 _) rfl rfl rfl (show SI (wL (wI (nxB S a) 179 23 ((a + k : Nat) : Int)) 179 26 (wv y a k)) 179 23 = ((a + k : Nat) : Int) from rI_at (S := nxB S a) (a := 179) (i := 23) (z := ((a + k : Nat) : Int))) ?_
        refine sCv (p := 54) (as := [_]) rfl rfl rfl rfl (by decide) (Nat.le_of_ble_eq_true rfl) rfl (Nat.le_of_ble_eq_true rfl) (sk_179 _) rfl (by omega) (m_look (S := (wL (wI (nxB S a) 179 23 ((a + k : Nat) : Int)) 179 26 (wv y a k))) (p := a + k) (show mt (wL (wI (nxB S a) 179 23 ((a + k : Nat) : Int)) 179 26 (wv y a k)) y s from mt_w (S := nxB S a) (c := 179) (k := 23) (z := ((a + k : Nat) : Int)) htB (by decide)) (by omega)) ?_
        refine sCs (p := 57) (as := [_]) rfl rfl rfl rfl (by decide) (Nat.le_of_ble_eq_true rfl) rfl (Nat.le_of_ble_eq_true rfl) rfl (by omega) (m_isLetter (c := bA y s (a + k)) ⟨by have := hbb (a + k); omega, by have := hbb (a + k); omega⟩) ?_
        rw [isL_b ht.2.1]
        refine sBn (p := 60) rfl rfl (fun c3 => ?_) (fun c3 => ?_)
        · have c3 := c3
          have c3 := of_decide_eq_true c3
          refine sL (pc' := 75) (i := .aload_n 0) rfl rfl ?_
          refine sGi (p := 78) rfl rfl (sk_179 _) rfl rfl rfl (show SI (wL (wI (nxB S a) 179 23 ((a + k : Nat) : Int)) 179 26 (wv y a k)) 179 23 = ((a + k : Nat) : Int) from rI_at (S := nxB S a) (a := 179) (i := 23) (z := ((a + k : Nat) : Int))) ?_
          refine sL (pc' := 79) (i := .aload_n 0) rfl rfl ?_
          refine sGi (p := 82) (z := ((a : Nat) : Int)) rfl rfl (sk_179 _) rfl rfl rfl rfl ?_
          refine sSb (p := 83) rfl rfl ?_
          refine sKb (p := 85) rfl rfl ?_
          refine sIc_ne (p := 88) rfl rfl ⟨by omega, by omega⟩ ⟨by omega, by omega⟩ (fun c4 => ?_) (fun c4 => ?_)
          · have c4 := c4
            refine sL (pc' := 99) (i := .aload_n 0) rfl rfl ?_
            refine sL (pc' := 100) (i := .aload_n 0) rfl rfl ?_
            refine sGl (p := 103) rfl rfl (sk_179 _) rfl rfl rfl (show SL (wL (wI (nxB S a) 179 23 ((a + k : Nat) : Int)) 179 26 (wv y a k)) 179 26 = wv y a k from by rw [SL_wL, if_pos ⟨rfl, rfl⟩]) ?_
            refine sKb (p := 105) rfl rfl ?_
            refine sL (pc' := 106) (i := .lshl) (st' := [.long (wv y a k <<< ((iI 8).toInt64 &&& 63)), .ref 179]) rfl rfl ?_
            refine sL (pc' := 107) (i := .aload_n 0) rfl rfl ?_
            refine sL (pc' := 108) (i := .aload_n 0) rfl rfl ?_
            refine sGi (p := 111) rfl rfl (sk_179 _) rfl rfl rfl (show SI (wL (wI (nxB S a) 179 23 ((a + k : Nat) : Int)) 179 26 (wv y a k)) 179 23 = ((a + k : Nat) : Int) from rI_at (S := nxB S a) (a := 179) (i := 23) (z := ((a + k : Nat) : Int))) ?_
            refine sCv (p := 114) (as := [_]) rfl rfl rfl rfl (by decide) (Nat.le_of_ble_eq_true rfl) rfl (Nat.le_of_ble_eq_true rfl) (sk_179 _) rfl (by omega) (m_look (S := (wL (wI (nxB S a) 179 23 ((a + k : Nat) : Int)) 179 26 (wv y a k))) (p := a + k) (show mt (wL (wI (nxB S a) 179 23 ((a + k : Nat) : Int)) 179 26 (wv y a k)) y s from mt_w (S := nxB S a) (c := 179) (k := 23) (z := ((a + k : Nat) : Int)) htB (by decide)) (by omega)) ?_
            rw [hbk]
            refine sI2l (p := 115) rfl rfl ⟨by omega, by omega⟩ ?_
            refine sL (pc' := 116) (i := .lor) rfl rfl ?_
            refine sPl (p := 119) rfl rfl (sk_179 _) rfl rfl rfl rfl ?_
            refine sL (pc' := 120) (i := .aload_n 0) rfl rfl ?_
            refine sL (pc' := 121) (i := .dup) rfl rfl ?_
            refine sGi (p := 124) rfl rfl (sk_179 _) rfl rfl rfl (show SI (wL (wI (nxB S a) 179 23 ((a + k : Nat) : Int)) 179 26 (wv y a k)) 179 23 = ((a + k : Nat) : Int) from rI_at (S := nxB S a) (a := 179) (i := 23) (z := ((a + k : Nat) : Int))) ?_
            refine sKi (p := 125) rfl rfl ?_
            refine sAd (p := 126) rfl rfl ?_
            refine sPi (z := (((a + k : Nat) : Int) + 1)) (p := 129) rfl rfl (sk_179 _) rfl rfl rfl rfl ?_
            refine sL (i := .goto (-83)) rfl rfl ?_
            refine sRo (ls := [some (.ref 179), some (.int (iI ((y a : Nat) : Int)))]) (T := (wL (wI (nxB S a) 179 23 ((a + (k + 1) : Nat) : Int)) 179 26 (wv y a (k + 1)))) (And.intro rfl (And.intro rfl (True.intro))) (congrArg sH (nx_bkL.trans (congrArg (fun u => wL (wI (nxB S a) 179 23 u) 179 26 (wv y a (k + 1))) (by omega)))) (ih46 ?_)
            exact True.intro
          · exfalso; omega
        · have c3 := c3
          have c3 := of_decide_eq_false c3
          refine sL (pc' := 61) (i := .aload_n 0) rfl rfl ?_
          refine sL (pc' := 62) (i := .aload_n 0) rfl rfl ?_
          refine sGi (p := 65) rfl rfl (sk_179 _) rfl rfl rfl (show SI (wL (wI (nxB S a) 179 23 ((a + k : Nat) : Int)) 179 26 (wv y a k)) 179 23 = ((a + k : Nat) : Int) from rI_at (S := nxB S a) (a := 179) (i := 23) (z := ((a + k : Nat) : Int))) ?_
          refine sCv (p := 68) (as := [_]) rfl rfl rfl rfl (by decide) (Nat.le_of_ble_eq_true rfl) rfl (Nat.le_of_ble_eq_true rfl) (sk_179 _) rfl (by omega) (m_look (S := (wL (wI (nxB S a) 179 23 ((a + k : Nat) : Int)) 179 26 (wv y a k))) (p := a + k) (show mt (wL (wI (nxB S a) 179 23 ((a + k : Nat) : Int)) 179 26 (wv y a k)) y s from mt_w (S := nxB S a) (c := 179) (k := 23) (z := ((a + k : Nat) : Int)) htB (by decide)) (by omega)) ?_
          refine sCs (p := 71) (as := [_]) rfl rfl rfl rfl (by decide) (Nat.le_of_ble_eq_true rfl) rfl (Nat.le_of_ble_eq_true rfl) rfl (by omega) (m_isDigit (c := bA y s (a + k)) ⟨by have := hbb (a + k); omega, by have := hbb (a + k); omega⟩) ?_
          rw [isD_b ht.2.1]
          refine sBe (p := 74) rfl rfl (fun c5 => ?_) (fun c5 => ?_)
          · exfalso; have c5 := of_decide_eq_false c5; have cL : ¬ (a + k < s ∧ isL (y (a + k)) = true) := (by assumption); have cD : ¬ (a + k < s ∧ isD (y (a + k)) = true) := (by assumption); unfold isW at hw1; rcases Bool.or_eq_true_iff.mp hw1 with z | z <;> first | exact cL ⟨by omega, z⟩ | exact cD ⟨by omega, z⟩
          · have c5 := c5
            have c5 := of_decide_eq_true c5
            refine sL (pc' := 75) (i := .aload_n 0) rfl rfl ?_
            refine sGi (p := 78) rfl rfl (sk_179 _) rfl rfl rfl (show SI (wL (wI (nxB S a) 179 23 ((a + k : Nat) : Int)) 179 26 (wv y a k)) 179 23 = ((a + k : Nat) : Int) from rI_at (S := nxB S a) (a := 179) (i := 23) (z := ((a + k : Nat) : Int))) ?_
            refine sL (pc' := 79) (i := .aload_n 0) rfl rfl ?_
            refine sGi (p := 82) (z := ((a : Nat) : Int)) rfl rfl (sk_179 _) rfl rfl rfl rfl ?_
            refine sSb (p := 83) rfl rfl ?_
            refine sKb (p := 85) rfl rfl ?_
            refine sIc_ne (p := 88) rfl rfl ⟨by omega, by omega⟩ ⟨by omega, by omega⟩ (fun c6 => ?_) (fun c6 => ?_)
            · have c6 := c6
              refine sL (pc' := 99) (i := .aload_n 0) rfl rfl ?_
              refine sL (pc' := 100) (i := .aload_n 0) rfl rfl ?_
              refine sGl (p := 103) rfl rfl (sk_179 _) rfl rfl rfl (show SL (wL (wI (nxB S a) 179 23 ((a + k : Nat) : Int)) 179 26 (wv y a k)) 179 26 = wv y a k from by rw [SL_wL, if_pos ⟨rfl, rfl⟩]) ?_
              refine sKb (p := 105) rfl rfl ?_
              refine sL (pc' := 106) (i := .lshl) (st' := [.long (wv y a k <<< ((iI 8).toInt64 &&& 63)), .ref 179]) rfl rfl ?_
              refine sL (pc' := 107) (i := .aload_n 0) rfl rfl ?_
              refine sL (pc' := 108) (i := .aload_n 0) rfl rfl ?_
              refine sGi (p := 111) rfl rfl (sk_179 _) rfl rfl rfl (show SI (wL (wI (nxB S a) 179 23 ((a + k : Nat) : Int)) 179 26 (wv y a k)) 179 23 = ((a + k : Nat) : Int) from rI_at (S := nxB S a) (a := 179) (i := 23) (z := ((a + k : Nat) : Int))) ?_
              refine sCv (p := 114) (as := [_]) rfl rfl rfl rfl (by decide) (Nat.le_of_ble_eq_true rfl) rfl (Nat.le_of_ble_eq_true rfl) (sk_179 _) rfl (by omega) (m_look (S := (wL (wI (nxB S a) 179 23 ((a + k : Nat) : Int)) 179 26 (wv y a k))) (p := a + k) (show mt (wL (wI (nxB S a) 179 23 ((a + k : Nat) : Int)) 179 26 (wv y a k)) y s from mt_w (S := nxB S a) (c := 179) (k := 23) (z := ((a + k : Nat) : Int)) htB (by decide)) (by omega)) ?_
              rw [hbk]
              refine sI2l (p := 115) rfl rfl ⟨by omega, by omega⟩ ?_
              refine sL (pc' := 116) (i := .lor) rfl rfl ?_
              refine sPl (p := 119) rfl rfl (sk_179 _) rfl rfl rfl rfl ?_
              refine sL (pc' := 120) (i := .aload_n 0) rfl rfl ?_
              refine sL (pc' := 121) (i := .dup) rfl rfl ?_
              refine sGi (p := 124) rfl rfl (sk_179 _) rfl rfl rfl (show SI (wL (wI (nxB S a) 179 23 ((a + k : Nat) : Int)) 179 26 (wv y a k)) 179 23 = ((a + k : Nat) : Int) from rI_at (S := nxB S a) (a := 179) (i := 23) (z := ((a + k : Nat) : Int))) ?_
              refine sKi (p := 125) rfl rfl ?_
              refine sAd (p := 126) rfl rfl ?_
              refine sPi (z := (((a + k : Nat) : Int) + 1)) (p := 129) rfl rfl (sk_179 _) rfl rfl rfl rfl ?_
              refine sL (i := .goto (-83)) rfl rfl ?_
              refine sRo (ls := [some (.ref 179), some (.int (iI ((y a : Nat) : Int)))]) (T := (wL (wI (nxB S a) 179 23 ((a + (k + 1) : Nat) : Int)) 179 26 (wv y a (k + 1)))) (And.intro rfl (And.intro rfl (True.intro))) (congrArg sH (nx_bkL.trans (congrArg (fun u => wL (wI (nxB S a) 179 23 u) 179 26 (wv y a (k + 1))) (by omega)))) (ih46 ?_)
              exact True.intro
            · exfalso; omega
      · have hI46 := hI46
        have hw6 := hw.2.1 (a + 6) (by omega) (by omega)
        refine sL (pc' := 47) (i := .aload_n 0) rfl rfl ?_
        refine sL (pc' := 48) (i := .aload_n 0) rfl rfl ?_
        refine sGi (p := 51) rfl rfl (sk_179 _) rfl rfl rfl (show SI (wL (wI (nxB S a) 179 23 ((a + 6 : Nat) : Int)) 179 26 (wv y a 6)) 179 23 = ((a + 6 : Nat) : Int) from rI_at (S := nxB S a) (a := 179) (i := 23) (z := ((a + 6 : Nat) : Int))) ?_
        refine sCv (p := 54) (as := [_]) rfl rfl rfl rfl (by decide) (Nat.le_of_ble_eq_true rfl) rfl (Nat.le_of_ble_eq_true rfl) (sk_179 _) rfl (by omega) (m_look (S := (wL (wI (nxB S a) 179 23 ((a + 6 : Nat) : Int)) 179 26 (wv y a 6))) (p := a + 6) (show mt (wL (wI (nxB S a) 179 23 ((a + 6 : Nat) : Int)) 179 26 (wv y a 6)) y s from mt_w (S := nxB S a) (c := 179) (k := 23) (z := ((a + 6 : Nat) : Int)) htB (by decide)) (by omega)) ?_
        refine sCs (p := 57) (as := [_]) rfl rfl rfl rfl (by decide) (Nat.le_of_ble_eq_true rfl) rfl (Nat.le_of_ble_eq_true rfl) rfl (by omega) (m_isLetter (c := bA y s (a + 6)) ⟨by have := hbb (a + 6); omega, by have := hbb (a + 6); omega⟩) ?_
        rw [isL_b ht.2.1]
        refine sBn (p := 60) rfl rfl (fun c7 => ?_) (fun c7 => ?_)
        · have c7 := c7
          have c7 := of_decide_eq_true c7
          refine sL (pc' := 75) (i := .aload_n 0) rfl rfl ?_
          refine sGi (p := 78) rfl rfl (sk_179 _) rfl rfl rfl (show SI (wL (wI (nxB S a) 179 23 ((a + 6 : Nat) : Int)) 179 26 (wv y a 6)) 179 23 = ((a + 6 : Nat) : Int) from rI_at (S := nxB S a) (a := 179) (i := 23) (z := ((a + 6 : Nat) : Int))) ?_
          refine sL (pc' := 79) (i := .aload_n 0) rfl rfl ?_
          refine sGi (p := 82) (z := ((a : Nat) : Int)) rfl rfl (sk_179 _) rfl rfl rfl rfl ?_
          refine sSb (p := 83) rfl rfl ?_
          refine sKb (p := 85) rfl rfl ?_
          refine sIc_ne (p := 88) rfl rfl ⟨by omega, by omega⟩ ⟨by omega, by omega⟩ (fun c8 => ?_) (fun c8 => ?_)
          · exfalso; omega
          · have c8 := c8
            refine sL (pc' := 89) (i := .aload_n 0) rfl rfl ?_
            refine sKi (p := 90) rfl rfl ?_
            refine sL (pc' := 91) (i := .aload_n 0) rfl rfl ?_
            refine sGi (p := 94) (z := ((a : Nat) : Int)) rfl rfl (sk_179 _) rfl rfl rfl rfl ?_
            refine sCv (p := 97) (as := [_, _]) rfl rfl rfl rfl (by decide) (Nat.le_of_ble_eq_true rfl) rfl (Nat.le_of_ble_eq_true rfl) (sk_179 _) rfl (by omega) (m_bad (S := (wL (wI (nxB S a) 179 23 ((a + 6 : Nat) : Int)) 179 26 (wv y a 6))) (show SI (wI (nxB S a) 179 23 ((a + 6 : Nat) : Int)) 179 14 = kz from (rI_nj (by decide)).trans ((rI_nj (by decide)).trans ((rI_nj (by decide)).trans hk))) hz) ?_
            refine sEn (i := .return_) rfl (rfl) ?_
            exact ⟨rfl, rfl⟩
        · have c7 := c7
          have c7 := of_decide_eq_false c7
          refine sL (pc' := 61) (i := .aload_n 0) rfl rfl ?_
          refine sL (pc' := 62) (i := .aload_n 0) rfl rfl ?_
          refine sGi (p := 65) rfl rfl (sk_179 _) rfl rfl rfl (show SI (wL (wI (nxB S a) 179 23 ((a + 6 : Nat) : Int)) 179 26 (wv y a 6)) 179 23 = ((a + 6 : Nat) : Int) from rI_at (S := nxB S a) (a := 179) (i := 23) (z := ((a + 6 : Nat) : Int))) ?_
          refine sCv (p := 68) (as := [_]) rfl rfl rfl rfl (by decide) (Nat.le_of_ble_eq_true rfl) rfl (Nat.le_of_ble_eq_true rfl) (sk_179 _) rfl (by omega) (m_look (S := (wL (wI (nxB S a) 179 23 ((a + 6 : Nat) : Int)) 179 26 (wv y a 6))) (p := a + 6) (show mt (wL (wI (nxB S a) 179 23 ((a + 6 : Nat) : Int)) 179 26 (wv y a 6)) y s from mt_w (S := nxB S a) (c := 179) (k := 23) (z := ((a + 6 : Nat) : Int)) htB (by decide)) (by omega)) ?_
          refine sCs (p := 71) (as := [_]) rfl rfl rfl rfl (by decide) (Nat.le_of_ble_eq_true rfl) rfl (Nat.le_of_ble_eq_true rfl) rfl (by omega) (m_isDigit (c := bA y s (a + 6)) ⟨by have := hbb (a + 6); omega, by have := hbb (a + 6); omega⟩) ?_
          rw [isD_b ht.2.1]
          refine sBe (p := 74) rfl rfl (fun c9 => ?_) (fun c9 => ?_)
          · exfalso; have c9 := of_decide_eq_false c9; have cL : ¬ (a + 6 < s ∧ isL (y (a + 6)) = true) := (by assumption); have cD : ¬ (a + 6 < s ∧ isD (y (a + 6)) = true) := (by assumption); unfold isW at hw6; rcases Bool.or_eq_true_iff.mp hw6 with z | z <;> first | exact cL ⟨by omega, z⟩ | exact cD ⟨by omega, z⟩
          · have c9 := c9
            have c9 := of_decide_eq_true c9
            refine sL (pc' := 75) (i := .aload_n 0) rfl rfl ?_
            refine sGi (p := 78) rfl rfl (sk_179 _) rfl rfl rfl (show SI (wL (wI (nxB S a) 179 23 ((a + 6 : Nat) : Int)) 179 26 (wv y a 6)) 179 23 = ((a + 6 : Nat) : Int) from rI_at (S := nxB S a) (a := 179) (i := 23) (z := ((a + 6 : Nat) : Int))) ?_
            refine sL (pc' := 79) (i := .aload_n 0) rfl rfl ?_
            refine sGi (p := 82) (z := ((a : Nat) : Int)) rfl rfl (sk_179 _) rfl rfl rfl rfl ?_
            refine sSb (p := 83) rfl rfl ?_
            refine sKb (p := 85) rfl rfl ?_
            refine sIc_ne (p := 88) rfl rfl ⟨by omega, by omega⟩ ⟨by omega, by omega⟩ (fun c10 => ?_) (fun c10 => ?_)
            · exfalso; omega
            · have c10 := c10
              refine sL (pc' := 89) (i := .aload_n 0) rfl rfl ?_
              refine sKi (p := 90) rfl rfl ?_
              refine sL (pc' := 91) (i := .aload_n 0) rfl rfl ?_
              refine sGi (p := 94) (z := ((a : Nat) : Int)) rfl rfl (sk_179 _) rfl rfl rfl rfl ?_
              refine sCv (p := 97) (as := [_, _]) rfl rfl rfl rfl (by decide) (Nat.le_of_ble_eq_true rfl) rfl (Nat.le_of_ble_eq_true rfl) (sk_179 _) rfl (by omega) (m_bad (S := (wL (wI (nxB S a) 179 23 ((a + 6 : Nat) : Int)) 179 26 (wv y a 6))) (show SI (wI (nxB S a) 179 23 ((a + 6 : Nat) : Int)) 179 14 = kz from (rI_nj (by decide)).trans ((rI_nj (by decide)).trans ((rI_nj (by decide)).trans hk))) hz) ?_
              refine sEn (i := .return_) rfl (rfl) ?_
              exact ⟨rfl, rfl⟩
  · exfalso; omega
theorem m_next_n {L : Nat} (ht : mt S y s) (hp : SI S 179 23 = ((p : Nat) : Int)) (hpl : p ≤ s) (hk : SI S 179 14 = kz) (hz : 0 ≤ kz ∧ kz ≤ 5) (ha : a = rE isB y s p) (hc : a < s) (hD : isD (y a) = true) (hLe : a + L = rE isD y s a) (hL3 : L ≤ 3) : sM X 2 197 [.ref 179] S (sV none (wI (if a + L < s ∧ isL (y (a + L)) = true then bdS (wI (wI (nxB S a) 179 23 ((a + L : Nat) : Int)) 179 27 (nv y a L)) kz 1 ((a : Nat) : Int) else (wI (wI (nxB S a) 179 23 ((a + L : Nat) : Int)) 179 27 (nv y a L))) 179 24 2)) := by
  have hs := ht.1
  have hr := rE_ok (p := isB) (y := y) hpl
  rw [← ha] at hr
  obtain ⟨L0, hL0⟩ : ∃ L0, p + L0 = a := ⟨a - p, by omega⟩
  have htB := mtB (a := a) ht
  have hbb := bA_b (y := y) (s := s) ht.2.1
  have hba := bA_y (y := y) hc
  have hya := ht.2.1 a
  have hw := rE_ok (p := isD) (y := y) (a := a) (s := s) (by omega)
  have eL : decide (97 ≤ ((y a : Nat) : Int) ∧ ((y a : Nat) : Int) ≤ 122) = false := decide_eq_false (fun z => by have := of_decide_eq_true hD; omega)
  have eD : decide (48 ≤ ((y a : Nat) : Int) ∧ ((y a : Nat) : Int) ≤ 57) = true := decide_eq_true (by have := of_decide_eq_true hD; omega)
  refine sIni (ls := [some (.ref 179), none]) rfl ?_
  refine sL (pc' := 1) (i := .aload_n 0) rfl rfl ?_
  refine sCv (p := 4) (as := []) rfl rfl rfl rfl (by decide) (Nat.le_of_ble_eq_true rfl) rfl (Nat.le_of_ble_eq_true rfl) (sk_179 _) rfl (by omega) (m_skip (L := L0) ht hp (by omega) (fun j hj => hr.2.1 _ (by omega) (by omega)) (fun h => by rw [hL0] at h ⊢; exact hr.2.2 h)) ?_
  rw [hL0]
  refine sL (pc' := 5) (i := .aload_n 0) rfl rfl ?_
  refine sL (pc' := 6) (i := .aload_n 0) rfl rfl ?_
  refine sGi (p := 9) rfl rfl (sk_179 _) rfl rfl rfl rI_at ?_
  refine sPi (z := ((a : Nat) : Int)) (p := 12) rfl rfl (sk_179 _) rfl rfl rfl rfl ?_
  refine sL (pc' := 13) (i := .aload_n 0) rfl rfl ?_
  refine sL (pc' := 14) (i := .aload_n 0) rfl rfl ?_
  refine sGi (p := 17) rfl rfl (sk_179 _) rfl rfl rfl ((rI_nj (by decide)).trans rI_at) ?_
  refine sCv (p := 20) (as := [_]) rfl rfl rfl rfl (by decide) (Nat.le_of_ble_eq_true rfl) rfl (Nat.le_of_ble_eq_true rfl) (sk_179 _) rfl (by omega) (m_look (S := nxB S a) (p := a) htB (by omega)) ?_
  rw [hba]
  refine sL (pc' := 21) (i := .istore_n 1) (ls' := [some (.ref 179), some (.int (iI ((y a : Nat) : Int)))]) rfl rfl ?_
  refine sL (pc' := 22) (i := .iload_n 1) rfl rfl ?_
  refine sKi (p := 23) rfl rfl ?_
  refine sIc_ne (p := 26) rfl rfl ⟨by omega, by omega⟩ ⟨by omega, by omega⟩ (fun c1 => ?_) (fun c1 => ?_)
  · have c1 := c1
    refine sL (pc' := 35) (i := .iload_n 1) rfl rfl ?_
    refine sCs (p := 38) (as := [_]) rfl rfl rfl rfl (by decide) (Nat.le_of_ble_eq_true rfl) rfl (Nat.le_of_ble_eq_true rfl) rfl (by omega) (m_isLetter (c := ((y a : Nat) : Int)) ⟨by omega, by omega⟩) ?_
    rw [eL]
    refine sBe (p := 41) rfl rfl (fun c2 => ?_) (fun c2 => ?_)
    · have c2 := c2
      refine sL (pc' := 238) (i := .iload_n 1) rfl rfl ?_
      refine sCs (p := 241) (as := [_]) rfl rfl rfl rfl (by decide) (Nat.le_of_ble_eq_true rfl) rfl (Nat.le_of_ble_eq_true rfl) rfl (by omega) (m_isDigit (c := ((y a : Nat) : Int)) ⟨by omega, by omega⟩) ?_
      rw [eD]
      refine sBe (p := 244) rfl rfl (fun c3 => ?_) (fun c3 => ?_)
      · exact absurd c3 (by decide)
      · have c3 := c3
        refine sL (pc' := 245) (i := .aload_n 0) rfl rfl ?_
        refine sKi (p := 246) rfl rfl ?_
        refine sPi (z := 0) (p := 249) rfl rfl (sk_179 _) rfl rfl rfl rfl ?_
        refine sSh (T := (wI (wI (nxB S a) 179 23 ((a + 0 : Nat) : Int)) 179 27 (nv y a 0))) (congrArg (fun T => sH (wI T 179 27 0)) (wI_self (S := nxB S a) ((rI_nj (by decide)).trans rI_at)).symm) ?_
        refine sIt (A := fun k => [some (.ref 179), some (.int (iI ((y a : Nat) : Int)))]) (B := fun k => (wI (wI (nxB S a) 179 23 ((a + k : Nat) : Int)) 179 27 (nv y a k))) (fun _ => True) L True.intro (fun k hi249 hI249 ih249 => ?_) (fun hI249 => ?_)
        · have hi249 := hi249
          have hw1 := hw.2.1 (a + k) (by omega) (by omega)
          have hyk := ht.2.1 (a + k)
          have hbk := bA_y (y := y) (show a + k < s by omega)
          refine sL (pc' := 250) (i := .aload_n 0) rfl rfl ?_
          refine sL (pc' := 251) (i := .aload_n 0) rfl rfl ?_
          refine sGi (p := 254) rfl rfl (sk_179 _) rfl rfl rfl (show SI (wI (wI (nxB S a) 179 23 ((a + k : Nat) : Int)) 179 27 (nv y a k)) 179 23 = ((a + k : Nat) : Int) from (rI_nj (by decide)).trans (rI_at (S := nxB S a) (a := 179) (i := 23) (z := ((a + k : Nat) : Int)))) ?_
          refine sCv (p := 257) (as := [_]) rfl rfl rfl rfl (by decide) (Nat.le_of_ble_eq_true rfl) rfl (Nat.le_of_ble_eq_true rfl) (sk_179 _) rfl (by omega) (m_look (S := (wI (wI (nxB S a) 179 23 ((a + k : Nat) : Int)) 179 27 (nv y a k))) (p := a + k) (mt_w (mt_w htB (by decide)) (by decide)) (by omega)) ?_
          refine sCs (p := 260) (as := [_]) rfl rfl rfl rfl (by decide) (Nat.le_of_ble_eq_true rfl) rfl (Nat.le_of_ble_eq_true rfl) rfl (by omega) (m_isDigit (c := bA y s (a + k)) ⟨by have := hbb (a + k); omega, by have := hbb (a + k); omega⟩) ?_
          rw [isD_b ht.2.1]
          refine sBe (p := 263) rfl rfl (fun c4 => ?_) (fun c4 => ?_)
          · exfalso; have c4 := of_decide_eq_false c4; have cD : ¬ (a + k < s ∧ isD (y (a + k)) = true) := (by assumption); exact cD ⟨by omega, hw1⟩
          · have c4 := c4
            have c4 := of_decide_eq_true c4
            refine sL (pc' := 264) (i := .aload_n 0) rfl rfl ?_
            refine sGi (p := 267) rfl rfl (sk_179 _) rfl rfl rfl (show SI (wI (wI (nxB S a) 179 23 ((a + k : Nat) : Int)) 179 27 (nv y a k)) 179 23 = ((a + k : Nat) : Int) from (rI_nj (by decide)).trans (rI_at (S := nxB S a) (a := 179) (i := 23) (z := ((a + k : Nat) : Int)))) ?_
            refine sL (pc' := 268) (i := .aload_n 0) rfl rfl ?_
            refine sGi (p := 271) (z := ((a : Nat) : Int)) rfl rfl (sk_179 _) rfl rfl rfl rfl ?_
            refine sSb (p := 272) rfl rfl ?_
            refine sKi (p := 273) rfl rfl ?_
            refine sIc_ne (p := 276) rfl rfl ⟨by omega, by omega⟩ ⟨by omega, by omega⟩ (fun c5 => ?_) (fun c5 => ?_)
            · have c5 := c5
              refine sL (pc' := 287) (i := .aload_n 0) rfl rfl ?_
              refine sKb (p := 289) rfl rfl ?_
              refine sL (pc' := 290) (i := .aload_n 0) rfl rfl ?_
              refine sGi (p := 293) rfl rfl (sk_179 _) rfl rfl rfl (rI_at (S := wI (nxB S a) 179 23 ((a + k : Nat) : Int)) (a := 179) (i := 27) (z := nv y a k)) ?_
              refine sMu (p := 294) rfl rfl ?_
              refine sL (pc' := 295) (i := .aload_n 0) rfl rfl ?_
              refine sL (pc' := 296) (i := .aload_n 0) rfl rfl ?_
              refine sGi (p := 299) rfl rfl (sk_179 _) rfl rfl rfl (show SI (wI (wI (nxB S a) 179 23 ((a + k : Nat) : Int)) 179 27 (nv y a k)) 179 23 = ((a + k : Nat) : Int) from (rI_nj (by decide)).trans (rI_at (S := nxB S a) (a := 179) (i := 23) (z := ((a + k : Nat) : Int)))) ?_
              refine sCv (p := 302) (as := [_]) rfl rfl rfl rfl (by decide) (Nat.le_of_ble_eq_true rfl) rfl (Nat.le_of_ble_eq_true rfl) (sk_179 _) rfl (by omega) (m_look (S := (wI (wI (nxB S a) 179 23 ((a + k : Nat) : Int)) 179 27 (nv y a k))) (p := a + k) (mt_w (mt_w htB (by decide)) (by decide)) (by omega)) ?_
              rw [hbk]
              refine sAd (p := 303) rfl rfl ?_
              refine sKb (p := 305) rfl rfl ?_
              refine sSb (p := 306) rfl rfl ?_
              refine sPi (z := (((10 * (nv y a k)) + ((y (a + k) : Nat) : Int)) - 48)) (p := 309) rfl rfl (sk_179 _) rfl rfl rfl rfl ?_
              refine sL (pc' := 310) (i := .aload_n 0) rfl rfl ?_
              refine sL (pc' := 311) (i := .dup) rfl rfl ?_
              refine sGi (p := 314) rfl rfl (sk_179 _) rfl rfl rfl (show SI (wI (wI (nxB S a) 179 23 ((a + k : Nat) : Int)) 179 27 (nv y a k)) 179 23 = ((a + k : Nat) : Int) from (rI_nj (by decide)).trans (rI_at (S := nxB S a) (a := 179) (i := 23) (z := ((a + k : Nat) : Int)))) ?_
              refine sKi (p := 315) rfl rfl ?_
              refine sAd (p := 316) rfl rfl ?_
              refine sPi (z := (((a + k : Nat) : Int) + 1)) (p := 319) rfl rfl (sk_179 _) rfl rfl rfl rfl ?_
              refine sL (i := .goto (-70)) rfl rfl ?_
              refine sRo (ls := [some (.ref 179), some (.int (iI ((y a : Nat) : Int)))]) (T := (wI (wI (nxB S a) 179 23 ((a + (k + 1) : Nat) : Int)) 179 27 (nv y a (k + 1)))) (And.intro rfl (And.intro rfl (True.intro))) (congrArg sH (nx_bkN.trans (by rw [show 10 * nv y a k + ((y (a + k) : Nat) : Int) - 48 = nv y a (k + 1) from by show _ = nv y a k * 10 + ((y (a + k) : Nat) : Int) - 48; omega, show ((a + k : Nat) : Int) + 1 = ((a + (k + 1) : Nat) : Int) from by omega]))) (ih249 ?_)
              exact True.intro
            · exfalso; omega
        · have hI249 := hI249
          have hf1 : a + L < s → isD (y (a + L)) = false := fun h => by have h9 := hw.2.2 (by omega); rw [← hLe] at h9; exact h9
          refine sL (pc' := 250) (i := .aload_n 0) rfl rfl ?_
          refine sL (pc' := 251) (i := .aload_n 0) rfl rfl ?_
          refine sGi (p := 254) rfl rfl (sk_179 _) rfl rfl rfl (show SI (wI (wI (nxB S a) 179 23 ((a + L : Nat) : Int)) 179 27 (nv y a L)) 179 23 = ((a + L : Nat) : Int) from (rI_nj (by decide)).trans (rI_at (S := nxB S a) (a := 179) (i := 23) (z := ((a + L : Nat) : Int)))) ?_
          refine sCv (p := 257) (as := [_]) rfl rfl rfl rfl (by decide) (Nat.le_of_ble_eq_true rfl) rfl (Nat.le_of_ble_eq_true rfl) (sk_179 _) rfl (by omega) (m_look (S := (wI (wI (nxB S a) 179 23 ((a + L : Nat) : Int)) 179 27 (nv y a L))) (p := a + L) (mt_w (mt_w htB (by decide)) (by decide)) (by omega)) ?_
          refine sCs (p := 260) (as := [_]) rfl rfl rfl rfl (by decide) (Nat.le_of_ble_eq_true rfl) rfl (Nat.le_of_ble_eq_true rfl) rfl (by omega) (m_isDigit (c := bA y s (a + L)) ⟨by have := hbb (a + L); omega, by have := hbb (a + L); omega⟩) ?_
          rw [isD_b ht.2.1]
          refine sBe (p := 263) rfl rfl (fun c6 => ?_) (fun c6 => ?_)
          · have c6 := c6
            have c6 := of_decide_eq_false c6
            refine sL (pc' := 323) (i := .aload_n 0) rfl rfl ?_
            refine sL (pc' := 324) (i := .aload_n 0) rfl rfl ?_
            refine sGi (p := 327) rfl rfl (sk_179 _) rfl rfl rfl (show SI (wI (wI (nxB S a) 179 23 ((a + L : Nat) : Int)) 179 27 (nv y a L)) 179 23 = ((a + L : Nat) : Int) from (rI_nj (by decide)).trans (rI_at (S := nxB S a) (a := 179) (i := 23) (z := ((a + L : Nat) : Int)))) ?_
            refine sCv (p := 330) (as := [_]) rfl rfl rfl rfl (by decide) (Nat.le_of_ble_eq_true rfl) rfl (Nat.le_of_ble_eq_true rfl) (sk_179 _) rfl (by omega) (m_look (S := (wI (wI (nxB S a) 179 23 ((a + L : Nat) : Int)) 179 27 (nv y a L))) (p := a + L) (mt_w (mt_w htB (by decide)) (by decide)) (by omega)) ?_
            refine sCs (p := 333) (as := [_]) rfl rfl rfl rfl (by decide) (Nat.le_of_ble_eq_true rfl) rfl (Nat.le_of_ble_eq_true rfl) rfl (by omega) (m_isLetter (c := bA y s (a + L)) ⟨by have := hbb (a + L); omega, by have := hbb (a + L); omega⟩) ?_
            rw [isL_b ht.2.1]
            refine sBe (p := 336) rfl rfl (fun c7 => ?_) (fun c7 => ?_)
            · have c7 := c7
              have c7 := of_decide_eq_false c7
              refine sL (pc' := 346) (i := .aload_n 0) rfl rfl ?_
              refine sKi (p := 347) rfl rfl ?_
              refine sPi (z := 2) (p := 350) rfl rfl (sk_179 _) rfl rfl rfl rfl ?_
              refine sL (i := .goto 8) rfl rfl ?_
              refine sEn (i := .return_) rfl (rfl) ?_
              exact ⟨rfl, congrArg sH (show _ = wI (if a + L < s ∧ isL (y (a + L)) = true then bdS (wI (wI (nxB S a) 179 23 ((a + L : Nat) : Int)) 179 27 (nv y a L)) kz 1 ((a : Nat) : Int) else (wI (wI (nxB S a) 179 23 ((a + L : Nat) : Int)) 179 27 (nv y a L))) 179 24 2 from by rw [if_neg (by assumption)])⟩
            · have c7 := c7
              have c7 := of_decide_eq_true c7
              refine sL (pc' := 337) (i := .aload_n 0) rfl rfl ?_
              refine sKi (p := 338) rfl rfl ?_
              refine sL (pc' := 339) (i := .aload_n 0) rfl rfl ?_
              refine sGi (p := 342) (z := ((a : Nat) : Int)) rfl rfl (sk_179 _) rfl rfl rfl rfl ?_
              refine sCv (p := 345) (as := [_, _]) rfl rfl rfl rfl (by decide) (Nat.le_of_ble_eq_true rfl) rfl (Nat.le_of_ble_eq_true rfl) (sk_179 _) rfl (by omega) (m_bad (S := (wI (wI (nxB S a) 179 23 ((a + L : Nat) : Int)) 179 27 (nv y a L))) (show SI (wI (wI (nxB S a) 179 23 ((a + L : Nat) : Int)) 179 27 (nv y a L)) 179 14 = kz from (rI_nj (by decide)).trans ((rI_nj (by decide)).trans ((rI_nj (by decide)).trans ((rI_nj (by decide)).trans hk)))) hz) ?_
              refine sL (pc' := 346) (i := .aload_n 0) rfl rfl ?_
              refine sKi (p := 347) rfl rfl ?_
              refine sPi (z := 2) (p := 350) rfl rfl (sk_179 _) rfl rfl rfl rfl ?_
              refine sL (i := .goto 8) rfl rfl ?_
              refine sEn (i := .return_) rfl (rfl) ?_
              exact ⟨rfl, congrArg sH (show _ = wI (if a + L < s ∧ isL (y (a + L)) = true then bdS (wI (wI (nxB S a) 179 23 ((a + L : Nat) : Int)) 179 27 (nv y a L)) kz 1 ((a : Nat) : Int) else (wI (wI (nxB S a) 179 23 ((a + L : Nat) : Int)) 179 27 (nv y a L))) 179 24 2 from by rw [if_pos (by assumption)])⟩
          · exfalso; have c6 := of_decide_eq_true c6; have cD : a + L < s ∧ isD (y (a + L)) = true := (by assumption); have h9 := hf1 cD.1; rw [cD.2] at h9; cases h9
    · exact absurd c2 (by decide)
  · exfalso; omega
theorem m_next_N (ht : mt S y s) (hp : SI S 179 23 = ((p : Nat) : Int)) (hpl : p ≤ s) (hk : SI S 179 14 = kz) (hz : 0 ≤ kz ∧ kz ≤ 5) (ha : a = rE isB y s p) (hc : a < s) (hD : isD (y a) = true) (hL3 : a + 3 < rE isD y s a) : sM X 2 197 [.ref 179] S (sV none (bdS (wI (wI (nxB S a) 179 23 ((a + 3 : Nat) : Int)) 179 27 (nv y a 3)) kz 1 ((a : Nat) : Int))) := by
  have hs := ht.1
  have hr := rE_ok (p := isB) (y := y) hpl
  rw [← ha] at hr
  obtain ⟨L0, hL0⟩ : ∃ L0, p + L0 = a := ⟨a - p, by omega⟩
  have htB := mtB (a := a) ht
  have hbb := bA_b (y := y) (s := s) ht.2.1
  have hba := bA_y (y := y) hc
  have hya := ht.2.1 a
  have hw := rE_ok (p := isD) (y := y) (a := a) (s := s) (by omega)
  have eL : decide (97 ≤ ((y a : Nat) : Int) ∧ ((y a : Nat) : Int) ≤ 122) = false := decide_eq_false (fun z => by have := of_decide_eq_true hD; omega)
  have eD : decide (48 ≤ ((y a : Nat) : Int) ∧ ((y a : Nat) : Int) ≤ 57) = true := decide_eq_true (by have := of_decide_eq_true hD; omega)
  refine sIni (ls := [some (.ref 179), none]) rfl ?_
  refine sL (pc' := 1) (i := .aload_n 0) rfl rfl ?_
  refine sCv (p := 4) (as := []) rfl rfl rfl rfl (by decide) (Nat.le_of_ble_eq_true rfl) rfl (Nat.le_of_ble_eq_true rfl) (sk_179 _) rfl (by omega) (m_skip (L := L0) ht hp (by omega) (fun j hj => hr.2.1 _ (by omega) (by omega)) (fun h => by rw [hL0] at h ⊢; exact hr.2.2 h)) ?_
  rw [hL0]
  refine sL (pc' := 5) (i := .aload_n 0) rfl rfl ?_
  refine sL (pc' := 6) (i := .aload_n 0) rfl rfl ?_
  refine sGi (p := 9) rfl rfl (sk_179 _) rfl rfl rfl rI_at ?_
  refine sPi (z := ((a : Nat) : Int)) (p := 12) rfl rfl (sk_179 _) rfl rfl rfl rfl ?_
  refine sL (pc' := 13) (i := .aload_n 0) rfl rfl ?_
  refine sL (pc' := 14) (i := .aload_n 0) rfl rfl ?_
  refine sGi (p := 17) rfl rfl (sk_179 _) rfl rfl rfl ((rI_nj (by decide)).trans rI_at) ?_
  refine sCv (p := 20) (as := [_]) rfl rfl rfl rfl (by decide) (Nat.le_of_ble_eq_true rfl) rfl (Nat.le_of_ble_eq_true rfl) (sk_179 _) rfl (by omega) (m_look (S := nxB S a) (p := a) htB (by omega)) ?_
  rw [hba]
  refine sL (pc' := 21) (i := .istore_n 1) (ls' := [some (.ref 179), some (.int (iI ((y a : Nat) : Int)))]) rfl rfl ?_
  refine sL (pc' := 22) (i := .iload_n 1) rfl rfl ?_
  refine sKi (p := 23) rfl rfl ?_
  refine sIc_ne (p := 26) rfl rfl ⟨by omega, by omega⟩ ⟨by omega, by omega⟩ (fun c1 => ?_) (fun c1 => ?_)
  · have c1 := c1
    refine sL (pc' := 35) (i := .iload_n 1) rfl rfl ?_
    refine sCs (p := 38) (as := [_]) rfl rfl rfl rfl (by decide) (Nat.le_of_ble_eq_true rfl) rfl (Nat.le_of_ble_eq_true rfl) rfl (by omega) (m_isLetter (c := ((y a : Nat) : Int)) ⟨by omega, by omega⟩) ?_
    rw [eL]
    refine sBe (p := 41) rfl rfl (fun c2 => ?_) (fun c2 => ?_)
    · have c2 := c2
      refine sL (pc' := 238) (i := .iload_n 1) rfl rfl ?_
      refine sCs (p := 241) (as := [_]) rfl rfl rfl rfl (by decide) (Nat.le_of_ble_eq_true rfl) rfl (Nat.le_of_ble_eq_true rfl) rfl (by omega) (m_isDigit (c := ((y a : Nat) : Int)) ⟨by omega, by omega⟩) ?_
      rw [eD]
      refine sBe (p := 244) rfl rfl (fun c3 => ?_) (fun c3 => ?_)
      · exact absurd c3 (by decide)
      · have c3 := c3
        refine sL (pc' := 245) (i := .aload_n 0) rfl rfl ?_
        refine sKi (p := 246) rfl rfl ?_
        refine sPi (z := 0) (p := 249) rfl rfl (sk_179 _) rfl rfl rfl rfl ?_
        refine sSh (T := (wI (wI (nxB S a) 179 23 ((a + 0 : Nat) : Int)) 179 27 (nv y a 0))) (congrArg (fun T => sH (wI T 179 27 0)) (wI_self (S := nxB S a) ((rI_nj (by decide)).trans rI_at)).symm) ?_
        refine sIt (A := fun k => [some (.ref 179), some (.int (iI ((y a : Nat) : Int)))]) (B := fun k => (wI (wI (nxB S a) 179 23 ((a + k : Nat) : Int)) 179 27 (nv y a k))) (fun _ => True) 3 True.intro (fun k hi249 hI249 ih249 => ?_) (fun hI249 => ?_)
        · have hi249 := hi249
          have hw1 := hw.2.1 (a + k) (by omega) (by omega)
          have hyk := ht.2.1 (a + k)
          have hbk := bA_y (y := y) (show a + k < s by omega)
          refine sL (pc' := 250) (i := .aload_n 0) rfl rfl ?_
          refine sL (pc' := 251) (i := .aload_n 0) rfl rfl ?_
          refine sGi (p := 254) rfl rfl (sk_179 _) rfl rfl rfl (show SI (wI (wI (nxB S a) 179 23 ((a + k : Nat) : Int)) 179 27 (nv y a k)) 179 23 = ((a + k : Nat) : Int) from (rI_nj (by decide)).trans (rI_at (S := nxB S a) (a := 179) (i := 23) (z := ((a + k : Nat) : Int)))) ?_
          refine sCv (p := 257) (as := [_]) rfl rfl rfl rfl (by decide) (Nat.le_of_ble_eq_true rfl) rfl (Nat.le_of_ble_eq_true rfl) (sk_179 _) rfl (by omega) (m_look (S := (wI (wI (nxB S a) 179 23 ((a + k : Nat) : Int)) 179 27 (nv y a k))) (p := a + k) (mt_w (mt_w htB (by decide)) (by decide)) (by omega)) ?_
          refine sCs (p := 260) (as := [_]) rfl rfl rfl rfl (by decide) (Nat.le_of_ble_eq_true rfl) rfl (Nat.le_of_ble_eq_true rfl) rfl (by omega) (m_isDigit (c := bA y s (a + k)) ⟨by have := hbb (a + k); omega, by have := hbb (a + k); omega⟩) ?_
          rw [isD_b ht.2.1]
          refine sBe (p := 263) rfl rfl (fun c4 => ?_) (fun c4 => ?_)
          · exfalso; have c4 := of_decide_eq_false c4; have cD : ¬ (a + k < s ∧ isD (y (a + k)) = true) := (by assumption); exact cD ⟨by omega, hw1⟩
          · have c4 := c4
            have c4 := of_decide_eq_true c4
            refine sL (pc' := 264) (i := .aload_n 0) rfl rfl ?_
            refine sGi (p := 267) rfl rfl (sk_179 _) rfl rfl rfl (show SI (wI (wI (nxB S a) 179 23 ((a + k : Nat) : Int)) 179 27 (nv y a k)) 179 23 = ((a + k : Nat) : Int) from (rI_nj (by decide)).trans (rI_at (S := nxB S a) (a := 179) (i := 23) (z := ((a + k : Nat) : Int)))) ?_
            refine sL (pc' := 268) (i := .aload_n 0) rfl rfl ?_
            refine sGi (p := 271) (z := ((a : Nat) : Int)) rfl rfl (sk_179 _) rfl rfl rfl rfl ?_
            refine sSb (p := 272) rfl rfl ?_
            refine sKi (p := 273) rfl rfl ?_
            refine sIc_ne (p := 276) rfl rfl ⟨by omega, by omega⟩ ⟨by omega, by omega⟩ (fun c5 => ?_) (fun c5 => ?_)
            · have c5 := c5
              refine sL (pc' := 287) (i := .aload_n 0) rfl rfl ?_
              refine sKb (p := 289) rfl rfl ?_
              refine sL (pc' := 290) (i := .aload_n 0) rfl rfl ?_
              refine sGi (p := 293) rfl rfl (sk_179 _) rfl rfl rfl (rI_at (S := wI (nxB S a) 179 23 ((a + k : Nat) : Int)) (a := 179) (i := 27) (z := nv y a k)) ?_
              refine sMu (p := 294) rfl rfl ?_
              refine sL (pc' := 295) (i := .aload_n 0) rfl rfl ?_
              refine sL (pc' := 296) (i := .aload_n 0) rfl rfl ?_
              refine sGi (p := 299) rfl rfl (sk_179 _) rfl rfl rfl (show SI (wI (wI (nxB S a) 179 23 ((a + k : Nat) : Int)) 179 27 (nv y a k)) 179 23 = ((a + k : Nat) : Int) from (rI_nj (by decide)).trans (rI_at (S := nxB S a) (a := 179) (i := 23) (z := ((a + k : Nat) : Int)))) ?_
              refine sCv (p := 302) (as := [_]) rfl rfl rfl rfl (by decide) (Nat.le_of_ble_eq_true rfl) rfl (Nat.le_of_ble_eq_true rfl) (sk_179 _) rfl (by omega) (m_look (S := (wI (wI (nxB S a) 179 23 ((a + k : Nat) : Int)) 179 27 (nv y a k))) (p := a + k) (mt_w (mt_w htB (by decide)) (by decide)) (by omega)) ?_
              rw [hbk]
              refine sAd (p := 303) rfl rfl ?_
              refine sKb (p := 305) rfl rfl ?_
              refine sSb (p := 306) rfl rfl ?_
              refine sPi (z := (((10 * (nv y a k)) + ((y (a + k) : Nat) : Int)) - 48)) (p := 309) rfl rfl (sk_179 _) rfl rfl rfl rfl ?_
              refine sL (pc' := 310) (i := .aload_n 0) rfl rfl ?_
              refine sL (pc' := 311) (i := .dup) rfl rfl ?_
              refine sGi (p := 314) rfl rfl (sk_179 _) rfl rfl rfl (show SI (wI (wI (nxB S a) 179 23 ((a + k : Nat) : Int)) 179 27 (nv y a k)) 179 23 = ((a + k : Nat) : Int) from (rI_nj (by decide)).trans (rI_at (S := nxB S a) (a := 179) (i := 23) (z := ((a + k : Nat) : Int)))) ?_
              refine sKi (p := 315) rfl rfl ?_
              refine sAd (p := 316) rfl rfl ?_
              refine sPi (z := (((a + k : Nat) : Int) + 1)) (p := 319) rfl rfl (sk_179 _) rfl rfl rfl rfl ?_
              refine sL (i := .goto (-70)) rfl rfl ?_
              refine sRo (ls := [some (.ref 179), some (.int (iI ((y a : Nat) : Int)))]) (T := (wI (wI (nxB S a) 179 23 ((a + (k + 1) : Nat) : Int)) 179 27 (nv y a (k + 1)))) (And.intro rfl (And.intro rfl (True.intro))) (congrArg sH (nx_bkN.trans (by rw [show 10 * nv y a k + ((y (a + k) : Nat) : Int) - 48 = nv y a (k + 1) from by show _ = nv y a k * 10 + ((y (a + k) : Nat) : Int) - 48; omega, show ((a + k : Nat) : Int) + 1 = ((a + (k + 1) : Nat) : Int) from by omega]))) (ih249 ?_)
              exact True.intro
            · exfalso; omega
        · have hI249 := hI249
          have hw6 := hw.2.1 (a + 3) (by omega) (by omega)
          refine sL (pc' := 250) (i := .aload_n 0) rfl rfl ?_
          refine sL (pc' := 251) (i := .aload_n 0) rfl rfl ?_
          refine sGi (p := 254) rfl rfl (sk_179 _) rfl rfl rfl (show SI (wI (wI (nxB S a) 179 23 ((a + 3 : Nat) : Int)) 179 27 (nv y a 3)) 179 23 = ((a + 3 : Nat) : Int) from (rI_nj (by decide)).trans (rI_at (S := nxB S a) (a := 179) (i := 23) (z := ((a + 3 : Nat) : Int)))) ?_
          refine sCv (p := 257) (as := [_]) rfl rfl rfl rfl (by decide) (Nat.le_of_ble_eq_true rfl) rfl (Nat.le_of_ble_eq_true rfl) (sk_179 _) rfl (by omega) (m_look (S := (wI (wI (nxB S a) 179 23 ((a + 3 : Nat) : Int)) 179 27 (nv y a 3))) (p := a + 3) (mt_w (mt_w htB (by decide)) (by decide)) (by omega)) ?_
          refine sCs (p := 260) (as := [_]) rfl rfl rfl rfl (by decide) (Nat.le_of_ble_eq_true rfl) rfl (Nat.le_of_ble_eq_true rfl) rfl (by omega) (m_isDigit (c := bA y s (a + 3)) ⟨by have := hbb (a + 3); omega, by have := hbb (a + 3); omega⟩) ?_
          rw [isD_b ht.2.1]
          refine sBe (p := 263) rfl rfl (fun c6 => ?_) (fun c6 => ?_)
          · exfalso; have c6 := of_decide_eq_false c6; have cD : ¬ (a + 3 < s ∧ isD (y (a + 3)) = true) := (by assumption); exact cD ⟨by omega, hw6⟩
          · have c6 := c6
            have c6 := of_decide_eq_true c6
            refine sL (pc' := 264) (i := .aload_n 0) rfl rfl ?_
            refine sGi (p := 267) rfl rfl (sk_179 _) rfl rfl rfl (show SI (wI (wI (nxB S a) 179 23 ((a + 3 : Nat) : Int)) 179 27 (nv y a 3)) 179 23 = ((a + 3 : Nat) : Int) from (rI_nj (by decide)).trans (rI_at (S := nxB S a) (a := 179) (i := 23) (z := ((a + 3 : Nat) : Int)))) ?_
            refine sL (pc' := 268) (i := .aload_n 0) rfl rfl ?_
            refine sGi (p := 271) (z := ((a : Nat) : Int)) rfl rfl (sk_179 _) rfl rfl rfl rfl ?_
            refine sSb (p := 272) rfl rfl ?_
            refine sKi (p := 273) rfl rfl ?_
            refine sIc_ne (p := 276) rfl rfl ⟨by omega, by omega⟩ ⟨by omega, by omega⟩ (fun c7 => ?_) (fun c7 => ?_)
            · exfalso; omega
            · have c7 := c7
              refine sL (pc' := 277) (i := .aload_n 0) rfl rfl ?_
              refine sKi (p := 278) rfl rfl ?_
              refine sL (pc' := 279) (i := .aload_n 0) rfl rfl ?_
              refine sGi (p := 282) (z := ((a : Nat) : Int)) rfl rfl (sk_179 _) rfl rfl rfl rfl ?_
              refine sCv (p := 285) (as := [_, _]) rfl rfl rfl rfl (by decide) (Nat.le_of_ble_eq_true rfl) rfl (Nat.le_of_ble_eq_true rfl) (sk_179 _) rfl (by omega) (m_bad (S := (wI (wI (nxB S a) 179 23 ((a + 3 : Nat) : Int)) 179 27 (nv y a 3))) (show SI (wI (wI (nxB S a) 179 23 ((a + 3 : Nat) : Int)) 179 27 (nv y a 3)) 179 14 = kz from (rI_nj (by decide)).trans ((rI_nj (by decide)).trans ((rI_nj (by decide)).trans ((rI_nj (by decide)).trans hk)))) hz) ?_
              refine sEn (i := .return_) rfl (rfl) ?_
              exact ⟨rfl, rfl⟩
    · exact absurd c2 (by decide)
  · exfalso; omega
end MN
