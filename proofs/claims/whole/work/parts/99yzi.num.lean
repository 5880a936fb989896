/-! ===== the builder: numbers, lengths, chars ===== -/
section BN
variable {X : List Int32} {S : ST} {L : List Nat} {m : Nat}
theorem k1_get {u : Nat} (h : u < 100) : ((List.range 100).map fun j => nI (48 + j % 10))[u]? = some (iI ((48 + u % 10 : Nat) : Int)) ∧ u < 2147483648 := by
  rw [List.getElem?_map, List.getElem?_range h, iI_nI]
  exact ⟨rfl, by omega⟩
theorem k2_get {u : Nat} (h : u < 100) : ((List.range 100).map fun j => nI (48 + j / 10))[u]? = some (iI ((48 + u / 10 : Nat) : Int)) ∧ u < 2147483648 := by
  rw [List.getElem?_map, List.getElem?_range h, iI_nI]
  exact ⟨rfl, by omega⟩
theorem dgt_n (v : Nat) : (dgt v).length = if v < 10 then 1 else if v < 100 then 2 else 3 := by
  unfold dgt
  split
  · rfl
  · split <;> rfl
theorem c_ssz {v : Nat} (h : v < 1000) : sM X 0 268 [.int (iI ((v : Nat) : Int))] S (sV (some (.int (iI (((dgt v).length : Nat) : Int)))) S) := by
  have hd := dgt_n v
  refine sIni (ls := [some (.int (iI ((v : Nat) : Int))), none, none, none]) rfl ?_
  refine sKi (p := 1) rfl rfl ?_
  refine sL (pc' := 2) (i := .istore_n 1) (ls' := [some (.int (iI ((v : Nat) : Int))), some (.int (iI 1)), none, none]) rfl rfl ?_
  refine sL (pc' := 3) (i := .iload_n 0) rfl rfl ?_
  refine sIf_lt (p := 6) rfl rfl ⟨by omega, by omega⟩ (fun c1 => ?_) (fun c1 => ?_)
  · exfalso; omega
  · have c1 := c1
    refine sKi (p := 7) rfl rfl ?_
    refine sL (pc' := 8) (i := .istore_n 1) (ls' := [some (.int (iI ((v : Nat) : Int))), some (.int (iI 0)), none, none]) rfl rfl ?_
    refine sL (pc' := 9) (i := .iload_n 0) rfl rfl ?_
    refine sNg (p := 10) rfl rfl ?_
    refine sL (pc' := 11) (i := .istore_n 0) (ls' := [some (.int (iI (- ((v : Nat) : Int)))), some (.int (iI 0)), none, none]) rfl rfl ?_
    refine sKb (p := 13) rfl rfl ?_
    refine sL (pc' := 14) (i := .istore_n 2) (ls' := [some (.int (iI (- ((v : Nat) : Int)))), some (.int (iI 0)), some (.int (iI (-10))), none]) rfl rfl ?_
    refine sKi (p := 15) rfl rfl ?_
    refine sL (pc' := 16) (i := .istore_n 3) (ls' := [some (.int (iI (- ((v : Nat) : Int)))), some (.int (iI 0)), some (.int (iI (-10))), some (.int (iI 1))]) rfl rfl ?_
    refine sL (pc' := 17) (i := .iload_n 3) rfl rfl ?_
    refine sKb (p := 19) rfl rfl ?_
    refine sIc_ge (p := 22) rfl rfl ⟨by omega, by omega⟩ ⟨by omega, by omega⟩ (fun c2 => ?_) (fun c2 => ?_)
    · exact absurd c2 (by decide)
    · have c2 := c2
      refine sL (pc' := 23) (i := .iload_n 0) rfl rfl ?_
      refine sL (pc' := 24) (i := .iload_n 2) rfl rfl ?_
      refine sIc_le (p := 27) rfl rfl ⟨by omega, by omega⟩ ⟨by omega, by omega⟩ (fun c3 => ?_) (fun c3 => ?_)
      · have c3 := c3
        refine sKb (p := 33) rfl rfl ?_
        refine sL (pc' := 34) (i := .iload_n 2) rfl rfl ?_
        refine sMu (p := 35) rfl rfl ?_
        refine sL (pc' := 36) (i := .istore_n 2) (ls' := [some (.int (iI (- ((v : Nat) : Int)))), some (.int (iI 0)), some (.int (iI (10 * (-10)))), some (.int (iI 1))]) rfl rfl ?_
        refine sInX (z := 1) (ls' := [some (.int (iI (- ((v : Nat) : Int)))), some (.int (iI 0)), some (.int (iI (10 * (-10)))), some (.int (iI (1 + 1)))]) (p := 39) rfl rfl (Nat.le_of_ble_eq_true rfl) rfl rfl ?_
        refine sL (i := .goto (-23)) rfl rfl ?_
        refine sL (pc' := 17) (i := .iload_n 3) rfl rfl ?_
        refine sKb (p := 19) rfl rfl ?_
        refine sIc_ge (p := 22) rfl rfl ⟨by omega, by omega⟩ ⟨by omega, by omega⟩ (fun c4 => ?_) (fun c4 => ?_)
        · exfalso; omega
        · have c4 := c4
          refine sL (pc' := 23) (i := .iload_n 0) rfl rfl ?_
          refine sL (pc' := 24) (i := .iload_n 2) rfl rfl ?_
          refine sIc_le (p := 27) rfl rfl ⟨by omega, by omega⟩ ⟨by omega, by omega⟩ (fun c5 => ?_) (fun c5 => ?_)
          · have c5 := c5
            refine sKb (p := 33) rfl rfl ?_
            refine sL (pc' := 34) (i := .iload_n 2) rfl rfl ?_
            refine sMu (p := 35) rfl rfl ?_
            refine sL (pc' := 36) (i := .istore_n 2) (ls' := [some (.int (iI (- ((v : Nat) : Int)))), some (.int (iI 0)), some (.int (iI (10 * (10 * (-10))))), some (.int (iI (1 + 1)))]) rfl rfl ?_
            refine sInX (z := (1 + 1)) (ls' := [some (.int (iI (- ((v : Nat) : Int)))), some (.int (iI 0)), some (.int (iI (10 * (10 * (-10))))), some (.int (iI ((1 + 1) + 1)))]) (p := 39) rfl rfl (Nat.le_of_ble_eq_true rfl) rfl rfl ?_
            refine sL (i := .goto (-23)) rfl rfl ?_
            refine sL (pc' := 17) (i := .iload_n 3) rfl rfl ?_
            refine sKb (p := 19) rfl rfl ?_
            refine sIc_ge (p := 22) rfl rfl ⟨by omega, by omega⟩ ⟨by omega, by omega⟩ (fun c6 => ?_) (fun c6 => ?_)
            · exfalso; omega
            · have c6 := c6
              refine sL (pc' := 23) (i := .iload_n 0) rfl rfl ?_
              refine sL (pc' := 24) (i := .iload_n 2) rfl rfl ?_
              refine sIc_le (p := 27) rfl rfl ⟨by omega, by omega⟩ ⟨by omega, by omega⟩ (fun c7 => ?_) (fun c7 => ?_)
              · have c7 := c7
                exfalso
                omega
              · have c7 := c7
                refine sL (pc' := 28) (i := .iload_n 3) rfl rfl ?_
                refine sL (pc' := 29) (i := .iload_n 1) rfl rfl ?_
                refine sAd (p := 30) rfl rfl ?_
                refine sEn (i := .ireturn) rfl (rfl) ?_
                refine ⟨congrArg (fun z => some (Value.int (iI z))) ?_, rfl⟩
                rw [hd]
                split <;> first | omega | (split <;> omega)
          · have c5 := c5
            refine sL (pc' := 28) (i := .iload_n 3) rfl rfl ?_
            refine sL (pc' := 29) (i := .iload_n 1) rfl rfl ?_
            refine sAd (p := 30) rfl rfl ?_
            refine sEn (i := .ireturn) rfl (rfl) ?_
            refine ⟨congrArg (fun z => some (Value.int (iI z))) ?_, rfl⟩
            rw [hd]
            split <;> first | omega | (split <;> omega)
      · have c3 := c3
        refine sL (pc' := 28) (i := .iload_n 3) rfl rfl ?_
        refine sL (pc' := 29) (i := .iload_n 1) rfl rfl ?_
        refine sAd (p := 30) rfl rfl ?_
        refine sEn (i := .ireturn) rfl (rfl) ?_
        refine ⟨congrArg (fun z => some (Value.int (iI z))) ?_, rfl⟩
        rw [hd]
        split <;> first | omega | (split <;> omega)
/-- a number's digits were written before the place e of a row; nothing else changed -/
def gcP (S S' : ST) (r v e : Nat) : Prop := S'.1 = S.1 ∧ SL S' = SL S ∧ SR S' = SR S ∧ (∀ c, c ≠ r → SI S' c = SI S c) ∧ (∀ j, j < e - (dgt v).length ∨ e ≤ j → SI S' r j = SI S r j) ∧ ∀ j, j < (dgt v).length → SI S' r (e - (dgt v).length + j) = (((dgt v).getD j 0 : Nat) : Int)
theorem gc_1 {r v e : Nat} (hv : v < 10) (he : 1 ≤ e) : gcP S (wI S r (e - 1) ((48 + v % 10 : Nat) : Int)) r v e := by
  have hn : dgt v = [48 + v] := by unfold dgt; rw [if_pos hv]
  rw [gcP, hn]
  refine ⟨rfl, rfl, rfl, fun c hc => funext fun k => ?_, fun j hj => ?_, fun j hj => ?_⟩
  · rw [SI_wI, if_neg (by omega)]
  · have hj : j < e - 1 ∨ e ≤ j := hj
    rw [SI_wI, if_neg (by omega)]
  · have hj : j < 1 := hj
    obtain rfl : j = 0 := by omega
    show SI (wI S r (e - 1) _) r (e - 1 + 0) = ((48 + v : Nat) : Int)
    rw [SI_wI, if_pos (by omega)]
    omega
theorem gc_2 {r v e : Nat} (hv : 10 ≤ v ∧ v < 100) (he : 2 ≤ e) : gcP S (wI (wI S r (e - 1) ((48 + v % 10 : Nat) : Int)) r (e - 2) ((48 + v / 10 : Nat) : Int)) r v e := by
  have hn : dgt v = [48 + v / 10, 48 + v % 10] := by unfold dgt; rw [if_neg (by omega), if_pos hv.2]
  rw [gcP, hn]
  refine ⟨rfl, rfl, rfl, fun c hc => funext fun k => ?_, fun j hj => ?_, fun j hj => ?_⟩
  · rw [SI_wI, if_neg (by omega), SI_wI, if_neg (by omega)]
  · have hj : j < e - 2 ∨ e ≤ j := hj
    rw [SI_wI, if_neg (by omega), SI_wI, if_neg (by omega)]
  · have hj : j < 2 := hj
    match j, hj with
    | 0, _ =>
      show SI _ r (e - 2 + 0) = ((48 + v / 10 : Nat) : Int)
      rw [SI_wI, if_pos (by omega)]
    | 1, _ =>
      show SI _ r (e - 2 + 1) = ((48 + v % 10 : Nat) : Int)
      rw [SI_wI, if_neg (by omega), SI_wI, if_pos (by omega)]
theorem gc_3 {r v e u w : Nat} (hv : 100 ≤ v ∧ v < 1000) (hu : v = 100 * w + u ∧ u < 100) (he : 3 ≤ e) : gcP S (wI (wI (wI S r (e - 1) ((48 + u % 10 : Nat) : Int)) r (e - 2) ((48 + u / 10 : Nat) : Int)) r (e - 3) ((48 + w % 10 : Nat) : Int)) r v e := by
  have hn : dgt v = [48 + v / 100, 48 + v / 10 % 10, 48 + v % 10] := by unfold dgt; rw [if_neg (by omega), if_neg (by omega)]
  rw [gcP, hn]
  refine ⟨rfl, rfl, rfl, fun c hc => funext fun k => ?_, fun j hj => ?_, fun j hj => ?_⟩
  · rw [SI_wI, if_neg (by omega), SI_wI, if_neg (by omega), SI_wI, if_neg (by omega)]
  · have hj : j < e - 3 ∨ e ≤ j := hj
    rw [SI_wI, if_neg (by omega), SI_wI, if_neg (by omega), SI_wI, if_neg (by omega)]
  · have hj : j < 3 := hj
    match j, hj with
    | 0, _ =>
      show SI _ r (e - 3 + 0) = ((48 + v / 100 : Nat) : Int)
      rw [SI_wI, if_pos (by omega)]
      omega
    | 1, _ =>
      show SI _ r (e - 3 + 1) = ((48 + v / 10 % 10 : Nat) : Int)
      rw [SI_wI, if_neg (by omega), SI_wI, if_pos (by omega)]
      omega
    | 2, _ =>
      show SI _ r (e - 3 + 2) = ((48 + v % 10 : Nat) : Int)
      rw [SI_wI, if_neg (by omega), SI_wI, if_neg (by omega), SI_wI, if_pos (by omega)]
      omega
theorem c_gch {v e r : Nat} (hk : kd S r = some (.inl (3, m))) (hv : v < 1000) (he : (dgt v).length ≤ e) (hem : e ≤ m) (hm : m ≤ 60000) : sM X 1 267 [.int (iI ((v : Nat) : Int)), .int (iI ((e : Nat) : Int)), .ref r] S (fun x S' => (∃ z, x = some (.int (iI z))) ∧ gcP S S' r v e) := by
  have hd := dgt_n v
  have h1 : 1 ≤ e ∧ (v < 10 ∨ 2 ≤ e) ∧ (v < 100 ∨ 3 ≤ e) := by
    rw [hd] at he
    split at he
    · omega
    · split at he <;> omega
  refine sIni (ls := [some (.int (iI ((v : Nat) : Int))), some (.int (iI ((e : Nat) : Int))), some (.ref r), none, none, none, none]) rfl ?_
  refine sL (pc' := 1) (i := .iload_n 1) rfl rfl ?_
  refine sL (pc' := 3) (i := .istore 5) (ls' := [some (.int (iI ((v : Nat) : Int))), some (.int (iI ((e : Nat) : Int))), some (.ref r), none, none, some (.int (iI ((e : Nat) : Int))), none]) rfl rfl ?_
  refine sL (pc' := 4) (i := .iload_n 0) rfl rfl ?_
  refine sIf_ge (p := 7) rfl rfl ⟨by omega, by omega⟩ (fun c1 => ?_) (fun c1 => ?_)
  · have c1 := c1
    refine sKi (p := 12) rfl rfl ?_
    refine sL (pc' := 14) (i := .istore 6) (ls' := [some (.int (iI ((v : Nat) : Int))), some (.int (iI ((e : Nat) : Int))), some (.ref r), none, none, some (.int (iI ((e : Nat) : Int))), some (.int (iI 0))]) rfl rfl ?_
    refine sL (pc' := 16) (i := .iload 6) rfl rfl ?_
    refine sIf_ne (p := 19) rfl rfl ⟨by omega, by omega⟩ (fun c2 => ?_) (fun c2 => ?_)
    · exact absurd c2 (by decide)
    · have c2 := c2
      refine sL (pc' := 20) (i := .iload_n 0) rfl rfl ?_
      refine sNg (p := 21) rfl rfl ?_
      refine sL (pc' := 22) (i := .istore_n 0) (ls' := [some (.int (iI (- ((v : Nat) : Int)))), some (.int (iI ((e : Nat) : Int))), some (.ref r), none, none, some (.int (iI ((e : Nat) : Int))), some (.int (iI 0))]) rfl rfl ?_
      refine sL (pc' := 23) (i := .iload_n 0) rfl rfl ?_
      refine sKb (p := 25) rfl rfl ?_
      refine sIc_gt (p := 28) rfl rfl ⟨by omega, by omega⟩ ⟨by omega, by omega⟩ (fun c3 => ?_) (fun c3 => ?_)
      · have c3 := c3
        have hva : v < 100 := by omega
        refine sL (pc' := 73) (i := .aload_n 2) rfl rfl ?_
        refine sInX (z := ((e : Nat) : Int)) (ls' := [some (.int (iI (- ((v : Nat) : Int)))), some (.int (iI ((e : Nat) : Int))), some (.ref r), none, none, some (.int (iI (((e : Nat) : Int) + (-1)))), some (.int (iI 0))]) (p := 76) rfl rfl (Nat.le_of_ble_eq_true rfl) rfl rfl ?_
        refine sL (pc' := 78) (i := .iload 5) rfl rfl ?_
        refine sNp (p := 81) rfl rfl (by decide) ?_
        refine sL (pc' := 82) (i := .iload_n 0) rfl rfl ?_
        refine sNg (p := 83) rfl rfl ?_
        refine sKy (p := 84) (j := v) rfl rfl rfl (by omega) (k1_get (by omega)) ?_
        refine sWb (i := e - 1) (w := ((48 + v % 10 : Nat) : Int)) rfl rfl hk (by omega) ⟨by omega, by omega⟩ (i8_s (48 + v % 10) (by omega)) ?_
        refine sL (pc' := 86) (i := .iload_n 0) rfl rfl ?_
        refine sKb (p := 88) rfl rfl ?_
        refine sIc_ge (p := 91) rfl rfl ⟨by omega, by omega⟩ ⟨by omega, by omega⟩ (fun c4 => ?_) (fun c4 => ?_)
        · have c4 := c4
          refine sL (pc' := 106) (i := .iload 6) rfl rfl ?_
          refine sIf_eq (p := 109) rfl rfl ⟨by omega, by omega⟩ (fun c5 => ?_) (fun c5 => ?_)
          · have c5 := c5
            refine sL (pc' := 120) (i := .iload 5) rfl rfl ?_
            refine sEn (i := .ireturn) rfl (rfl) ?_
            exact ⟨⟨_, rfl⟩, gc_1 (by omega) (by omega)⟩
          · exact absurd c5 (by decide)
        · have c4 := c4
          refine sL (pc' := 92) (i := .aload_n 2) rfl rfl ?_
          refine sInX (z := (((e : Nat) : Int) + (-1))) (ls' := [some (.int (iI (- ((v : Nat) : Int)))), some (.int (iI ((e : Nat) : Int))), some (.ref r), none, none, some (.int (iI ((((e : Nat) : Int) + (-1)) + (-1)))), some (.int (iI 0))]) (p := 95) rfl rfl (Nat.le_of_ble_eq_true rfl) rfl rfl ?_
          refine sL (pc' := 97) (i := .iload 5) rfl rfl ?_
          refine sNp (p := 100) rfl rfl (by decide) ?_
          refine sL (pc' := 101) (i := .iload_n 0) rfl rfl ?_
          refine sNg (p := 102) rfl rfl ?_
          refine sKy (p := 103) (j := v) rfl rfl rfl (by omega) (k2_get (by omega)) ?_
          refine sWb (i := e - 2) (w := ((48 + v / 10 : Nat) : Int)) rfl rfl hk (by omega) ⟨by omega, by omega⟩ (i8_s (48 + v / 10) (by omega)) ?_
          refine sL (pc' := 106) (i := .iload 6) rfl rfl ?_
          refine sIf_eq (p := 109) rfl rfl ⟨by omega, by omega⟩ (fun c6 => ?_) (fun c6 => ?_)
          · have c6 := c6
            refine sL (pc' := 120) (i := .iload 5) rfl rfl ?_
            refine sEn (i := .ireturn) rfl (rfl) ?_
            exact ⟨⟨_, rfl⟩, gc_2 ⟨by omega, by omega⟩ (by omega)⟩
          · exact absurd c6 (by decide)
      · have c3 := c3
        have hvb : 100 ≤ v := by omega
        refine sL (pc' := 29) (i := .iload_n 0) rfl rfl ?_
        refine sKb (p := 31) rfl rfl ?_
        refine sDn (p := 32) (a := ((v : Nat) : Int)) (b := 100) rfl rfl ⟨by omega, by omega⟩ ⟨by omega, by omega⟩ ?_
        obtain ⟨w, hw⟩ : ∃ w : Nat, w = v / 100 := ⟨_, rfl⟩
        obtain ⟨u, hu⟩ : ∃ u : Nat, u = v % 100 := ⟨_, rfl⟩
        rw [show ((v : Nat) : Int) / 100 = ((w : Nat) : Int) from by omega]
        refine sL (pc' := 33) (i := .istore_n 3) (ls' := [some (.int (iI (- ((v : Nat) : Int)))), some (.int (iI ((e : Nat) : Int))), some (.ref r), some (.int (iI (- ((w : Nat) : Int)))), none, some (.int (iI ((e : Nat) : Int))), some (.int (iI 0))]) rfl rfl ?_
        refine sL (pc' := 34) (i := .iload_n 3) rfl rfl ?_
        refine sKb (p := 36) rfl rfl ?_
        refine sMu (p := 37) rfl rfl ?_
        refine sL (pc' := 38) (i := .iload_n 0) rfl rfl ?_
        refine sSb (p := 39) rfl rfl ?_
        rw [show (((- ((w : Nat) : Int)) * 100) - (- ((v : Nat) : Int)) : Int) = ((u : Nat) : Int) from by omega]
        refine sL (pc' := 41) (i := .istore 4) (ls' := [some (.int (iI (- ((v : Nat) : Int)))), some (.int (iI ((e : Nat) : Int))), some (.ref r), some (.int (iI (- ((w : Nat) : Int)))), some (.int (iI ((u : Nat) : Int))), some (.int (iI ((e : Nat) : Int))), some (.int (iI 0))]) rfl rfl ?_
        refine sL (pc' := 42) (i := .iload_n 3) rfl rfl ?_
        refine sL (pc' := 43) (i := .istore_n 0) (ls' := [some (.int (iI (- ((w : Nat) : Int)))), some (.int (iI ((e : Nat) : Int))), some (.ref r), some (.int (iI (- ((w : Nat) : Int)))), some (.int (iI ((u : Nat) : Int))), some (.int (iI ((e : Nat) : Int))), some (.int (iI 0))]) rfl rfl ?_
        refine sL (pc' := 44) (i := .aload_n 2) rfl rfl ?_
        refine sInX (z := ((e : Nat) : Int)) (ls' := [some (.int (iI (- ((w : Nat) : Int)))), some (.int (iI ((e : Nat) : Int))), some (.ref r), some (.int (iI (- ((w : Nat) : Int)))), some (.int (iI ((u : Nat) : Int))), some (.int (iI (((e : Nat) : Int) + (-1)))), some (.int (iI 0))]) (p := 47) rfl rfl (Nat.le_of_ble_eq_true rfl) rfl rfl ?_
        refine sL (pc' := 49) (i := .iload 5) rfl rfl ?_
        refine sNp (p := 52) rfl rfl (by decide) ?_
        refine sL (pc' := 54) (i := .iload 4) rfl rfl ?_
        refine sKy (p := 55) (j := u) rfl rfl rfl (by omega) (k1_get (by omega)) ?_
        refine sWb (i := e - 1) (w := ((48 + u % 10 : Nat) : Int)) rfl rfl hk (by omega) ⟨by omega, by omega⟩ (i8_s (48 + u % 10) (by omega)) ?_
        refine sL (pc' := 57) (i := .aload_n 2) rfl rfl ?_
        refine sInX (z := (((e : Nat) : Int) + (-1))) (ls' := [some (.int (iI (- ((w : Nat) : Int)))), some (.int (iI ((e : Nat) : Int))), some (.ref r), some (.int (iI (- ((w : Nat) : Int)))), some (.int (iI ((u : Nat) : Int))), some (.int (iI ((((e : Nat) : Int) + (-1)) + (-1)))), some (.int (iI 0))]) (p := 60) rfl rfl (Nat.le_of_ble_eq_true rfl) rfl rfl ?_
        refine sL (pc' := 62) (i := .iload 5) rfl rfl ?_
        refine sNp (p := 65) rfl rfl (by decide) ?_
        refine sL (pc' := 67) (i := .iload 4) rfl rfl ?_
        refine sKy (p := 68) (j := u) rfl rfl rfl (by omega) (k2_get (by omega)) ?_
        refine sWb (i := e - 2) (w := ((48 + u / 10 : Nat) : Int)) rfl rfl hk (by omega) ⟨by omega, by omega⟩ (i8_s (48 + u / 10) (by omega)) ?_
        refine sL (i := .goto (-47)) rfl rfl ?_
        refine sL (pc' := 23) (i := .iload_n 0) rfl rfl ?_
        refine sKb (p := 25) rfl rfl ?_
        refine sIc_gt (p := 28) rfl rfl ⟨by omega, by omega⟩ ⟨by omega, by omega⟩ (fun c7 => ?_) (fun c7 => ?_)
        · have c7 := c7
          refine sL (pc' := 73) (i := .aload_n 2) rfl rfl ?_
          refine sInX (z := ((((e : Nat) : Int) + (-1)) + (-1))) (ls' := [some (.int (iI (- ((w : Nat) : Int)))), some (.int (iI ((e : Nat) : Int))), some (.ref r), some (.int (iI (- ((w : Nat) : Int)))), some (.int (iI ((u : Nat) : Int))), some (.int (iI (((((e : Nat) : Int) + (-1)) + (-1)) + (-1)))), some (.int (iI 0))]) (p := 76) rfl rfl (Nat.le_of_ble_eq_true rfl) rfl rfl ?_
          refine sL (pc' := 78) (i := .iload 5) rfl rfl ?_
          refine sNp (p := 81) rfl rfl (by decide) ?_
          refine sL (pc' := 82) (i := .iload_n 0) rfl rfl ?_
          refine sNg (p := 83) rfl rfl ?_
          refine sKy (p := 84) (j := w) rfl rfl rfl (by omega) (k1_get (by omega)) ?_
          refine sWb (i := e - 3) (w := ((48 + w % 10 : Nat) : Int)) rfl rfl hk (by omega) ⟨by omega, by omega⟩ (i8_s (48 + w % 10) (by omega)) ?_
          refine sL (pc' := 86) (i := .iload_n 0) rfl rfl ?_
          refine sKb (p := 88) rfl rfl ?_
          refine sIc_ge (p := 91) rfl rfl ⟨by omega, by omega⟩ ⟨by omega, by omega⟩ (fun c8 => ?_) (fun c8 => ?_)
          · have c8 := c8
            refine sL (pc' := 106) (i := .iload 6) rfl rfl ?_
            refine sIf_eq (p := 109) rfl rfl ⟨by omega, by omega⟩ (fun c9 => ?_) (fun c9 => ?_)
            · have c9 := c9
              refine sL (pc' := 120) (i := .iload 5) rfl rfl ?_
              refine sEn (i := .ireturn) rfl (rfl) ?_
              exact ⟨⟨_, rfl⟩, gc_3 ⟨by omega, by omega⟩ ⟨by omega, by omega⟩ (by omega)⟩
            · exact absurd c9 (by decide)
          · have c8 := c8
            exfalso
            omega
        · have c7 := c7
          exfalso
          omega
  · exfalso; omega
theorem num_ok {S' : ST} {r v : Nat} (hs : sbB S L m) (hr : SR S 177 0 = r) (hg : gcP S S' r v (L.length + (dgt v).length)) (hm : L.length + (dgt v).length ≤ m) (hv : v < 1000) : sbB (wI S' 177 3 ((L.length + (dgt v).length : Nat) : Int)) (L ++ dgt v) m ∧ frU S (wI S' 177 3 ((L.length + (dgt v).length : Nat) : Int)) m m := by
  obtain ⟨k1, k2, k3, k4, k5, k6, k7, k8⟩ := hs
  rw [hr] at k1 k2 k7 k8
  obtain ⟨g1, g2, g3, g4, g5, g6⟩ := hg
  have hr7 : r ≠ 177 := by omega
  have e0 : ∀ c, c ≠ 177 → SI (wI S' 177 3 ((L.length + (dgt v).length : Nat) : Int)) c = SI S' c := fun c hc => funext fun k => rI_ne hc k
  have e7 : ∀ k, k ≠ 3 → SI (wI S' 177 3 ((L.length + (dgt v).length : Nat) : Int)) 177 k = SI S 177 k := fun k hk => by
    rw [SI_wI, if_neg (by omega), g4 177 (fun z => hr7 z.symm)]
  have eR : SR (wI S' 177 3 ((L.length + (dgt v).length : Nat) : Int)) 177 0 = r := by
    show SR S' 177 0 = r
    rw [g3]
    exact hr
  have hd : ∀ j, j < (dgt v).length → (dgt v).getD j 0 < 128 := by
    intro j hj
    have hj3 := dgt_b v
    have : ∀ x ∈ dgt v, x < 128 := by
      unfold dgt
      split
      · intro x hx
        obtain rfl := List.mem_singleton.mp hx
        omega
      · split
        · intro x hx
          simp only [List.mem_cons, List.not_mem_nil, or_false] at hx
          omega
        · intro x hx
          simp only [List.mem_cons, List.not_mem_nil, or_false] at hx
          omega
    rw [List.getD_eq_getElem?_getD, List.getElem?_eq_getElem hj]
    exact this _ (List.getElem_mem hj)
  refine ⟨⟨?_, by rw [eR]; exact k2, by rw [List.length_append]; exact hm, k4, ?_, ?_, ?_, ?_⟩, ⟨[], ?_⟩, fun c h1 h2 h3 => ?_, fun c _ => ?_, fun c _ _ => ?_, Or.inl ?_, Nat.le_refl _, ?_, ?_⟩
  · rw [eR]
    exact (kd_cg (S := S) (S' := wI S' 177 3 _) g1 r).trans k1
  · rw [e7 1 (by decide)]
    exact k5
  · rw [rI_at, List.length_append]
  · intro j hj
    rw [List.length_append] at hj
    rw [eR, e0 r hr7]
    by_cases c : j < L.length
    · rw [g5 j (Or.inl (by omega)), List.getD_eq_getElem?_getD, List.getElem?_append_left c, ← List.getD_eq_getElem?_getD]
      exact k7 j c
    · have h9 := g6 (j - L.length) (by omega)
      rw [show L.length + (dgt v).length - (dgt v).length + (j - L.length) = j from by omega] at h9
      rw [h9, List.getD_eq_getElem?_getD (l := L ++ dgt v), List.getElem?_append_right (by omega), ← List.getD_eq_getElem?_getD]
      exact ⟨rfl, hd _ (by omega)⟩
  · intro j hj
    rw [eR, e0 r hr7]
    by_cases c : j < L.length ∨ L.length + (dgt v).length ≤ j
    · rw [g5 j (by omega)]
      exact k8 j hj
    · have h9 := g6 (j - L.length) (by omega)
      rw [show L.length + (dgt v).length - (dgt v).length + (j - L.length) = j from by omega] at h9
      rw [h9]
      have := hd (j - L.length) (by omega)
      omega
  · exact g1.trans (List.append_nil _).symm
  · rw [hr] at h3
    rw [e0 c h2, g4 c h3]
  · show SL S' c = SL S c
    rw [g2]
  · show SR S' c = SR S c
    rw [g3]
  · rw [eR, hr]
  · unfold tz
    rw [show (wI S' 177 3 ((L.length + (dgt v).length : Nat) : Int)).1 = S.1 from g1]
    exact Nat.le_refl _
  · rw [show (wI S' 177 3 ((L.length + (dgt v).length : Nat) : Int)).1 = S.1 from g1]
    exact Nat.le_refl _
theorem c_appI {c : Nat} (hs : sbB S L m) (hc : c < 1000) (hl : L.length + 3 ≤ 20000) : sM X 5 259 [.ref 177, .int (iI ((c : Nat) : Int))] S (fun r S' => r = some (.ref 177) ∧ ∃ m', sbB S' (L ++ dgt c) m' ∧ frU S S' m m') := by
  have hdb := dgt_b c
  obtain ⟨dn, hdn⟩ : ∃ dn, dn = (dgt c).length := ⟨_, rfl⟩
  rw [← hdn] at hdb
  refine sIni (ls := [some (.ref 177), some (.int (iI ((c : Nat) : Int))), none, none]) rfl ?_
  refine sL (pc' := 1) (i := .aload_n 0) rfl rfl ?_
  refine sGi (p := 4) rfl rfl (sk_177 _) rfl rfl rfl hs.2.2.2.2.2.1 ?_
  refine sL (pc' := 5) (i := .istore_n 2) (ls' := [some (.ref 177), some (.int (iI ((c : Nat) : Int))), some (.int (iI ((L.length : Nat) : Int))), none]) rfl rfl ?_
  refine sL (pc' := 6) (i := .iload_n 2) rfl rfl ?_
  refine sL (pc' := 7) (i := .iload_n 1) rfl rfl ?_
  refine sCs (p := 10) (as := [_]) rfl rfl rfl rfl (by decide) (Nat.le_of_ble_eq_true rfl) rfl (Nat.le_of_ble_eq_true rfl) rfl (by omega) (c_ssz hc) ?_
  rw [← hdn]
  refine sAd (p := 11) rfl rfl ?_
  rw [show ((((L.length : Nat) : Int) + ((dn : Nat) : Int)) : Int) = ((L.length + dn : Nat) : Int) from by omega]
  refine sL (pc' := 12) (i := .istore_n 3) (ls' := [some (.ref 177), some (.int (iI ((c : Nat) : Int))), some (.int (iI ((L.length : Nat) : Int))), some (.int (iI ((L.length + dn : Nat) : Int)))]) rfl rfl ?_
  refine sL (pc' := 13) (i := .aload_n 0) rfl rfl ?_
  refine sL (pc' := 14) (i := .iload_n 3) rfl rfl ?_
  refine sCvQ (p := 17) (as := [_]) rfl rfl rfl rfl (by decide) (Nat.le_of_ble_eq_true rfl) rfl (Nat.le_of_ble_eq_true rfl) (sk_177 _) rfl (by omega) (c_ens (q := L.length + dn) hs (by omega)) ?_
  rintro _ S1 ⟨rfl, m1, b1, q1, f1⟩
  obtain ⟨v, hv⟩ : ∃ v, SR S1 177 0 = v := ⟨_, rfl⟩
  obtain ⟨k1, k2, k3, k4, k5, k6, k7, k8⟩ := id b1
  rw [hv] at k1 k2 k7 k8
  refine sL (pc' := 18) (i := .aload_n 0) rfl rfl ?_
  refine sCv (p := 21) (as := []) rfl rfl rfl rfl (by decide) (Nat.le_of_ble_eq_true rfl) rfl (Nat.le_of_ble_eq_true rfl) (sk_177 _) rfl (by omega) (c_lat k5) ?_
  refine sBe (p := 24) rfl rfl (fun c1 => ?_) (fun c1 => ?_)
  · exact absurd c1 (by decide)
  · have c1 := c1
    refine sL (pc' := 25) (i := .iload_n 1) rfl rfl ?_
    refine sL (pc' := 26) (i := .iload_n 3) rfl rfl ?_
    refine sL (pc' := 27) (i := .aload_n 0) rfl rfl ?_
    refine sGr (p := 30) rfl rfl (sk_177 _) rfl rfl rfl hv ?_
    refine sCsQ (p := 33) (as := [_, _, _]) rfl rfl rfl rfl (by decide) (Nat.le_of_ble_eq_true rfl) rfl (Nat.le_of_ble_eq_true rfl) rfl (by omega) (c_gch (v := c) (e := L.length + dn) k1 hc (by omega) (by omega) (by omega)) ?_
    rintro _ S2 ⟨⟨zz, rfl⟩, hg⟩
    rw [hdn] at hg q1
    refine sL (pc' := 34) (i := .pop) rfl rfl ?_
    refine sL (i := .goto 14) rfl rfl ?_
    refine sL (pc' := 49) (i := .aload_n 0) rfl rfl ?_
    refine sL (pc' := 50) (i := .iload_n 3) rfl rfl ?_
    refine sPi (z := ((L.length + dn : Nat) : Int)) (p := 53) rfl rfl (sk_177 _) rfl rfl rfl rfl ?_
    refine sL (pc' := 54) (i := .aload_n 0) rfl rfl ?_
    refine sEn (i := .areturn) rfl (rfl) ?_
    have e9 := num_ok b1 hv hg (by omega) hc
    rw [← hdn] at e9
    exact ⟨rfl, m1, e9.1, frU_trans f1 e9.2⟩
theorem c_num {c : Nat} (hs : sbB S L m) (hc : c < 1000) (hl : L.length + 3 ≤ 20000) : sM X 12 288 [.ref 177, .int (iI ((c : Nat) : Int))] S (fun r S' => r = some (.ref 177) ∧ ∃ m', sbB S' (L ++ dgt c) m' ∧ frU S S' m m') := by
  refine sIni (ls := [some (.ref 177), some (.int (iI ((c : Nat) : Int)))]) rfl ?_
  refine sL (pc' := 1) (i := .aload_n 0) rfl rfl ?_
  refine sL (pc' := 2) (i := .iload_n 1) rfl rfl ?_
  refine sCiQ (p := 5) (as := [_]) rfl rfl rfl rfl (by decide) (Nat.le_of_ble_eq_true rfl) rfl (Nat.le_of_ble_eq_true rfl) (sk_177 _) (Nat.succ_ne_zero _) (by omega) (c_appI hs hc hl) ?_
  rintro _ S1 ⟨rfl, h1⟩
  refine sL (pc' := 6) (i := .pop) rfl rfl ?_
  refine sL (pc' := 7) (i := .aload_n 0) rfl rfl ?_
  refine sEn (i := .areturn) rfl (rfl) ?_
  exact ⟨rfl, h1⟩
theorem cut_ok {x : Int} (hs : sbB S L m) : sbB (wI S 177 3 0) [] m ∧ frU S (wI S 177 3 0) m m ∧ sbB (wI (wI S 177 2 x) 177 3 0) [] m ∧ frU S (wI (wI S 177 2 x) 177 3 0) m m := by
  obtain ⟨k1, k2, k3, k4, k5, k6, k7, k8⟩ := hs
  have hr7 : SR S 177 0 ≠ 177 := by omega
  refine ⟨⟨k1, k2, Nat.zero_le _, k4, ?_, ?_, fun j hj => absurd hj (Nat.not_lt_zero _), fun j hj => ?_⟩, ⟨⟨[], (List.append_nil _).symm⟩, fun c h1 h2 h3 => funext fun k => ?_, fun c _ => rfl, fun c _ _ => rfl, Or.inl rfl, Nat.le_refl _, Nat.le_refl _, Nat.le_refl _⟩, ⟨k1, k2, Nat.zero_le _, k4, ?_, ?_, fun j hj => absurd hj (Nat.not_lt_zero _), fun j hj => ?_⟩, ⟨⟨[], (List.append_nil _).symm⟩, fun c h1 h2 h3 => funext fun k => ?_, fun c _ => rfl, fun c _ _ => rfl, Or.inl rfl, Nat.le_refl _, Nat.le_refl _, Nat.le_refl _⟩⟩
  · rw [SI_wI, if_neg (by omega)]
    exact k5
  · exact rI_at
  · show -128 ≤ SI (wI S 177 3 0) (SR S 177 0) j ∧ SI (wI S 177 3 0) (SR S 177 0) j ≤ 127
    rw [rI_ne hr7]
    exact k8 j hj
  · exact rI_ne h2 k
  · rw [SI_wI, if_neg (by omega), SI_wI, if_neg (by omega)]
    exact k5
  · exact rI_at
  · show -128 ≤ SI (wI (wI S 177 2 x) 177 3 0) (SR S 177 0) j ∧ SI (wI (wI S 177 2 x) 177 3 0) (SR S 177 0) j ≤ 127
    rw [rI_ne hr7, rI_ne hr7]
    exact k8 j hj
  · rw [rI_ne h2, rI_ne h2]
theorem c_cut0 (hs : sbB S L m) : sM X 4 251 [.ref 177, .int (iI 0)] S (sV none S) := by
  obtain ⟨v, hv⟩ : ∃ v, SR S 177 0 = v := ⟨_, rfl⟩
  obtain ⟨k1, k2, k3, k4, k5, k6, k7, k8⟩ := hs
  rw [hv] at k1 k2 k7 k8
  refine sIni (ls := [some (.ref 177), some (.int (iI 0)), none]) rfl ?_
  refine sL (pc' := 1) (i := .aload_n 0) rfl rfl ?_
  refine sGr (p := 4) rfl rfl (sk_177 _) rfl rfl rfl hv ?_
  refine sLn (p := 5) rfl rfl k1 (by decide) ?_
  refine sL (pc' := 6) (i := .aload_n 0) rfl rfl ?_
  refine sGi (p := 9) rfl rfl (sk_177 _) rfl rfl rfl k5 ?_
  refine sSr0 (p := 10) (a := ((m : Nat) : Int)) rfl rfl ⟨by omega, by omega⟩ ?_
  refine sL (pc' := 11) (i := .istore_n 2) (ls' := [some (.ref 177), some (.int (iI 0)), some (.int (iI ((m : Nat) : Int)))]) rfl rfl ?_
  refine sL (pc' := 12) (i := .iload_n 1) rfl rfl ?_
  refine sL (pc' := 13) (i := .iload_n 2) rfl rfl ?_
  refine sSb (p := 14) rfl rfl ?_
  refine sIf_le (p := 17) rfl rfl ⟨by omega, by omega⟩ (fun c1 => ?_) (fun c1 => ?_)
  · have c1 := c1
    refine sEn (i := .return_) rfl (rfl) ?_
    exact ⟨rfl, rfl⟩
  · exfalso; omega
theorem c_setL (hs : sbB S L m) : sM X 5 254 [.ref 177, .int (iI 0)] S (fun r S' => r = none ∧ sbB S' [] m ∧ frU S S' m m) := by
  have hlm : L.length ≤ 60000 := Nat.le_trans hs.2.2.1 hs.2.2.2.1
  refine sIni (ls := [some (.ref 177), some (.int (iI 0))]) rfl ?_
  refine sL (pc' := 1) (i := .iload_n 1) rfl rfl ?_
  refine sIf_ge (p := 4) rfl rfl ⟨by omega, by omega⟩ (fun c1 => ?_) (fun c1 => ?_)
  · have c1 := c1
    refine sL (pc' := 14) (i := .aload_n 0) rfl rfl ?_
    refine sL (pc' := 15) (i := .iload_n 1) rfl rfl ?_
    refine sCv (p := 18) (as := [_]) rfl rfl rfl rfl (by decide) (Nat.le_of_ble_eq_true rfl) rfl (Nat.le_of_ble_eq_true rfl) (sk_177 _) rfl (by omega) (c_cut0 hs) ?_
    refine sL (pc' := 19) (i := .aload_n 0) rfl rfl ?_
    refine sGi (p := 22) rfl rfl (sk_177 _) rfl rfl rfl hs.2.2.2.2.2.1 ?_
    refine sL (pc' := 23) (i := .iload_n 1) rfl rfl ?_
    refine sIc_ge (p := 26) rfl rfl ⟨by omega, by omega⟩ ⟨by omega, by omega⟩ (fun c2 => ?_) (fun c2 => ?_)
    · have c2 := c2
      refine sL (pc' := 64) (i := .aload_n 0) rfl rfl ?_
      refine sGi (p := 67) rfl rfl (sk_177 _) rfl rfl rfl hs.2.2.2.2.2.1 ?_
      refine sL (pc' := 68) (i := .iload_n 1) rfl rfl ?_
      refine sIc_le (p := 71) rfl rfl ⟨by omega, by omega⟩ ⟨by omega, by omega⟩ (fun c3 => ?_) (fun c3 => ?_)
      · have c3 := c3
        refine sL (pc' := 77) (i := .aload_n 0) rfl rfl ?_
        refine sL (pc' := 78) (i := .iload_n 1) rfl rfl ?_
        refine sPi (z := 0) (p := 81) rfl rfl (sk_177 _) rfl rfl rfl rfl ?_
        refine sEn (i := .return_) rfl (rfl) ?_
        exact ⟨rfl, (cut_ok (x := 0) hs).1, (cut_ok (x := 0) hs).2.1⟩
      · have c3 := c3
        refine sL (pc' := 72) (i := .aload_n 0) rfl rfl ?_
        refine sKi (p := 73) rfl rfl ?_
        refine sPz (b := true) (p := 76) rfl rfl (sk_177 _) rfl rfl rfl rfl ?_
        refine sL (pc' := 77) (i := .aload_n 0) rfl rfl ?_
        refine sL (pc' := 78) (i := .iload_n 1) rfl rfl ?_
        refine sPi (z := 0) (p := 81) rfl rfl (sk_177 _) rfl rfl rfl rfl ?_
        refine sEn (i := .return_) rfl (rfl) ?_
        exact ⟨rfl, (cut_ok (x := bI true) hs).2.2.1, (cut_ok (x := bI true) hs).2.2.2⟩
    · exfalso; omega
  · exact absurd c1 (by decide)
theorem c_setS (hs : sbB S L m) : sM X 12 291 [.ref 177, .int (iI 0)] S (fun r S' => r = none ∧ sbB S' [] m ∧ frU S S' m m) := by
  refine sIni (ls := [some (.ref 177), some (.int (iI 0))]) rfl ?_
  refine sL (pc' := 1) (i := .aload_n 0) rfl rfl ?_
  refine sL (pc' := 2) (i := .iload_n 1) rfl rfl ?_
  refine sCiQ (p := 5) (as := [_]) rfl rfl rfl rfl (by decide) (Nat.le_of_ble_eq_true rfl) rfl (Nat.le_of_ble_eq_true rfl) (sk_177 _) (Nat.succ_ne_zero _) (by omega) (c_setL hs) ?_
  rintro _ S1 ⟨rfl, h1⟩
  refine sEn (i := .return_) rfl (rfl) ?_
  exact ⟨rfl, h1⟩
theorem c_pci {i n : Nat} (h : i < n ∧ n < 100000) : sM X 0 331 [.int (iI ((i : Nat) : Int)), .int (iI ((n : Nat) : Int)), .retAddr 5] S (sV (some (.int (iI ((i : Nat) : Int)))) S) := by
  refine sIni (ls := [some (.int (iI ((i : Nat) : Int))), some (.int (iI ((n : Nat) : Int))), some (.retAddr 5)]) rfl ?_
  refine sL (pc' := 1) (i := .iload_n 0) rfl rfl ?_
  refine sIf_lt (p := 4) rfl rfl ⟨by omega, by omega⟩ (fun c1 => ?_) (fun c1 => ?_)
  · exfalso; omega
  · have c1 := c1
    refine sL (pc' := 5) (i := .iload_n 0) rfl rfl ?_
    refine sL (pc' := 6) (i := .iload_n 1) rfl rfl ?_
    refine sIc_lt (p := 9) rfl rfl ⟨by omega, by omega⟩ ⟨by omega, by omega⟩ (fun c2 => ?_) (fun c2 => ?_)
    · have c2 := c2
      refine sL (pc' := 17) (i := .iload_n 0) rfl rfl ?_
      refine sEn (i := .ireturn) rfl (rfl) ?_
      exact ⟨rfl, rfl⟩
    · exfalso; omega
theorem c_sci {i n : Nat} (h : i < n ∧ n < 100000) : sM X 1 282 [.int (iI ((i : Nat) : Int)), .int (iI ((n : Nat) : Int))] S (sV none S) := by
  refine sIni (ls := [some (.int (iI ((i : Nat) : Int))), some (.int (iI ((n : Nat) : Int)))]) rfl ?_
  refine sL (pc' := 1) (i := .iload_n 0) rfl rfl ?_
  refine sL (pc' := 2) (i := .iload_n 1) rfl rfl ?_
  refine sNp (p := 5) rfl rfl (by decide) ?_
  refine sCs (p := 8) (as := [_, _, _]) rfl rfl rfl rfl (by decide) (Nat.le_of_ble_eq_true rfl) rfl (Nat.le_of_ble_eq_true rfl) rfl (by omega) (c_pci h) ?_
  refine sL (pc' := 9) (i := .pop) rfl rfl ?_
  refine sEn (i := .return_) rfl (rfl) ?_
  exact ⟨rfl, rfl⟩
theorem ch_e {c : Nat} (h : c < 128) : xx_end .ireturn (some .char) [.int (iI ((c : Nat) : Int))] = some (some (.int (iI ((c : Nat) : Int)))) := by
  have h1 : xx_fit .char (.int (iI ((c : Nat) : Int))) = true := by
    show (decide (iI 0 ≤ iI ((c : Nat) : Int)) && decide (iI ((c : Nat) : Int) ≤ iI 65535)) = true
    rw [decide_eq_true ((iI_le ⟨by omega, by omega⟩ ⟨by omega, by omega⟩).mpr (by omega)), decide_eq_true ((iI_le ⟨by omega, by omega⟩ ⟨by omega, by omega⟩).mpr (by omega))]
    rfl
  show (if ((some FieldType.char).any fun ty => (ty == .int || ty == .boolean || ty == .byte || ty == .char) && xx_fit ty (.int (iI ((c : Nat) : Int)))) = true then some (some (Value.int (iI ((c : Nat) : Int)))) else none) = _
  rw [if_pos (by show (true && xx_fit .char (.int (iI ((c : Nat) : Int)))) = true; rw [h1]; rfl)]
theorem c_chA {i : Nat} (hs : sbB S L m) (hi : i < L.length) : sM X 3 255 [.ref 177, .int (iI ((i : Nat) : Int))] S (sV (some (.int (iI ((L.getD i 0 : Nat) : Int)))) S) := by
  obtain ⟨v, hv⟩ : ∃ v, SR S 177 0 = v := ⟨_, rfl⟩
  obtain ⟨k1, k2, k3, k4, k5, k6, k7, k8⟩ := hs
  rw [hv] at k1 k2 k7 k8
  have h9 := k7 i hi
  obtain ⟨c, hc⟩ : ∃ c, c = L.getD i 0 := ⟨_, rfl⟩
  rw [← hc] at h9 ⊢
  refine sIni (ls := [some (.ref 177), some (.int (iI ((i : Nat) : Int))), none, none, none]) rfl ?_
  refine sL (pc' := 1) (i := .aload_n 0) rfl rfl ?_
  refine sGi (p := 4) rfl rfl (sk_177 _) rfl rfl rfl k5 ?_
  refine sL (pc' := 5) (i := .istore_n 2) (ls' := [some (.ref 177), some (.int (iI ((i : Nat) : Int))), some (.int (iI 0)), none, none]) rfl rfl ?_
  refine sL (pc' := 6) (i := .aload_n 0) rfl rfl ?_
  refine sGr (p := 9) rfl rfl (sk_177 _) rfl rfl rfl hv ?_
  refine sL (pc' := 10) (i := .astore_n 3) (ls' := [some (.ref 177), some (.int (iI ((i : Nat) : Int))), some (.int (iI 0)), some (.ref v), none]) rfl rfl ?_
  refine sL (pc' := 11) (i := .aload_n 0) rfl rfl ?_
  refine sGi (p := 14) rfl rfl (sk_177 _) rfl rfl rfl k6 ?_
  refine sL (pc' := 15) (i := .aload_n 3) rfl rfl ?_
  refine sLn (p := 16) rfl rfl k1 (by decide) ?_
  refine sL (pc' := 17) (i := .iload_n 2) rfl rfl ?_
  refine sSr0 (p := 18) (a := ((m : Nat) : Int)) rfl rfl ⟨by omega, by omega⟩ ?_
  refine sCs (p := 21) (as := [_, _]) rfl rfl rfl rfl (by decide) (Nat.le_of_ble_eq_true rfl) rfl (Nat.le_of_ble_eq_true rfl) rfl (by omega) (c_min (x := ((L.length : Nat) : Int)) (y := ((m : Nat) : Int)) ⟨by omega, by omega⟩ ⟨by omega, by omega⟩) ?_
  rw [if_neg (by omega)]
  refine sL (pc' := 23) (i := .istore 4) (ls' := [some (.ref 177), some (.int (iI ((i : Nat) : Int))), some (.int (iI 0)), some (.ref v), some (.int (iI ((L.length : Nat) : Int)))]) rfl rfl ?_
  refine sL (pc' := 24) (i := .iload_n 1) rfl rfl ?_
  refine sL (pc' := 26) (i := .iload 4) rfl rfl ?_
  refine sCs (p := 29) (as := [_, _]) rfl rfl rfl rfl (by decide) (Nat.le_of_ble_eq_true rfl) rfl (Nat.le_of_ble_eq_true rfl) rfl (by omega) (c_sci ⟨hi, by omega⟩) ?_
  refine sL (pc' := 30) (i := .iload_n 2) rfl rfl ?_
  refine sIf_ne (p := 33) rfl rfl ⟨by omega, by omega⟩ (fun c1 => ?_) (fun c1 => ?_)
  · exact absurd c1 (by decide)
  · have c1 := c1
    refine sL (pc' := 34) (i := .aload_n 3) rfl rfl ?_
    refine sL (pc' := 35) (i := .iload_n 1) rfl rfl ?_
    refine sAb (p := 36) (i := i) rfl rfl k1 (Or.inr rfl) (by omega) ⟨by omega, by omega⟩ h9.1 ?_
    refine sKs (p := 39) rfl rfl ?_
    refine sAn 8 (p := 40) (z := ((c : Nat) : Int)) rfl rfl rfl (by decide) (by show ((c : Nat) : Int) = ((c : Nat) : Int) % 256; omega) ?_
    refine sI2c (p := 41) rfl rfl (by omega) ?_
    refine sEn (i := .ireturn) rfl (ch_e h9.2) ?_
    exact ⟨rfl, rfl⟩
theorem c_ch {i : Nat} (hs : sbB S L m) (hi : i < L.length) : sM X 12 290 [.ref 177, .int (iI ((i : Nat) : Int))] S (sV (some (.int (iI ((L.getD i 0 : Nat) : Int)))) S) := by
  refine sIni (ls := [some (.ref 177), some (.int (iI ((i : Nat) : Int)))]) rfl ?_
  refine sL (pc' := 1) (i := .aload_n 0) rfl rfl ?_
  refine sL (pc' := 2) (i := .iload_n 1) rfl rfl ?_
  refine sCi (p := 5) (as := [_]) rfl rfl rfl rfl (by decide) (Nat.le_of_ble_eq_true rfl) rfl (Nat.le_of_ble_eq_true rfl) (sk_177 _) (Nat.succ_ne_zero _) (by omega) (c_chA hs hi) ?_
  refine sEn (i := .ireturn) rfl (ch_e (hs.2.2.2.2.2.2.1 i hi).2) ?_
  exact ⟨rfl, rfl⟩
/-- the builder's contracts -/
theorem SBC_ok (X : List Int32) : SBC X := ⟨fun _ _ _ _ h h1 h2 => c_app h h1 h2, fun _ _ _ _ h h1 h2 => c_num h h1 h2, fun _ _ _ h => c_setS h, fun _ _ _ h => c_lenB h, fun _ _ _ _ h h1 => c_ch h h1⟩
end BN
