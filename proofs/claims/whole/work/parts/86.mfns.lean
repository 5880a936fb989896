/-! ===== the reference: calls that make functions ===== -/
def mAdd (S : ST) (fn : Nat) (g : Nat → Bool) : ST := wI (wRw (wRw S 186 0 g) 185 (16 * fn) g) 179 9 ((fn + 1 : Nat) : Int)
theorem wKw_oo {S : ST} {a o b o2 i k : Nat} {g h : Nat → Bool} (hb : b ≠ a) (hg : rowS S b o2 g) (hk : k < 16) : SL (wKw S a o i h) b (o2 + k) = pkw g k := by
  rw [SL_wKw, if_neg (fun z => hb z.1)]
  exact hg k hk
theorem wKw_ss {S : ST} {a o i : Nat} {f g : Nat → Bool} (hf : rowS S a o f) (hi : i < 16) : SL (wKw S a o i g) a (o + i) = pkw f i := by
  rw [SL_wKw, if_neg (by omega)]
  exact hf i hi
section M1
variable {X : List Int32} {S : ST} {n : Nat} {sz : Nat → Nat} {fn : Nat} {a o N : Nat} {f g h : Nat → Bool} {Fn : Nat → Nat → Bool}
theorem m_is {x y : Int} (hv : vM S n sz) (hfn : SI S 179 9 = (fn : Nat)) (h40 : fn ≤ 40) (hx : rg x) (hy : rg y) : sM X 2 175 [.ref 179, .int (iI x), .int (iI y)] S (sV (some (.int (iI (rIs n sz fn x y)))) (if okIs n sz fn x y then mAdd S fn (cut (pr sz n) (fun r => decide (val sz r x.toNat = y.toNat))) else S)) := by
  have hn := hv.1.1
  have hT0 := hv.1.2.2
  have x1 := hx.1
  have x2 := hx.2
  have y1 := hy.1
  have y2 := hy.2
  refine sIni (ls := [some (.ref 179), some (.int (iI x)), some (.int (iI y)), none]) rfl ?_
  refine sL (pc' := 1) (i := .aload_n 0) rfl rfl ?_
  refine sL (pc' := 2) (i := .iload_n 1) rfl rfl ?_
  refine sCv (p := 5) (as := [_]) rfl rfl rfl rfl (by decide) (Nat.le_of_ble_eq_true rfl) rfl (Nat.le_of_ble_eq_true rfl) (sk_179 _) rfl (by omega) (m_isVariable hx hv) ?_
  refine sBn (p := 8) rfl rfl (fun c1 => ?_) (fun c1 => ?_)
  · have c1 := c1
    have c1 := of_decide_eq_true c1
    obtain ⟨v, rfl⟩ : ∃ v : Nat, x = (v : Int) := ⟨x.toNat, by omega⟩
    have hxe : sz (((v : Nat) : Int).toNat) = sz v := rfl
    have hvv : v < n := by omega
    have hs := hv.1.2.1 v hvv
    refine sL (pc' := 12) (i := .iload_n 2) rfl rfl ?_
    refine sI2l (p := 13) rfl rfl ⟨by omega, by omega⟩ ?_
    refine sKj0 (p := 14) rfl rfl rfl ?_
    refine sL (pc' := 15) (i := .aload_n 0) rfl rfl ?_
    refine sGc (p := 18) rfl rfl (sk_179 _) rfl rfl rfl ?_
    refine sL (pc' := 19) (i := .iload_n 1) rfl rfl ?_
    refine sAi (p := 20) (i := v) rfl rfl (sk_180 _) (by omega) ⟨by omega, by omega⟩ (hv.2.2.2.1 _ (by omega)) ?_
    refine sKi (p := 21) rfl rfl ?_
    refine sSb (p := 22) rfl rfl ?_
    refine sI2l (p := 23) rfl rfl ⟨by omega, by omega⟩ ?_
    refine sCs (p := 26) (as := [_, _, _]) rfl rfl rfl rfl (by decide) (Nat.le_of_ble_eq_true rfl) rfl (Nat.le_of_ble_eq_true rfl) rfl (by omega) (m_in (x := y) (y := 0) (z := (((sz v : Nat) : Int) - 1)) ⟨by omega, by omega⟩ ⟨by omega, by omega⟩ ⟨by omega, by omega⟩) ?_
    refine sBn (p := 29) rfl rfl (fun c2 => ?_) (fun c2 => ?_)
    · have c2 := c2
      have c2 := of_decide_eq_true c2
      obtain ⟨k, rfl⟩ : ∃ k : Nat, y = (k : Int) := ⟨y.toNat, by omega⟩
      refine sL (pc' := 33) (i := .aload_n 0) rfl rfl ?_
      refine sGi (p := 36) rfl rfl (sk_179 _) rfl rfl rfl hfn ?_
      refine sKb (p := 38) rfl rfl ?_
      refine sIc_ne (p := 41) rfl rfl ⟨by omega, by omega⟩ ⟨by omega, by omega⟩ (fun c3 => ?_) (fun c3 => ?_)
      · have c3 := c3
        refine sL (pc' := 45) (i := .aload_n 0) rfl rfl ?_
        refine sL (pc' := 46) (i := .aload_n 0) rfl rfl ?_
        refine sGc (p := 49) rfl rfl (sk_179 _) rfl rfl rfl ?_
        refine sKi (p := 50) rfl rfl ?_
        refine sCv (p := 53) (as := [_, _]) rfl rfl rfl rfl (by decide) (Nat.le_of_ble_eq_true rfl) rfl (Nat.le_of_ble_eq_true rfl) (sk_179 _) rfl (by omega) (m_clear (sk_186 _) (o := 0) ⟨by omega, by omega⟩) ?_
        refine sKi (p := 54) rfl rfl ?_
        refine sL (pc' := 55) (i := .istore_n 3) (ls' := [some (.ref 179), some (.int (iI ((v : Nat) : Int))), some (.int (iI ((k : Nat) : Int))), some (.int (iI 0))]) rfl rfl ?_
        refine sSh (T := wRw S 186 0 (mk (fun _ => false) (fun r => decide (val sz r v = k)) 0)) (congrArg sH (by rw [mk_0])) ?_
        refine sIt (A := fun i => [some (.ref 179), some (.int (iI ((v : Nat) : Int))), some (.int (iI ((k : Nat) : Int))), some (.int (iI ((i : Nat) : Int)))]) (B := fun i => wRw S 186 0 (mk (fun _ => false) (fun r => decide (val sz r v = k)) i)) (fun _ => True) (pr sz n) True.intro (fun i hi55 hI55 ih55 => ?_) (fun hI55 => ?_)
        · have hi55 := hi55
          have hT := hv.1.2.2
          have hvl := hv.1.val hvv i
          refine sL (pc' := 56) (i := .iload_n 3) rfl rfl ?_
          refine sL (pc' := 57) (i := .aload_n 0) rfl rfl ?_
          refine sGi (p := 60) rfl rfl (sk_179 _) rfl rfl rfl hv.2.2.1 ?_
          refine sIc_ge (p := 63) rfl rfl ⟨by omega, by omega⟩ ⟨by omega, by omega⟩ (fun c4 => ?_) (fun c4 => ?_)
          · exfalso; omega
          · have c4 := c4
            refine sL (pc' := 64) (i := .aload_n 0) rfl rfl ?_
            refine sL (pc' := 65) (i := .iload_n 3) rfl rfl ?_
            refine sL (pc' := 66) (i := .iload_n 1) rfl rfl ?_
            refine sCv (p := 69) (as := [_, _]) rfl rfl rfl rfl (by decide) (Nat.le_of_ble_eq_true rfl) rfl (Nat.le_of_ble_eq_true rfl) (sk_179 _) rfl (by omega) (m_val (S := wRw S 186 0 (mk (fun _ => false) (fun r => decide (val sz r v = k)) i)) hv (r := i) (v := v) (by omega) (by assumption)) ?_
            refine sL (pc' := 70) (i := .iload_n 2) rfl rfl ?_
            refine sIc_ne (p := 73) rfl rfl ⟨by omega, by omega⟩ ⟨by omega, by omega⟩ (fun c5 => ?_) (fun c5 => ?_)
            · have c5 := c5
              refine sInX (z := ((i : Nat) : Int)) (ls' := [some (.ref 179), some (.int (iI ((v : Nat) : Int))), some (.int (iI ((k : Nat) : Int))), some (.int (iI (((i : Nat) : Int) + 1)))]) (p := 85) rfl rfl (Nat.le_of_ble_eq_true rfl) rfl rfl ?_
              refine sL (i := .goto (-30)) rfl rfl ?_
              refine sRo (ls := [some (.ref 179), some (.int (iI ((v : Nat) : Int))), some (.int (iI ((k : Nat) : Int))), some (.int (iI ((i + 1 : Nat) : Int)))]) (T := wRw S 186 0 (mk (fun _ => false) (fun r => decide (val sz r v = k)) (i + 1))) (And.intro rfl (And.intro rfl (And.intro rfl (And.intro rfl (True.intro))))) (congrArg sH (mk_f (decide_eq_false (by omega)))) (ih55 ?_)
              exact True.intro
            · have c5 := c5
              refine sL (pc' := 74) (i := .aload_n 0) rfl rfl ?_
              refine sGc (p := 77) rfl rfl (sk_179 _) rfl rfl rfl ?_
              refine sKi (p := 78) rfl rfl ?_
              refine sL (pc' := 79) (i := .iload_n 3) rfl rfl ?_
              refine sCs (p := 82) (as := [_, _, _]) rfl rfl rfl rfl (by decide) (Nat.le_of_ble_eq_true rfl) rfl (Nat.le_of_ble_eq_true rfl) rfl (by omega) (c_set (S := wRw S 186 0 (mk (fun _ => false) (fun r => decide (val sz r v = k)) i)) (o := 0) (r := i) (sk_186 _) ⟨by omega, by omega⟩ (rowS_wRw _ _ _ _) (by omega)) ?_
              refine sInX (z := ((i : Nat) : Int)) (ls' := [some (.ref 179), some (.int (iI ((v : Nat) : Int))), some (.int (iI ((k : Nat) : Int))), some (.int (iI (((i : Nat) : Int) + 1)))]) (p := 85) rfl rfl (Nat.le_of_ble_eq_true rfl) rfl rfl ?_
              refine sL (i := .goto (-30)) rfl rfl ?_
              refine sRo (ls := [some (.ref 179), some (.int (iI ((v : Nat) : Int))), some (.int (iI ((k : Nat) : Int))), some (.int (iI ((i + 1 : Nat) : Int)))]) (T := wRw S 186 0 (mk (fun _ => false) (fun r => decide (val sz r v = k)) (i + 1))) (And.intro rfl (And.intro rfl (And.intro rfl (And.intro rfl (True.intro))))) (congrArg sH (mk_t (decide_eq_true (by omega)))) (ih55 ?_)
              exact True.intro
        · have hI55 := hI55
          refine sL (pc' := 56) (i := .iload_n 3) rfl rfl ?_
          refine sL (pc' := 57) (i := .aload_n 0) rfl rfl ?_
          refine sGi (p := 60) rfl rfl (sk_179 _) rfl rfl rfl hv.2.2.1 ?_
          refine sIc_ge (p := 63) rfl rfl ⟨by omega, by omega⟩ ⟨by omega, by omega⟩ (fun c6 => ?_) (fun c6 => ?_)
          · have c6 := c6
            refine sL (pc' := 89) (i := .aload_n 0) rfl rfl ?_
            refine sCv (p := 92) (as := []) rfl rfl rfl rfl (by decide) (Nat.le_of_ble_eq_true rfl) rfl (Nat.le_of_ble_eq_true rfl) (sk_179 _) rfl (by omega) (m_keep hfn (by omega) (rowS_wRw _ _ _ _)) ?_
            refine sEn (i := .ireturn) rfl (rfl) ?_
            refine ⟨congrArg (fun z => some (Value.int (iI z))) ?_, ?_⟩
            · unfold rIs
              rw [if_neg (by omega), if_neg (by omega), if_neg (by omega)]
            · rw [if_pos (by omega)]
              rw [mk_cut]
              rfl
          · exfalso; omega
      · have c3 := c3
        refine sKb (p := 43) rfl rfl ?_
        refine sEn (i := .ireturn) rfl (rfl) ?_
        refine ⟨congrArg (fun z => some (Value.int (iI z))) ?_, ?_⟩
        · unfold rIs
          rw [if_neg (by omega), if_neg (by omega), if_pos (by omega)]
        · rw [if_neg (by omega)]
    · have c2 := c2
      have c2 := of_decide_eq_false c2
      refine sKb (p := 31) rfl rfl ?_
      refine sEn (i := .ireturn) rfl (rfl) ?_
      refine ⟨congrArg (fun z => some (Value.int (iI z))) ?_, ?_⟩
      · unfold rIs
        rw [if_neg (by omega), if_pos (by omega)]
      · rw [if_neg (by omega)]
  · have c1 := c1
    have c1 := of_decide_eq_false c1
    refine sKb (p := 10) rfl rfl ?_
    refine sEn (i := .ireturn) rfl (rfl) ?_
    refine ⟨congrArg (fun z => some (Value.int (iI z))) ?_, ?_⟩
    · unfold rIs
      rw [if_pos (by omega)]
    · rw [if_neg (by omega)]
theorem m_compare {x y u : Int} (hv : vM S n sz) (hfn : SI S 179 9 = (fn : Nat)) (h40 : fn ≤ 40) (hx : rg x) (hy : rg y) (hu : rg u) : sM X 2 176 [.ref 179, .int (iI x), .int (iI y), .int (iI u)] S (sV (some (.int (iI (rCmp n fn x y u)))) (if okCmp n fn x y u then mAdd S fn (cut (pr sz n) (cmpP sz x.toNat y.toNat u.toNat)) else S)) := by
  have hn := hv.1.1
  have hT0 := hv.1.2.2
  have x1 := hx.1
  have x2 := hx.2
  have y1 := hy.1
  have y2 := hy.2
  have u1 := hu.1
  have u2 := hu.2
  refine sIni (ls := [some (.ref 179), some (.int (iI x)), some (.int (iI y)), some (.int (iI u)), none, none, none]) rfl ?_
  refine sL (pc' := 1) (i := .aload_n 0) rfl rfl ?_
  refine sL (pc' := 2) (i := .iload_n 1) rfl rfl ?_
  refine sCv (p := 5) (as := [_]) rfl rfl rfl rfl (by decide) (Nat.le_of_ble_eq_true rfl) rfl (Nat.le_of_ble_eq_true rfl) (sk_179 _) rfl (by omega) (m_isVariable hx hv) ?_
  refine sBe (p := 8) rfl rfl (fun c1 => ?_) (fun c1 => ?_)
  · have c1 := c1
    have c1 := of_decide_eq_false c1
    refine sKb (p := 18) rfl rfl ?_
    refine sEn (i := .ireturn) rfl (rfl) ?_
    refine ⟨congrArg (fun z => some (Value.int (iI z))) ?_, ?_⟩
    · unfold rCmp
      rw [if_pos (by omega)]
    · rw [if_neg (by omega)]
  · have c1 := c1
    have c1 := of_decide_eq_true c1
    refine sL (pc' := 9) (i := .aload_n 0) rfl rfl ?_
    refine sL (pc' := 10) (i := .iload_n 2) rfl rfl ?_
    refine sCv (p := 13) (as := [_]) rfl rfl rfl rfl (by decide) (Nat.le_of_ble_eq_true rfl) rfl (Nat.le_of_ble_eq_true rfl) (sk_179 _) rfl (by omega) (m_isVariable hy hv) ?_
    refine sBn (p := 16) rfl rfl (fun c2 => ?_) (fun c2 => ?_)
    · have c2 := c2
      have c2 := of_decide_eq_true c2
      obtain ⟨v, rfl⟩ : ∃ v : Nat, x = (v : Int) := ⟨x.toNat, by omega⟩
      obtain ⟨k, rfl⟩ : ∃ k : Nat, y = (k : Int) := ⟨y.toNat, by omega⟩
      have hvv : v < n := by omega
      have hkk : k < n := by omega
      have hsv := hv.1.2.1 v hvv
      have hsk := hv.1.2.1 k hkk
      refine sL (pc' := 20) (i := .iload_n 3) rfl rfl ?_
      refine sI2l (p := 21) rfl rfl ⟨by omega, by omega⟩ ?_
      refine sKj0 (p := 22) rfl rfl rfl ?_
      refine sL (pc' := 25) (i := .ldc2_w 109) rfl rfl ?_
      refine sCs (p := 28) (as := [_, _, _]) rfl rfl rfl rfl (by decide) (Nat.le_of_ble_eq_true rfl) rfl (Nat.le_of_ble_eq_true rfl) rfl (by omega) (m_in (x := u) (y := 0) (z := (2 : Int)) ⟨by omega, by omega⟩ ⟨by omega, by omega⟩ ⟨by omega, by omega⟩) ?_
      refine sBn (p := 31) rfl rfl (fun c3 => ?_) (fun c3 => ?_)
      · have c3 := c3
        have c3 := of_decide_eq_true c3
        obtain ⟨hw, rfl⟩ : ∃ hw : Nat, u = (hw : Int) := ⟨u.toNat, by omega⟩
        refine sL (pc' := 35) (i := .aload_n 0) rfl rfl ?_
        refine sGi (p := 38) rfl rfl (sk_179 _) rfl rfl rfl hfn ?_
        refine sKb (p := 40) rfl rfl ?_
        refine sIc_ne (p := 43) rfl rfl ⟨by omega, by omega⟩ ⟨by omega, by omega⟩ (fun c4 => ?_) (fun c4 => ?_)
        · have c4 := c4
          refine sL (pc' := 47) (i := .aload_n 0) rfl rfl ?_
          refine sL (pc' := 48) (i := .aload_n 0) rfl rfl ?_
          refine sGc (p := 51) rfl rfl (sk_179 _) rfl rfl rfl ?_
          refine sKi (p := 52) rfl rfl ?_
          refine sCv (p := 55) (as := [_, _]) rfl rfl rfl rfl (by decide) (Nat.le_of_ble_eq_true rfl) rfl (Nat.le_of_ble_eq_true rfl) (sk_179 _) rfl (by omega) (m_clear (sk_186 _) (o := 0) ⟨by omega, by omega⟩) ?_
          refine sKi (p := 56) rfl rfl ?_
          refine sL (pc' := 58) (i := .istore 4) (ls' := [some (.ref 179), some (.int (iI ((v : Nat) : Int))), some (.int (iI ((k : Nat) : Int))), some (.int (iI ((hw : Nat) : Int))), some (.int (iI 0)), none, none]) rfl rfl ?_
          refine sSh (T := wRw S 186 0 (mk (fun _ => false) (cmpP sz v k hw) 0)) (congrArg sH (by rw [mk_0])) ?_
          refine sIt (A := fun i => [some (.ref 179), some (.int (iI ((v : Nat) : Int))), some (.int (iI ((k : Nat) : Int))), some (.int (iI ((hw : Nat) : Int))), some (.int (iI ((i : Nat) : Int))), none, none]) (B := fun i => wRw S 186 0 (mk (fun _ => false) (cmpP sz v k hw) i)) (fun _ => True) (pr sz n) True.intro (fun i hi58 hI58 ih58 => ?_) (fun hI58 => ?_)
          · have hi58 := hi58
            have hT := hv.1.2.2
            have hvl := hv.1.val hvv i
            have hvk := hv.1.val hkk i
            refine sL (pc' := 60) (i := .iload 4) rfl rfl ?_
            refine sL (pc' := 61) (i := .aload_n 0) rfl rfl ?_
            refine sGi (p := 64) rfl rfl (sk_179 _) rfl rfl rfl hv.2.2.1 ?_
            refine sIc_ge (p := 67) rfl rfl ⟨by omega, by omega⟩ ⟨by omega, by omega⟩ (fun c5 => ?_) (fun c5 => ?_)
            · exfalso; omega
            · have c5 := c5
              refine sL (pc' := 68) (i := .aload_n 0) rfl rfl ?_
              refine sL (pc' := 70) (i := .iload 4) rfl rfl ?_
              refine sL (pc' := 71) (i := .iload_n 1) rfl rfl ?_
              refine sCv (p := 74) (as := [_, _]) rfl rfl rfl rfl (by decide) (Nat.le_of_ble_eq_true rfl) rfl (Nat.le_of_ble_eq_true rfl) (sk_179 _) rfl (by omega) (m_val (S := wRw S 186 0 (mk (fun _ => false) (cmpP sz v k hw) i)) hv (r := i) (v := v) (by omega) (by assumption)) ?_
              refine sL (pc' := 76) (i := .istore 5) (ls' := [some (.ref 179), some (.int (iI ((v : Nat) : Int))), some (.int (iI ((k : Nat) : Int))), some (.int (iI ((hw : Nat) : Int))), some (.int (iI ((i : Nat) : Int))), some (.int (iI ((val sz i v : Nat) : Int))), none]) rfl rfl ?_
              refine sL (pc' := 77) (i := .aload_n 0) rfl rfl ?_
              refine sL (pc' := 79) (i := .iload 4) rfl rfl ?_
              refine sL (pc' := 80) (i := .iload_n 2) rfl rfl ?_
              refine sCv (p := 83) (as := [_, _]) rfl rfl rfl rfl (by decide) (Nat.le_of_ble_eq_true rfl) rfl (Nat.le_of_ble_eq_true rfl) (sk_179 _) rfl (by omega) (m_val (S := wRw S 186 0 (mk (fun _ => false) (cmpP sz v k hw) i)) hv (r := i) (v := k) (by omega) (by assumption)) ?_
              refine sL (pc' := 85) (i := .istore 6) (ls' := [some (.ref 179), some (.int (iI ((v : Nat) : Int))), some (.int (iI ((k : Nat) : Int))), some (.int (iI ((hw : Nat) : Int))), some (.int (iI ((i : Nat) : Int))), some (.int (iI ((val sz i v : Nat) : Int))), some (.int (iI ((val sz i k : Nat) : Int)))]) rfl rfl ?_
              refine sL (pc' := 86) (i := .iload_n 3) rfl rfl ?_
              refine sIf_ne (p := 89) rfl rfl ⟨by omega, by omega⟩ (fun c6 => ?_) (fun c6 => ?_)
              · have c6 := c6
                refine sL (pc' := 100) (i := .iload_n 3) rfl rfl ?_
                refine sKi (p := 101) rfl rfl ?_
                refine sIc_ne (p := 104) rfl rfl ⟨by omega, by omega⟩ ⟨by omega, by omega⟩ (fun c7 => ?_) (fun c7 => ?_)
                · have c7 := c7
                  refine sL (pc' := 116) (i := .iload 5) rfl rfl ?_
                  refine sL (pc' := 118) (i := .iload 6) rfl rfl ?_
                  refine sIc_gt (p := 121) rfl rfl ⟨by omega, by omega⟩ ⟨by omega, by omega⟩ (fun c8 => ?_) (fun c8 => ?_)
                  · have c8 := c8
                    refine sInX (z := ((i : Nat) : Int)) (ls' := [some (.ref 179), some (.int (iI ((v : Nat) : Int))), some (.int (iI ((k : Nat) : Int))), some (.int (iI ((hw : Nat) : Int))), some (.int (iI (((i : Nat) : Int) + 1))), some (.int (iI ((val sz i v : Nat) : Int))), some (.int (iI ((val sz i k : Nat) : Int)))]) (p := 134) rfl rfl (Nat.le_of_ble_eq_true rfl) rfl rfl ?_
                    refine sL (i := .goto (-76)) rfl rfl ?_
                    refine sRo (ls := [some (.ref 179), some (.int (iI ((v : Nat) : Int))), some (.int (iI ((k : Nat) : Int))), some (.int (iI ((hw : Nat) : Int))), some (.int (iI ((i + 1 : Nat) : Int))), none, none]) (T := wRw S 186 0 (mk (fun _ => false) (cmpP sz v k hw) (i + 1))) (And.intro rfl (And.intro rfl (And.intro rfl (And.intro rfl (And.intro rfl (True.intro)))))) (congrArg sH (mk_f (decide_eq_false (by omega)))) (ih58 ?_)
                    exact True.intro
                  · have c8 := c8
                    refine sL (pc' := 122) (i := .aload_n 0) rfl rfl ?_
                    refine sGc (p := 125) rfl rfl (sk_179 _) rfl rfl rfl ?_
                    refine sKi (p := 126) rfl rfl ?_
                    refine sL (pc' := 128) (i := .iload 4) rfl rfl ?_
                    refine sCs (p := 131) (as := [_, _, _]) rfl rfl rfl rfl (by decide) (Nat.le_of_ble_eq_true rfl) rfl (Nat.le_of_ble_eq_true rfl) rfl (by omega) (c_set (S := wRw S 186 0 (mk (fun _ => false) (cmpP sz v k hw) i)) (o := 0) (r := i) (sk_186 _) ⟨by omega, by omega⟩ (rowS_wRw _ _ _ _) (by omega)) ?_
                    refine sInX (z := ((i : Nat) : Int)) (ls' := [some (.ref 179), some (.int (iI ((v : Nat) : Int))), some (.int (iI ((k : Nat) : Int))), some (.int (iI ((hw : Nat) : Int))), some (.int (iI (((i : Nat) : Int) + 1))), some (.int (iI ((val sz i v : Nat) : Int))), some (.int (iI ((val sz i k : Nat) : Int)))]) (p := 134) rfl rfl (Nat.le_of_ble_eq_true rfl) rfl rfl ?_
                    refine sL (i := .goto (-76)) rfl rfl ?_
                    refine sRo (ls := [some (.ref 179), some (.int (iI ((v : Nat) : Int))), some (.int (iI ((k : Nat) : Int))), some (.int (iI ((hw : Nat) : Int))), some (.int (iI ((i + 1 : Nat) : Int))), none, none]) (T := wRw S 186 0 (mk (fun _ => false) (cmpP sz v k hw) (i + 1))) (And.intro rfl (And.intro rfl (And.intro rfl (And.intro rfl (And.intro rfl (True.intro)))))) (congrArg sH (mk_t (decide_eq_true (by omega)))) (ih58 ?_)
                    exact True.intro
                · have c7 := c7
                  refine sL (pc' := 106) (i := .iload 5) rfl rfl ?_
                  refine sL (pc' := 108) (i := .iload 6) rfl rfl ?_
                  refine sIc_ge (p := 111) rfl rfl ⟨by omega, by omega⟩ ⟨by omega, by omega⟩ (fun c9 => ?_) (fun c9 => ?_)
                  · have c9 := c9
                    refine sInX (z := ((i : Nat) : Int)) (ls' := [some (.ref 179), some (.int (iI ((v : Nat) : Int))), some (.int (iI ((k : Nat) : Int))), some (.int (iI ((hw : Nat) : Int))), some (.int (iI (((i : Nat) : Int) + 1))), some (.int (iI ((val sz i v : Nat) : Int))), some (.int (iI ((val sz i k : Nat) : Int)))]) (p := 134) rfl rfl (Nat.le_of_ble_eq_true rfl) rfl rfl ?_
                    refine sL (i := .goto (-76)) rfl rfl ?_
                    refine sRo (ls := [some (.ref 179), some (.int (iI ((v : Nat) : Int))), some (.int (iI ((k : Nat) : Int))), some (.int (iI ((hw : Nat) : Int))), some (.int (iI ((i + 1 : Nat) : Int))), none, none]) (T := wRw S 186 0 (mk (fun _ => false) (cmpP sz v k hw) (i + 1))) (And.intro rfl (And.intro rfl (And.intro rfl (And.intro rfl (And.intro rfl (True.intro)))))) (congrArg sH (mk_f (decide_eq_false (by omega)))) (ih58 ?_)
                    exact True.intro
                  · have c9 := c9
                    refine sL (i := .goto 10) rfl rfl ?_
                    refine sL (pc' := 122) (i := .aload_n 0) rfl rfl ?_
                    refine sGc (p := 125) rfl rfl (sk_179 _) rfl rfl rfl ?_
                    refine sKi (p := 126) rfl rfl ?_
                    refine sL (pc' := 128) (i := .iload 4) rfl rfl ?_
                    refine sCs (p := 131) (as := [_, _, _]) rfl rfl rfl rfl (by decide) (Nat.le_of_ble_eq_true rfl) rfl (Nat.le_of_ble_eq_true rfl) rfl (by omega) (c_set (S := wRw S 186 0 (mk (fun _ => false) (cmpP sz v k hw) i)) (o := 0) (r := i) (sk_186 _) ⟨by omega, by omega⟩ (rowS_wRw _ _ _ _) (by omega)) ?_
                    refine sInX (z := ((i : Nat) : Int)) (ls' := [some (.ref 179), some (.int (iI ((v : Nat) : Int))), some (.int (iI ((k : Nat) : Int))), some (.int (iI ((hw : Nat) : Int))), some (.int (iI (((i : Nat) : Int) + 1))), some (.int (iI ((val sz i v : Nat) : Int))), some (.int (iI ((val sz i k : Nat) : Int)))]) (p := 134) rfl rfl (Nat.le_of_ble_eq_true rfl) rfl rfl ?_
                    refine sL (i := .goto (-76)) rfl rfl ?_
                    refine sRo (ls := [some (.ref 179), some (.int (iI ((v : Nat) : Int))), some (.int (iI ((k : Nat) : Int))), some (.int (iI ((hw : Nat) : Int))), some (.int (iI ((i + 1 : Nat) : Int))), none, none]) (T := wRw S 186 0 (mk (fun _ => false) (cmpP sz v k hw) (i + 1))) (And.intro rfl (And.intro rfl (And.intro rfl (And.intro rfl (And.intro rfl (True.intro)))))) (congrArg sH (mk_t (decide_eq_true (by omega)))) (ih58 ?_)
                    exact True.intro
              · have c6 := c6
                refine sL (pc' := 91) (i := .iload 5) rfl rfl ?_
                refine sL (pc' := 93) (i := .iload 6) rfl rfl ?_
                refine sIc_ne (p := 96) rfl rfl ⟨by omega, by omega⟩ ⟨by omega, by omega⟩ (fun c10 => ?_) (fun c10 => ?_)
                · have c10 := c10
                  refine sInX (z := ((i : Nat) : Int)) (ls' := [some (.ref 179), some (.int (iI ((v : Nat) : Int))), some (.int (iI ((k : Nat) : Int))), some (.int (iI ((hw : Nat) : Int))), some (.int (iI (((i : Nat) : Int) + 1))), some (.int (iI ((val sz i v : Nat) : Int))), some (.int (iI ((val sz i k : Nat) : Int)))]) (p := 134) rfl rfl (Nat.le_of_ble_eq_true rfl) rfl rfl ?_
                  refine sL (i := .goto (-76)) rfl rfl ?_
                  refine sRo (ls := [some (.ref 179), some (.int (iI ((v : Nat) : Int))), some (.int (iI ((k : Nat) : Int))), some (.int (iI ((hw : Nat) : Int))), some (.int (iI ((i + 1 : Nat) : Int))), none, none]) (T := wRw S 186 0 (mk (fun _ => false) (cmpP sz v k hw) (i + 1))) (And.intro rfl (And.intro rfl (And.intro rfl (And.intro rfl (And.intro rfl (True.intro)))))) (congrArg sH (mk_f (decide_eq_false (by omega)))) (ih58 ?_)
                  exact True.intro
                · have c10 := c10
                  refine sL (i := .goto 25) rfl rfl ?_
                  refine sL (pc' := 122) (i := .aload_n 0) rfl rfl ?_
                  refine sGc (p := 125) rfl rfl (sk_179 _) rfl rfl rfl ?_
                  refine sKi (p := 126) rfl rfl ?_
                  refine sL (pc' := 128) (i := .iload 4) rfl rfl ?_
                  refine sCs (p := 131) (as := [_, _, _]) rfl rfl rfl rfl (by decide) (Nat.le_of_ble_eq_true rfl) rfl (Nat.le_of_ble_eq_true rfl) rfl (by omega) (c_set (S := wRw S 186 0 (mk (fun _ => false) (cmpP sz v k hw) i)) (o := 0) (r := i) (sk_186 _) ⟨by omega, by omega⟩ (rowS_wRw _ _ _ _) (by omega)) ?_
                  refine sInX (z := ((i : Nat) : Int)) (ls' := [some (.ref 179), some (.int (iI ((v : Nat) : Int))), some (.int (iI ((k : Nat) : Int))), some (.int (iI ((hw : Nat) : Int))), some (.int (iI (((i : Nat) : Int) + 1))), some (.int (iI ((val sz i v : Nat) : Int))), some (.int (iI ((val sz i k : Nat) : Int)))]) (p := 134) rfl rfl (Nat.le_of_ble_eq_true rfl) rfl rfl ?_
                  refine sL (i := .goto (-76)) rfl rfl ?_
                  refine sRo (ls := [some (.ref 179), some (.int (iI ((v : Nat) : Int))), some (.int (iI ((k : Nat) : Int))), some (.int (iI ((hw : Nat) : Int))), some (.int (iI ((i + 1 : Nat) : Int))), none, none]) (T := wRw S 186 0 (mk (fun _ => false) (cmpP sz v k hw) (i + 1))) (And.intro rfl (And.intro rfl (And.intro rfl (And.intro rfl (And.intro rfl (True.intro)))))) (congrArg sH (mk_t (decide_eq_true (by omega)))) (ih58 ?_)
                  exact True.intro
          · have hI58 := hI58
            refine sL (pc' := 60) (i := .iload 4) rfl rfl ?_
            refine sL (pc' := 61) (i := .aload_n 0) rfl rfl ?_
            refine sGi (p := 64) rfl rfl (sk_179 _) rfl rfl rfl hv.2.2.1 ?_
            refine sIc_ge (p := 67) rfl rfl ⟨by omega, by omega⟩ ⟨by omega, by omega⟩ (fun c11 => ?_) (fun c11 => ?_)
            · have c11 := c11
              refine sL (pc' := 138) (i := .aload_n 0) rfl rfl ?_
              refine sCv (p := 141) (as := []) rfl rfl rfl rfl (by decide) (Nat.le_of_ble_eq_true rfl) rfl (Nat.le_of_ble_eq_true rfl) (sk_179 _) rfl (by omega) (m_keep hfn (by omega) (rowS_wRw _ _ _ _)) ?_
              refine sEn (i := .ireturn) rfl (rfl) ?_
              refine ⟨congrArg (fun z => some (Value.int (iI z))) ?_, ?_⟩
              · unfold rCmp
                rw [if_neg (by omega), if_neg (by omega), if_neg (by omega)]
              · rw [if_pos (by omega)]
                rw [mk_cut]
                rfl
            · exfalso; omega
        · have c4 := c4
          refine sKb (p := 45) rfl rfl ?_
          refine sEn (i := .ireturn) rfl (rfl) ?_
          refine ⟨congrArg (fun z => some (Value.int (iI z))) ?_, ?_⟩
          · unfold rCmp
            rw [if_neg (by omega), if_neg (by omega), if_pos (by omega)]
          · rw [if_neg (by omega)]
      · have c3 := c3
        have c3 := of_decide_eq_false c3
        refine sKb (p := 33) rfl rfl ?_
        refine sEn (i := .ireturn) rfl (rfl) ?_
        refine ⟨congrArg (fun z => some (Value.int (iI z))) ?_, ?_⟩
        · unfold rCmp
          rw [if_neg (by omega), if_pos (by omega)]
        · rw [if_neg (by omega)]
    · have c2 := c2
      have c2 := of_decide_eq_false c2
      refine sKb (p := 18) rfl rfl ?_
      refine sEn (i := .ireturn) rfl (rfl) ?_
      refine ⟨congrArg (fun z => some (Value.int (iI z))) ?_, ?_⟩
      · unfold rCmp
        rw [if_pos (by omega)]
      · rw [if_neg (by omega)]
theorem m_fix {b o1 o2 N1 N2 v y : Nat} (hv : vM S n sz) (hka : kd S a = some (.inl (2, N1))) (hkb : kd S b = some (.inl (2, N2))) (h1 : o1 + 16 ≤ N1 ∧ N1 < 1000000) (h2 : o2 + 16 ≤ N2 ∧ N2 < 1000000) (hab : a ≠ b) (hf : rowS S a o1 f) (hvv : v < n) (hy : y < sz v) : sM X 2 183 [.ref 179, .ref a, .int (iI (o1 : Nat)), .int (iI (v : Nat)), .int (iI (y : Nat)), .ref b, .int (iI (o2 : Nat))] S (sV none (wRw S b o2 (cut (pr sz n) (fun r => f (chg sz r v y))))) := by
  have hn := hv.1.1
  have hT0 := hv.1.2.2
  refine sIni (ls := [some (.ref 179), some (.ref a), some (.int (iI ((o1 : Nat) : Int))), some (.int (iI ((v : Nat) : Int))), some (.int (iI ((y : Nat) : Int))), some (.ref b), some (.int (iI ((o2 : Nat) : Int))), none]) rfl ?_
  refine sL (pc' := 1) (i := .aload_n 0) rfl rfl ?_
  refine sL (pc' := 3) (i := .aload 5) rfl rfl ?_
  refine sL (pc' := 5) (i := .iload 6) rfl rfl ?_
  refine sCv (p := 8) (as := [_, _]) rfl rfl rfl rfl (by decide) (Nat.le_of_ble_eq_true rfl) rfl (Nat.le_of_ble_eq_true rfl) (sk_179 _) rfl (by omega) (m_clear hkb h2) ?_
  refine sKi (p := 9) rfl rfl ?_
  refine sL (pc' := 11) (i := .istore 7) (ls' := [some (.ref 179), some (.ref a), some (.int (iI ((o1 : Nat) : Int))), some (.int (iI ((v : Nat) : Int))), some (.int (iI ((y : Nat) : Int))), some (.ref b), some (.int (iI ((o2 : Nat) : Int))), some (.int (iI 0))]) rfl rfl ?_
  refine sSh (T := wRw S b o2 (mk (fun _ => false) (fun r => f (chg sz r v y)) 0)) (congrArg sH (by rw [mk_0])) ?_
  refine sIt (A := fun i => [some (.ref 179), some (.ref a), some (.int (iI ((o1 : Nat) : Int))), some (.int (iI ((v : Nat) : Int))), some (.int (iI ((y : Nat) : Int))), some (.ref b), some (.int (iI ((o2 : Nat) : Int))), some (.int (iI ((i : Nat) : Int)))]) (B := fun i => wRw S b o2 (mk (fun _ => false) (fun r => f (chg sz r v y)) i)) (fun _ => True) (pr sz n) True.intro (fun i hi11 hI11 ih11 => ?_) (fun hI11 => ?_)
  · have hi11 := hi11
    have hcl := chg_lt hv.1 (r := i) hvv hy hi11
    refine sL (pc' := 13) (i := .iload 7) rfl rfl ?_
    refine sL (pc' := 14) (i := .aload_n 0) rfl rfl ?_
    refine sGi (p := 17) rfl rfl (sk_179 _) rfl rfl rfl hv.2.2.1 ?_
    refine sIc_ge (p := 20) rfl rfl ⟨by omega, by omega⟩ ⟨by omega, by omega⟩ (fun c1 => ?_) (fun c1 => ?_)
    · exfalso; omega
    · have c1 := c1
      refine sL (pc' := 21) (i := .aload_n 1) rfl rfl ?_
      refine sL (pc' := 22) (i := .iload_n 2) rfl rfl ?_
      refine sL (pc' := 23) (i := .aload_n 0) rfl rfl ?_
      refine sL (pc' := 25) (i := .iload 7) rfl rfl ?_
      refine sL (pc' := 26) (i := .iload_n 3) rfl rfl ?_
      refine sL (pc' := 28) (i := .iload 4) rfl rfl ?_
      refine sCv (p := 31) (as := [_, _, _]) rfl rfl rfl rfl (by decide) (Nat.le_of_ble_eq_true rfl) rfl (Nat.le_of_ble_eq_true rfl) (sk_179 _) rfl (by omega) (m_changed (S := wRw S b o2 (mk (fun _ => false) (fun r => f (chg sz r v y)) i)) hv (r := i) (v := v) (y := y) (by omega) (by assumption)) ?_
      refine sCs (p := 34) (as := [_, _, _]) rfl rfl rfl rfl (by decide) (Nat.le_of_ble_eq_true rfl) rfl (Nat.le_of_ble_eq_true rfl) rfl (by omega) (c_get (S := wRw S b o2 (mk (fun _ => false) (fun r => f (chg sz r v y)) i)) (r := chg sz i v y) hka h1 (rowS_ne (Or.inl hab) hf) (by omega)) ?_
      refine sBe (p := 37) rfl rfl (fun c2 => ?_) (fun c2 => ?_)
      · have c2 := c2
        refine sInX (z := ((i : Nat) : Int)) (ls' := [some (.ref 179), some (.ref a), some (.int (iI ((o1 : Nat) : Int))), some (.int (iI ((v : Nat) : Int))), some (.int (iI ((y : Nat) : Int))), some (.ref b), some (.int (iI ((o2 : Nat) : Int))), some (.int (iI (((i : Nat) : Int) + 1)))]) (p := 49) rfl rfl (Nat.le_of_ble_eq_true rfl) rfl rfl ?_
        refine sL (i := .goto (-38)) rfl rfl ?_
        refine sRo (ls := [some (.ref 179), some (.ref a), some (.int (iI ((o1 : Nat) : Int))), some (.int (iI ((v : Nat) : Int))), some (.int (iI ((y : Nat) : Int))), some (.ref b), some (.int (iI ((o2 : Nat) : Int))), some (.int (iI ((i + 1 : Nat) : Int)))]) (T := wRw S b o2 (mk (fun _ => false) (fun r => f (chg sz r v y)) (i + 1))) (And.intro rfl (And.intro rfl (And.intro rfl (And.intro rfl (And.intro rfl (And.intro rfl (And.intro rfl (And.intro rfl (True.intro))))))))) (congrArg sH (mk_f c2)) (ih11 ?_)
        exact True.intro
      · have c2 := c2
        refine sL (pc' := 39) (i := .aload 5) rfl rfl ?_
        refine sL (pc' := 41) (i := .iload 6) rfl rfl ?_
        refine sL (pc' := 43) (i := .iload 7) rfl rfl ?_
        refine sCs (p := 46) (as := [_, _, _]) rfl rfl rfl rfl (by decide) (Nat.le_of_ble_eq_true rfl) rfl (Nat.le_of_ble_eq_true rfl) rfl (by omega) (c_set (S := wRw S b o2 (mk (fun _ => false) (fun r => f (chg sz r v y)) i)) (r := i) hkb h2 (rowS_wRw _ _ _ _) (by omega)) ?_
        refine sInX (z := ((i : Nat) : Int)) (ls' := [some (.ref 179), some (.ref a), some (.int (iI ((o1 : Nat) : Int))), some (.int (iI ((v : Nat) : Int))), some (.int (iI ((y : Nat) : Int))), some (.ref b), some (.int (iI ((o2 : Nat) : Int))), some (.int (iI (((i : Nat) : Int) + 1)))]) (p := 49) rfl rfl (Nat.le_of_ble_eq_true rfl) rfl rfl ?_
        refine sL (i := .goto (-38)) rfl rfl ?_
        refine sRo (ls := [some (.ref 179), some (.ref a), some (.int (iI ((o1 : Nat) : Int))), some (.int (iI ((v : Nat) : Int))), some (.int (iI ((y : Nat) : Int))), some (.ref b), some (.int (iI ((o2 : Nat) : Int))), some (.int (iI ((i + 1 : Nat) : Int)))]) (T := wRw S b o2 (mk (fun _ => false) (fun r => f (chg sz r v y)) (i + 1))) (And.intro rfl (And.intro rfl (And.intro rfl (And.intro rfl (And.intro rfl (And.intro rfl (And.intro rfl (And.intro rfl (True.intro))))))))) (congrArg sH (mk_t c2)) (ih11 ?_)
        exact True.intro
  · have hI11 := hI11
    refine sL (pc' := 13) (i := .iload 7) rfl rfl ?_
    refine sL (pc' := 14) (i := .aload_n 0) rfl rfl ?_
    refine sGi (p := 17) rfl rfl (sk_179 _) rfl rfl rfl hv.2.2.1 ?_
    refine sIc_ge (p := 20) rfl rfl ⟨by omega, by omega⟩ ⟨by omega, by omega⟩ (fun c3 => ?_) (fun c3 => ?_)
    · have c3 := c3
      refine sEn (i := .return_) rfl (rfl) ?_
      exact ⟨rfl, by rw [mk_cut]⟩
    · exfalso; omega
theorem m_condition {x y u : Int} (hv : vM S n sz) (hfn : SI S 179 9 = (fn : Nat)) (h40 : fn ≤ 40) (hF : ∀ i, i < fn → rowS S 185 (16 * i) (Fn i)) (hx : rg x) (hy : rg y) (hu : rg u) : sM X 3 184 [.ref 179, .int (iI x), .int (iI y), .int (iI u)] S (sV (some (.int (iI (rCond n sz fn x y u)))) (if okCond n sz fn x y u then mAdd S fn (cut (pr sz n) (fun r => Fn x.toNat (chg sz r y.toNat u.toNat))) else S)) := by
  have hn := hv.1.1
  have hT0 := hv.1.2.2
  have x1 := hx.1
  have x2 := hx.2
  have y1 := hy.1
  have y2 := hy.2
  have u1 := hu.1
  have u2 := hu.2
  refine sIni (ls := [some (.ref 179), some (.int (iI x)), some (.int (iI y)), some (.int (iI u))]) rfl ?_
  refine sL (pc' := 1) (i := .aload_n 0) rfl rfl ?_
  refine sL (pc' := 2) (i := .iload_n 1) rfl rfl ?_
  refine sCv (p := 5) (as := [_]) rfl rfl rfl rfl (by decide) (Nat.le_of_ble_eq_true rfl) rfl (Nat.le_of_ble_eq_true rfl) (sk_179 _) rfl (by omega) (m_isFunction hx hfn h40) ?_
  refine sBe (p := 8) rfl rfl (fun c1 => ?_) (fun c1 => ?_)
  · have c1 := c1
    have c1 := of_decide_eq_false c1
    refine sKb (p := 18) rfl rfl ?_
    refine sEn (i := .ireturn) rfl (rfl) ?_
    refine ⟨congrArg (fun z => some (Value.int (iI z))) ?_, ?_⟩
    · unfold rCond
      rw [if_pos (by omega)]
    · rw [if_neg (by omega)]
  · have c1 := c1
    have c1 := of_decide_eq_true c1
    refine sL (pc' := 9) (i := .aload_n 0) rfl rfl ?_
    refine sL (pc' := 10) (i := .iload_n 2) rfl rfl ?_
    refine sCv (p := 13) (as := [_]) rfl rfl rfl rfl (by decide) (Nat.le_of_ble_eq_true rfl) rfl (Nat.le_of_ble_eq_true rfl) (sk_179 _) rfl (by omega) (m_isVariable hy hv) ?_
    refine sBn (p := 16) rfl rfl (fun c2 => ?_) (fun c2 => ?_)
    · have c2 := c2
      have c2 := of_decide_eq_true c2
      obtain ⟨f0, rfl⟩ : ∃ f0 : Nat, x = (f0 : Int) := ⟨x.toNat, by omega⟩
      obtain ⟨v, rfl⟩ : ∃ v : Nat, y = (v : Int) := ⟨y.toNat, by omega⟩
      have hvv : v < n := by omega
      have hf0 : f0 < fn := by omega
      have hs := hv.1.2.1 v hvv
      have hxe : sz (((v : Nat) : Int).toNat) = sz v := rfl
      refine sL (pc' := 20) (i := .iload_n 3) rfl rfl ?_
      refine sI2l (p := 21) rfl rfl ⟨by omega, by omega⟩ ?_
      refine sKj0 (p := 22) rfl rfl rfl ?_
      refine sL (pc' := 23) (i := .aload_n 0) rfl rfl ?_
      refine sGc (p := 26) rfl rfl (sk_179 _) rfl rfl rfl ?_
      refine sL (pc' := 27) (i := .iload_n 2) rfl rfl ?_
      refine sAi (p := 28) (i := v) rfl rfl (sk_180 _) (by omega) ⟨by omega, by omega⟩ (hv.2.2.2.1 _ (by omega)) ?_
      refine sKi (p := 29) rfl rfl ?_
      refine sSb (p := 30) rfl rfl ?_
      refine sI2l (p := 31) rfl rfl ⟨by omega, by omega⟩ ?_
      refine sCs (p := 34) (as := [_, _, _]) rfl rfl rfl rfl (by decide) (Nat.le_of_ble_eq_true rfl) rfl (Nat.le_of_ble_eq_true rfl) rfl (by omega) (m_in (x := u) (y := 0) (z := (((sz v : Nat) : Int) - 1)) ⟨by omega, by omega⟩ ⟨by omega, by omega⟩ ⟨by omega, by omega⟩) ?_
      refine sBn (p := 37) rfl rfl (fun c3 => ?_) (fun c3 => ?_)
      · have c3 := c3
        have c3 := of_decide_eq_true c3
        obtain ⟨k, rfl⟩ : ∃ k : Nat, u = (k : Int) := ⟨u.toNat, by omega⟩
        refine sL (pc' := 41) (i := .aload_n 0) rfl rfl ?_
        refine sGi (p := 44) rfl rfl (sk_179 _) rfl rfl rfl hfn ?_
        refine sKb (p := 46) rfl rfl ?_
        refine sIc_ne (p := 49) rfl rfl ⟨by omega, by omega⟩ ⟨by omega, by omega⟩ (fun c4 => ?_) (fun c4 => ?_)
        · have c4 := c4
          refine sL (pc' := 53) (i := .aload_n 0) rfl rfl ?_
          refine sL (pc' := 54) (i := .aload_n 0) rfl rfl ?_
          refine sGc (p := 57) rfl rfl (sk_179 _) rfl rfl rfl ?_
          refine sKb (p := 59) rfl rfl ?_
          refine sL (pc' := 60) (i := .iload_n 1) rfl rfl ?_
          refine sMu (p := 61) rfl rfl ?_
          refine sL (pc' := 62) (i := .iload_n 2) rfl rfl ?_
          refine sL (pc' := 63) (i := .iload_n 3) rfl rfl ?_
          refine sL (pc' := 64) (i := .aload_n 0) rfl rfl ?_
          refine sGc (p := 67) rfl rfl (sk_179 _) rfl rfl rfl ?_
          refine sKi (p := 68) rfl rfl ?_
          refine sCv (p := 71) (as := [_, _, _, _, _, _]) rfl rfl rfl rfl (by decide) (Nat.le_of_ble_eq_true rfl) rfl (Nat.le_of_ble_eq_true rfl) (sk_179 _) rfl (by omega) (m_fix hv (o1 := 16 * f0) (o2 := 0) (sk_185 _) (sk_186 _) ⟨by omega, by omega⟩ ⟨by omega, by omega⟩ (by decide) (hF f0 hf0) hvv (by omega)) ?_
          refine sL (pc' := 72) (i := .aload_n 0) rfl rfl ?_
          refine sCv (p := 75) (as := []) rfl rfl rfl rfl (by decide) (Nat.le_of_ble_eq_true rfl) rfl (Nat.le_of_ble_eq_true rfl) (sk_179 _) rfl (by omega) (m_keep hfn (by omega) (rowS_wRw _ _ _ _)) ?_
          refine sEn (i := .ireturn) rfl (rfl) ?_
          refine ⟨congrArg (fun z => some (Value.int (iI z))) ?_, ?_⟩
          · unfold rCond
            rw [if_neg (by omega), if_neg (by omega), if_neg (by omega)]
          · rw [if_pos (by omega)]
            rfl
        · have c4 := c4
          refine sKb (p := 51) rfl rfl ?_
          refine sEn (i := .ireturn) rfl (rfl) ?_
          refine ⟨congrArg (fun z => some (Value.int (iI z))) ?_, ?_⟩
          · unfold rCond
            rw [if_neg (by omega), if_neg (by omega), if_pos (by omega)]
          · rw [if_neg (by omega)]
      · have c3 := c3
        have c3 := of_decide_eq_false c3
        refine sKb (p := 39) rfl rfl ?_
        refine sEn (i := .ireturn) rfl (rfl) ?_
        refine ⟨congrArg (fun z => some (Value.int (iI z))) ?_, ?_⟩
        · unfold rCond
          rw [if_neg (by omega), if_pos (by omega)]
        · rw [if_neg (by omega)]
    · have c2 := c2
      have c2 := of_decide_eq_false c2
      refine sKb (p := 18) rfl rfl ?_
      refine sEn (i := .ireturn) rfl (rfl) ?_
      refine ⟨congrArg (fun z => some (Value.int (iI z))) ?_, ?_⟩
      · unfold rCond
        rw [if_pos (by omega)]
      · rw [if_neg (by omega)]
theorem m_quantified {v : Nat} {all : Bool} (hv : vM S n sz) (hka : kd S a = some (.inl (2, N))) (hN : o + 16 ≤ N ∧ N < 1000000) (ha : a ≠ 186) (hf : rowS S a o f) (hvv : v < n) : sM X 2 185 [.ref 179, .ref a, .int (iI (o : Nat)), .int (iI (v : Nat)), .int (iI (bI all))] S (sV none (wRw S 186 0 (cut (pr sz n) (qnt sz all f v)))) := by
  have hn := hv.1.1
  have hT0 := hv.1.2.2
  have hs := hv.1.2.1 v hvv
  cases all
  · skip
    refine sIni (ls := [some (.ref 179), some (.ref a), some (.int (iI ((o : Nat) : Int))), some (.int (iI ((v : Nat) : Int))), some (.int (iI (bI false))), none, none, none, none]) rfl ?_
    refine sL (pc' := 1) (i := .aload_n 0) rfl rfl ?_
    refine sL (pc' := 2) (i := .aload_n 0) rfl rfl ?_
    refine sGc (p := 5) rfl rfl (sk_179 _) rfl rfl rfl ?_
    refine sKi (p := 6) rfl rfl ?_
    refine sCv (p := 9) (as := [_, _]) rfl rfl rfl rfl (by decide) (Nat.le_of_ble_eq_true rfl) rfl (Nat.le_of_ble_eq_true rfl) (sk_179 _) rfl (by omega) (m_clear (sk_186 _) (o := 0) ⟨by omega, by omega⟩) ?_
    refine sKi (p := 10) rfl rfl ?_
    refine sL (pc' := 12) (i := .istore 5) (ls' := [some (.ref 179), some (.ref a), some (.int (iI ((o : Nat) : Int))), some (.int (iI ((v : Nat) : Int))), some (.int (iI (bI false))), some (.int (iI 0)), none, none, none]) rfl rfl ?_
    refine sSh (T := wRw S 186 0 (mk (fun _ => false) (fun r => qnt sz false f v r) 0)) (congrArg sH (by rw [mk_0])) ?_
    refine sIt (A := fun i => [some (.ref 179), some (.ref a), some (.int (iI ((o : Nat) : Int))), some (.int (iI ((v : Nat) : Int))), some (.int (iI (bI false))), some (.int (iI ((i : Nat) : Int))), none, none, none]) (B := fun i => wRw S 186 0 (mk (fun _ => false) (fun r => qnt sz false f v r) i)) (fun _ => True) (pr sz n) True.intro (fun i hi12 hI12 ih12 => ?_) (fun hI12 => ?_)
    · have hi12 := hi12
      have hT := hv.1.2.2
      refine sL (pc' := 14) (i := .iload 5) rfl rfl ?_
      refine sL (pc' := 15) (i := .aload_n 0) rfl rfl ?_
      refine sGi (p := 18) rfl rfl (sk_179 _) rfl rfl rfl hv.2.2.1 ?_
      refine sIc_ge (p := 21) rfl rfl ⟨by omega, by omega⟩ ⟨by omega, by omega⟩ (fun c1 => ?_) (fun c1 => ?_)
      · exfalso; omega
      · have c1 := c1
        refine sL (pc' := 23) (i := .iload 4) rfl rfl ?_
        refine sL (pc' := 25) (i := .istore 6) (ls' := [some (.ref 179), some (.ref a), some (.int (iI ((o : Nat) : Int))), some (.int (iI ((v : Nat) : Int))), some (.int (iI (bI false))), some (.int (iI ((i : Nat) : Int))), some (.int (iI (bI false))), none, none]) rfl rfl ?_
        refine sKi (p := 26) rfl rfl ?_
        refine sL (pc' := 28) (i := .istore 7) (ls' := [some (.ref 179), some (.ref a), some (.int (iI ((o : Nat) : Int))), some (.int (iI ((v : Nat) : Int))), some (.int (iI (bI false))), some (.int (iI ((i : Nat) : Int))), some (.int (iI (bI false))), some (.int (iI 0)), none]) rfl rfl ?_
        refine sIt (A := fun j => [some (.ref 179), some (.ref a), some (.int (iI ((o : Nat) : Int))), some (.int (iI ((v : Nat) : Int))), some (.int (iI (bI false))), some (.int (iI ((i : Nat) : Int))), some (.int (iI (bI (anyB (fun k => f (chg sz i v k)) j)))), some (.int (iI ((j : Nat) : Int))), none]) (B := fun _ => wRw S 186 0 (mk (fun _ => false) (fun r => qnt sz false f v r) i)) (fun _ => True) (sz v) True.intro (fun j hi28 hI28 ih28 => ?_) (fun hI28 => ?_)
        · have hi28 := hi28
          have hcl := chg_lt hv.1 (r := i) hvv hi28 hi12
          refine sL (pc' := 30) (i := .iload 7) rfl rfl ?_
          refine sL (pc' := 31) (i := .aload_n 0) rfl rfl ?_
          refine sGc (p := 34) rfl rfl (sk_179 _) rfl rfl rfl ?_
          refine sL (pc' := 35) (i := .iload_n 3) rfl rfl ?_
          refine sAi (p := 36) (i := v) rfl rfl (sk_180 _) (by omega) ⟨by omega, by omega⟩ (hv.2.2.2.1 _ (by omega)) ?_
          refine sIc_ge (p := 39) rfl rfl ⟨by omega, by omega⟩ ⟨by omega, by omega⟩ (fun c2 => ?_) (fun c2 => ?_)
          · exfalso; omega
          · have c2 := c2
            refine sL (pc' := 40) (i := .aload_n 1) rfl rfl ?_
            refine sL (pc' := 41) (i := .iload_n 2) rfl rfl ?_
            refine sL (pc' := 42) (i := .aload_n 0) rfl rfl ?_
            refine sL (pc' := 44) (i := .iload 5) rfl rfl ?_
            refine sL (pc' := 45) (i := .iload_n 3) rfl rfl ?_
            refine sL (pc' := 47) (i := .iload 7) rfl rfl ?_
            refine sCv (p := 50) (as := [_, _, _]) rfl rfl rfl rfl (by decide) (Nat.le_of_ble_eq_true rfl) rfl (Nat.le_of_ble_eq_true rfl) (sk_179 _) rfl (by omega) (m_changed (S := wRw S 186 0 (mk (fun _ => false) (fun r => qnt sz false f v r) i)) hv (r := i) (v := v) (y := j) (by omega) (by assumption)) ?_
            refine sCs (p := 53) (as := [_, _, _]) rfl rfl rfl rfl (by decide) (Nat.le_of_ble_eq_true rfl) rfl (Nat.le_of_ble_eq_true rfl) rfl (by omega) (c_get (S := wRw S 186 0 (mk (fun _ => false) (fun r => qnt sz false f v r) i)) (r := chg sz i v j) hka hN (rowS_ne (Or.inl ha) hf) (by omega)) ?_
            refine sL (pc' := 55) (i := .istore 8) (ls' := [some (.ref 179), some (.ref a), some (.int (iI ((o : Nat) : Int))), some (.int (iI ((v : Nat) : Int))), some (.int (iI (bI false))), some (.int (iI ((i : Nat) : Int))), some (.int (iI (bI (anyB (fun k => f (chg sz i v k)) j)))), some (.int (iI ((j : Nat) : Int))), some (.int (iI (bI (f (chg sz i v j)))))]) rfl rfl ?_
            refine sL (pc' := 57) (i := .iload 4) rfl rfl ?_
            refine sBe (p := 60) rfl rfl (fun c3 => ?_) (fun c3 => ?_)
            · have c3 := c3
              refine sL (pc' := 80) (i := .iload 6) rfl rfl ?_
              refine sBn (p := 83) rfl rfl (fun c4 => ?_) (fun c4 => ?_)
              · have c4 := c4
                have h6 := c4
                refine sKi (p := 89) rfl rfl ?_
                refine sL (i := .goto 4) rfl rfl ?_
                refine sL (pc' := 95) (i := .istore 6) (ls' := [some (.ref 179), some (.ref a), some (.int (iI ((o : Nat) : Int))), some (.int (iI ((v : Nat) : Int))), some (.int (iI (bI false))), some (.int (iI ((i : Nat) : Int))), some (.int (iI 1)), some (.int (iI ((j : Nat) : Int))), some (.int (iI (bI (f (chg sz i v j)))))]) rfl rfl ?_
                refine sInX (z := ((j : Nat) : Int)) (ls' := [some (.ref 179), some (.ref a), some (.int (iI ((o : Nat) : Int))), some (.int (iI ((v : Nat) : Int))), some (.int (iI (bI false))), some (.int (iI ((i : Nat) : Int))), some (.int (iI 1)), some (.int (iI (((j : Nat) : Int) + 1))), some (.int (iI (bI (f (chg sz i v j)))))]) (p := 98) rfl rfl (Nat.le_of_ble_eq_true rfl) rfl rfl ?_
                refine sL (i := .goto (-70)) rfl rfl ?_
                refine sRo (ls := [some (.ref 179), some (.ref a), some (.int (iI ((o : Nat) : Int))), some (.int (iI ((v : Nat) : Int))), some (.int (iI (bI false))), some (.int (iI ((i : Nat) : Int))), some (.int (iI (bI (anyB (fun k => f (chg sz i v k)) (j + 1))))), some (.int (iI ((j + 1 : Nat) : Int))), none]) (T := _) (And.intro rfl (And.intro rfl (And.intro rfl (And.intro rfl (And.intro rfl (And.intro rfl (And.intro (congrArg (fun z => some (Value.int z)) (congrArg iI (by show (1 : Int) = bI (anyB (fun k => f (chg sz i v k)) j || f (chg sz i v j)); first | (rw [h6, h8]; rfl) | (rw [h6]; rfl)))) (And.intro rfl (True.intro))))))))) (rfl) (ih28 ?_)
                exact True.intro
              · have c4 := c4
                have h6 := c4
                refine sL (pc' := 85) (i := .iload 8) rfl rfl ?_
                refine sBe (p := 88) rfl rfl (fun c5 => ?_) (fun c5 => ?_)
                · have c5 := c5
                  have h8 := c5
                  refine sKi (p := 93) rfl rfl ?_
                  refine sL (pc' := 95) (i := .istore 6) (ls' := [some (.ref 179), some (.ref a), some (.int (iI ((o : Nat) : Int))), some (.int (iI ((v : Nat) : Int))), some (.int (iI (bI false))), some (.int (iI ((i : Nat) : Int))), some (.int (iI 0)), some (.int (iI ((j : Nat) : Int))), some (.int (iI (bI (f (chg sz i v j)))))]) rfl rfl ?_
                  refine sInX (z := ((j : Nat) : Int)) (ls' := [some (.ref 179), some (.ref a), some (.int (iI ((o : Nat) : Int))), some (.int (iI ((v : Nat) : Int))), some (.int (iI (bI false))), some (.int (iI ((i : Nat) : Int))), some (.int (iI 0)), some (.int (iI (((j : Nat) : Int) + 1))), some (.int (iI (bI (f (chg sz i v j)))))]) (p := 98) rfl rfl (Nat.le_of_ble_eq_true rfl) rfl rfl ?_
                  refine sL (i := .goto (-70)) rfl rfl ?_
                  refine sRo (ls := [some (.ref 179), some (.ref a), some (.int (iI ((o : Nat) : Int))), some (.int (iI ((v : Nat) : Int))), some (.int (iI (bI false))), some (.int (iI ((i : Nat) : Int))), some (.int (iI (bI (anyB (fun k => f (chg sz i v k)) (j + 1))))), some (.int (iI ((j + 1 : Nat) : Int))), none]) (T := _) (And.intro rfl (And.intro rfl (And.intro rfl (And.intro rfl (And.intro rfl (And.intro rfl (And.intro (congrArg (fun z => some (Value.int z)) (congrArg iI (by show (0 : Int) = bI (anyB (fun k => f (chg sz i v k)) j || f (chg sz i v j)); first | (rw [h6, h8]; rfl) | (rw [h6]; rfl)))) (And.intro rfl (True.intro))))))))) (rfl) (ih28 ?_)
                  exact True.intro
                · have c5 := c5
                  have h8 := c5
                  refine sKi (p := 89) rfl rfl ?_
                  refine sL (i := .goto 4) rfl rfl ?_
                  refine sL (pc' := 95) (i := .istore 6) (ls' := [some (.ref 179), some (.ref a), some (.int (iI ((o : Nat) : Int))), some (.int (iI ((v : Nat) : Int))), some (.int (iI (bI false))), some (.int (iI ((i : Nat) : Int))), some (.int (iI 1)), some (.int (iI ((j : Nat) : Int))), some (.int (iI (bI (f (chg sz i v j)))))]) rfl rfl ?_
                  refine sInX (z := ((j : Nat) : Int)) (ls' := [some (.ref 179), some (.ref a), some (.int (iI ((o : Nat) : Int))), some (.int (iI ((v : Nat) : Int))), some (.int (iI (bI false))), some (.int (iI ((i : Nat) : Int))), some (.int (iI 1)), some (.int (iI (((j : Nat) : Int) + 1))), some (.int (iI (bI (f (chg sz i v j)))))]) (p := 98) rfl rfl (Nat.le_of_ble_eq_true rfl) rfl rfl ?_
                  refine sL (i := .goto (-70)) rfl rfl ?_
                  refine sRo (ls := [some (.ref 179), some (.ref a), some (.int (iI ((o : Nat) : Int))), some (.int (iI ((v : Nat) : Int))), some (.int (iI (bI false))), some (.int (iI ((i : Nat) : Int))), some (.int (iI (bI (anyB (fun k => f (chg sz i v k)) (j + 1))))), some (.int (iI ((j + 1 : Nat) : Int))), none]) (T := _) (And.intro rfl (And.intro rfl (And.intro rfl (And.intro rfl (And.intro rfl (And.intro rfl (And.intro (congrArg (fun z => some (Value.int z)) (congrArg iI (by show (1 : Int) = bI (anyB (fun k => f (chg sz i v k)) j || f (chg sz i v j)); first | (rw [h6, h8]; rfl) | (rw [h6]; rfl)))) (And.intro rfl (True.intro))))))))) (rfl) (ih28 ?_)
                  exact True.intro
            · exact absurd c3 (by decide)
        · have hI28 := hI28
          refine sL (pc' := 30) (i := .iload 7) rfl rfl ?_
          refine sL (pc' := 31) (i := .aload_n 0) rfl rfl ?_
          refine sGc (p := 34) rfl rfl (sk_179 _) rfl rfl rfl ?_
          refine sL (pc' := 35) (i := .iload_n 3) rfl rfl ?_
          refine sAi (p := 36) (i := v) rfl rfl (sk_180 _) (by omega) ⟨by omega, by omega⟩ (hv.2.2.2.1 _ (by omega)) ?_
          refine sIc_ge (p := 39) rfl rfl ⟨by omega, by omega⟩ ⟨by omega, by omega⟩ (fun c6 => ?_) (fun c6 => ?_)
          · have c6 := c6
            refine sL (pc' := 103) (i := .iload 6) rfl rfl ?_
            refine sBe (p := 106) rfl rfl (fun c7 => ?_) (fun c7 => ?_)
            · have c7 := c7
              have h9 : qnt sz false f v i = false := c7
              refine sInX (z := ((i : Nat) : Int)) (ls' := [some (.ref 179), some (.ref a), some (.int (iI ((o : Nat) : Int))), some (.int (iI ((v : Nat) : Int))), some (.int (iI (bI false))), some (.int (iI (((i : Nat) : Int) + 1))), some (.int (iI (bI (anyB (fun k => f (chg sz i v k)) (sz v))))), some (.int (iI ((sz v : Nat) : Int))), none]) (p := 119) rfl rfl (Nat.le_of_ble_eq_true rfl) rfl rfl ?_
              refine sL (i := .goto (-107)) rfl rfl ?_
              refine sRo (ls := [some (.ref 179), some (.ref a), some (.int (iI ((o : Nat) : Int))), some (.int (iI ((v : Nat) : Int))), some (.int (iI (bI false))), some (.int (iI ((i + 1 : Nat) : Int))), none, none, none]) (T := wRw S 186 0 (mk (fun _ => false) (fun r => qnt sz false f v r) (i + 1))) (And.intro rfl (And.intro rfl (And.intro rfl (And.intro rfl (And.intro rfl (And.intro rfl (True.intro))))))) (congrArg sH (mk_f (h9))) (ih12 ?_)
              exact True.intro
            · have c7 := c7
              have h9 : qnt sz false f v i = true := c7
              refine sL (pc' := 107) (i := .aload_n 0) rfl rfl ?_
              refine sGc (p := 110) rfl rfl (sk_179 _) rfl rfl rfl ?_
              refine sKi (p := 111) rfl rfl ?_
              refine sL (pc' := 113) (i := .iload 5) rfl rfl ?_
              refine sCs (p := 116) (as := [_, _, _]) rfl rfl rfl rfl (by decide) (Nat.le_of_ble_eq_true rfl) rfl (Nat.le_of_ble_eq_true rfl) rfl (by omega) (c_set (S := wRw S 186 0 (mk (fun _ => false) (fun r => qnt sz false f v r) i)) (o := 0) (r := i) (sk_186 _) ⟨by omega, by omega⟩ (rowS_wRw _ _ _ _) (by omega)) ?_
              refine sInX (z := ((i : Nat) : Int)) (ls' := [some (.ref 179), some (.ref a), some (.int (iI ((o : Nat) : Int))), some (.int (iI ((v : Nat) : Int))), some (.int (iI (bI false))), some (.int (iI (((i : Nat) : Int) + 1))), some (.int (iI (bI (anyB (fun k => f (chg sz i v k)) (sz v))))), some (.int (iI ((sz v : Nat) : Int))), none]) (p := 119) rfl rfl (Nat.le_of_ble_eq_true rfl) rfl rfl ?_
              refine sL (i := .goto (-107)) rfl rfl ?_
              refine sRo (ls := [some (.ref 179), some (.ref a), some (.int (iI ((o : Nat) : Int))), some (.int (iI ((v : Nat) : Int))), some (.int (iI (bI false))), some (.int (iI ((i + 1 : Nat) : Int))), none, none, none]) (T := wRw S 186 0 (mk (fun _ => false) (fun r => qnt sz false f v r) (i + 1))) (And.intro rfl (And.intro rfl (And.intro rfl (And.intro rfl (And.intro rfl (And.intro rfl (True.intro))))))) (congrArg sH (mk_t (h9))) (ih12 ?_)
              exact True.intro
          · exfalso; omega
    · have hI12 := hI12
      refine sL (pc' := 14) (i := .iload 5) rfl rfl ?_
      refine sL (pc' := 15) (i := .aload_n 0) rfl rfl ?_
      refine sGi (p := 18) rfl rfl (sk_179 _) rfl rfl rfl hv.2.2.1 ?_
      refine sIc_ge (p := 21) rfl rfl ⟨by omega, by omega⟩ ⟨by omega, by omega⟩ (fun c8 => ?_) (fun c8 => ?_)
      · have c8 := c8
        refine sEn (i := .return_) rfl (rfl) ?_
        exact ⟨rfl, by rw [mk_cut]⟩
      · exfalso; omega
  · skip
    refine sIni (ls := [some (.ref 179), some (.ref a), some (.int (iI ((o : Nat) : Int))), some (.int (iI ((v : Nat) : Int))), some (.int (iI (bI true))), none, none, none, none]) rfl ?_
    refine sL (pc' := 1) (i := .aload_n 0) rfl rfl ?_
    refine sL (pc' := 2) (i := .aload_n 0) rfl rfl ?_
    refine sGc (p := 5) rfl rfl (sk_179 _) rfl rfl rfl ?_
    refine sKi (p := 6) rfl rfl ?_
    refine sCv (p := 9) (as := [_, _]) rfl rfl rfl rfl (by decide) (Nat.le_of_ble_eq_true rfl) rfl (Nat.le_of_ble_eq_true rfl) (sk_179 _) rfl (by omega) (m_clear (sk_186 _) (o := 0) ⟨by omega, by omega⟩) ?_
    refine sKi (p := 10) rfl rfl ?_
    refine sL (pc' := 12) (i := .istore 5) (ls' := [some (.ref 179), some (.ref a), some (.int (iI ((o : Nat) : Int))), some (.int (iI ((v : Nat) : Int))), some (.int (iI (bI true))), some (.int (iI 0)), none, none, none]) rfl rfl ?_
    refine sSh (T := wRw S 186 0 (mk (fun _ => false) (fun r => qnt sz true f v r) 0)) (congrArg sH (by rw [mk_0])) ?_
    refine sIt (A := fun i => [some (.ref 179), some (.ref a), some (.int (iI ((o : Nat) : Int))), some (.int (iI ((v : Nat) : Int))), some (.int (iI (bI true))), some (.int (iI ((i : Nat) : Int))), none, none, none]) (B := fun i => wRw S 186 0 (mk (fun _ => false) (fun r => qnt sz true f v r) i)) (fun _ => True) (pr sz n) True.intro (fun i hi12 hI12 ih12 => ?_) (fun hI12 => ?_)
    · have hi12 := hi12
      have hT := hv.1.2.2
      refine sL (pc' := 14) (i := .iload 5) rfl rfl ?_
      refine sL (pc' := 15) (i := .aload_n 0) rfl rfl ?_
      refine sGi (p := 18) rfl rfl (sk_179 _) rfl rfl rfl hv.2.2.1 ?_
      refine sIc_ge (p := 21) rfl rfl ⟨by omega, by omega⟩ ⟨by omega, by omega⟩ (fun c1 => ?_) (fun c1 => ?_)
      · exfalso; omega
      · have c1 := c1
        refine sL (pc' := 23) (i := .iload 4) rfl rfl ?_
        refine sL (pc' := 25) (i := .istore 6) (ls' := [some (.ref 179), some (.ref a), some (.int (iI ((o : Nat) : Int))), some (.int (iI ((v : Nat) : Int))), some (.int (iI (bI true))), some (.int (iI ((i : Nat) : Int))), some (.int (iI (bI true))), none, none]) rfl rfl ?_
        refine sKi (p := 26) rfl rfl ?_
        refine sL (pc' := 28) (i := .istore 7) (ls' := [some (.ref 179), some (.ref a), some (.int (iI ((o : Nat) : Int))), some (.int (iI ((v : Nat) : Int))), some (.int (iI (bI true))), some (.int (iI ((i : Nat) : Int))), some (.int (iI (bI true))), some (.int (iI 0)), none]) rfl rfl ?_
        refine sIt (A := fun j => [some (.ref 179), some (.ref a), some (.int (iI ((o : Nat) : Int))), some (.int (iI ((v : Nat) : Int))), some (.int (iI (bI true))), some (.int (iI ((i : Nat) : Int))), some (.int (iI (bI (allB (fun k => f (chg sz i v k)) j)))), some (.int (iI ((j : Nat) : Int))), none]) (B := fun _ => wRw S 186 0 (mk (fun _ => false) (fun r => qnt sz true f v r) i)) (fun _ => True) (sz v) True.intro (fun j hi28 hI28 ih28 => ?_) (fun hI28 => ?_)
        · have hi28 := hi28
          have hcl := chg_lt hv.1 (r := i) hvv hi28 hi12
          refine sL (pc' := 30) (i := .iload 7) rfl rfl ?_
          refine sL (pc' := 31) (i := .aload_n 0) rfl rfl ?_
          refine sGc (p := 34) rfl rfl (sk_179 _) rfl rfl rfl ?_
          refine sL (pc' := 35) (i := .iload_n 3) rfl rfl ?_
          refine sAi (p := 36) (i := v) rfl rfl (sk_180 _) (by omega) ⟨by omega, by omega⟩ (hv.2.2.2.1 _ (by omega)) ?_
          refine sIc_ge (p := 39) rfl rfl ⟨by omega, by omega⟩ ⟨by omega, by omega⟩ (fun c2 => ?_) (fun c2 => ?_)
          · exfalso; omega
          · have c2 := c2
            refine sL (pc' := 40) (i := .aload_n 1) rfl rfl ?_
            refine sL (pc' := 41) (i := .iload_n 2) rfl rfl ?_
            refine sL (pc' := 42) (i := .aload_n 0) rfl rfl ?_
            refine sL (pc' := 44) (i := .iload 5) rfl rfl ?_
            refine sL (pc' := 45) (i := .iload_n 3) rfl rfl ?_
            refine sL (pc' := 47) (i := .iload 7) rfl rfl ?_
            refine sCv (p := 50) (as := [_, _, _]) rfl rfl rfl rfl (by decide) (Nat.le_of_ble_eq_true rfl) rfl (Nat.le_of_ble_eq_true rfl) (sk_179 _) rfl (by omega) (m_changed (S := wRw S 186 0 (mk (fun _ => false) (fun r => qnt sz true f v r) i)) hv (r := i) (v := v) (y := j) (by omega) (by assumption)) ?_
            refine sCs (p := 53) (as := [_, _, _]) rfl rfl rfl rfl (by decide) (Nat.le_of_ble_eq_true rfl) rfl (Nat.le_of_ble_eq_true rfl) rfl (by omega) (c_get (S := wRw S 186 0 (mk (fun _ => false) (fun r => qnt sz true f v r) i)) (r := chg sz i v j) hka hN (rowS_ne (Or.inl ha) hf) (by omega)) ?_
            refine sL (pc' := 55) (i := .istore 8) (ls' := [some (.ref 179), some (.ref a), some (.int (iI ((o : Nat) : Int))), some (.int (iI ((v : Nat) : Int))), some (.int (iI (bI true))), some (.int (iI ((i : Nat) : Int))), some (.int (iI (bI (allB (fun k => f (chg sz i v k)) j)))), some (.int (iI ((j : Nat) : Int))), some (.int (iI (bI (f (chg sz i v j)))))]) rfl rfl ?_
            refine sL (pc' := 57) (i := .iload 4) rfl rfl ?_
            refine sBe (p := 60) rfl rfl (fun c3 => ?_) (fun c3 => ?_)
            · exact absurd c3 (by decide)
            · have c3 := c3
              refine sL (pc' := 62) (i := .iload 6) rfl rfl ?_
              refine sBe (p := 65) rfl rfl (fun c4 => ?_) (fun c4 => ?_)
              · have c4 := c4
                have h6 := c4
                refine sKi (p := 75) rfl rfl ?_
                refine sL (i := .goto 18) rfl rfl ?_
                refine sL (pc' := 95) (i := .istore 6) (ls' := [some (.ref 179), some (.ref a), some (.int (iI ((o : Nat) : Int))), some (.int (iI ((v : Nat) : Int))), some (.int (iI (bI true))), some (.int (iI ((i : Nat) : Int))), some (.int (iI 0)), some (.int (iI ((j : Nat) : Int))), some (.int (iI (bI (f (chg sz i v j)))))]) rfl rfl ?_
                refine sInX (z := ((j : Nat) : Int)) (ls' := [some (.ref 179), some (.ref a), some (.int (iI ((o : Nat) : Int))), some (.int (iI ((v : Nat) : Int))), some (.int (iI (bI true))), some (.int (iI ((i : Nat) : Int))), some (.int (iI 0)), some (.int (iI (((j : Nat) : Int) + 1))), some (.int (iI (bI (f (chg sz i v j)))))]) (p := 98) rfl rfl (Nat.le_of_ble_eq_true rfl) rfl rfl ?_
                refine sL (i := .goto (-70)) rfl rfl ?_
                refine sRo (ls := [some (.ref 179), some (.ref a), some (.int (iI ((o : Nat) : Int))), some (.int (iI ((v : Nat) : Int))), some (.int (iI (bI true))), some (.int (iI ((i : Nat) : Int))), some (.int (iI (bI (allB (fun k => f (chg sz i v k)) (j + 1))))), some (.int (iI ((j + 1 : Nat) : Int))), none]) (T := _) (And.intro rfl (And.intro rfl (And.intro rfl (And.intro rfl (And.intro rfl (And.intro rfl (And.intro (congrArg (fun z => some (Value.int z)) (congrArg iI (by show (0 : Int) = bI (allB (fun k => f (chg sz i v k)) j && f (chg sz i v j)); first | (rw [h6, h8]; rfl) | (rw [h6]; rfl)))) (And.intro rfl (True.intro))))))))) (rfl) (ih28 ?_)
                exact True.intro
              · have c4 := c4
                have h6 := c4
                refine sL (pc' := 67) (i := .iload 8) rfl rfl ?_
                refine sBe (p := 70) rfl rfl (fun c5 => ?_) (fun c5 => ?_)
                · have c5 := c5
                  have h8 := c5
                  refine sKi (p := 75) rfl rfl ?_
                  refine sL (i := .goto 18) rfl rfl ?_
                  refine sL (pc' := 95) (i := .istore 6) (ls' := [some (.ref 179), some (.ref a), some (.int (iI ((o : Nat) : Int))), some (.int (iI ((v : Nat) : Int))), some (.int (iI (bI true))), some (.int (iI ((i : Nat) : Int))), some (.int (iI 0)), some (.int (iI ((j : Nat) : Int))), some (.int (iI (bI (f (chg sz i v j)))))]) rfl rfl ?_
                  refine sInX (z := ((j : Nat) : Int)) (ls' := [some (.ref 179), some (.ref a), some (.int (iI ((o : Nat) : Int))), some (.int (iI ((v : Nat) : Int))), some (.int (iI (bI true))), some (.int (iI ((i : Nat) : Int))), some (.int (iI 0)), some (.int (iI (((j : Nat) : Int) + 1))), some (.int (iI (bI (f (chg sz i v j)))))]) (p := 98) rfl rfl (Nat.le_of_ble_eq_true rfl) rfl rfl ?_
                  refine sL (i := .goto (-70)) rfl rfl ?_
                  refine sRo (ls := [some (.ref 179), some (.ref a), some (.int (iI ((o : Nat) : Int))), some (.int (iI ((v : Nat) : Int))), some (.int (iI (bI true))), some (.int (iI ((i : Nat) : Int))), some (.int (iI (bI (allB (fun k => f (chg sz i v k)) (j + 1))))), some (.int (iI ((j + 1 : Nat) : Int))), none]) (T := _) (And.intro rfl (And.intro rfl (And.intro rfl (And.intro rfl (And.intro rfl (And.intro rfl (And.intro (congrArg (fun z => some (Value.int z)) (congrArg iI (by show (0 : Int) = bI (allB (fun k => f (chg sz i v k)) j && f (chg sz i v j)); first | (rw [h6, h8]; rfl) | (rw [h6]; rfl)))) (And.intro rfl (True.intro))))))))) (rfl) (ih28 ?_)
                  exact True.intro
                · have c5 := c5
                  have h8 := c5
                  refine sKi (p := 71) rfl rfl ?_
                  refine sL (i := .goto 22) rfl rfl ?_
                  refine sL (pc' := 95) (i := .istore 6) (ls' := [some (.ref 179), some (.ref a), some (.int (iI ((o : Nat) : Int))), some (.int (iI ((v : Nat) : Int))), some (.int (iI (bI true))), some (.int (iI ((i : Nat) : Int))), some (.int (iI 1)), some (.int (iI ((j : Nat) : Int))), some (.int (iI (bI (f (chg sz i v j)))))]) rfl rfl ?_
                  refine sInX (z := ((j : Nat) : Int)) (ls' := [some (.ref 179), some (.ref a), some (.int (iI ((o : Nat) : Int))), some (.int (iI ((v : Nat) : Int))), some (.int (iI (bI true))), some (.int (iI ((i : Nat) : Int))), some (.int (iI 1)), some (.int (iI (((j : Nat) : Int) + 1))), some (.int (iI (bI (f (chg sz i v j)))))]) (p := 98) rfl rfl (Nat.le_of_ble_eq_true rfl) rfl rfl ?_
                  refine sL (i := .goto (-70)) rfl rfl ?_
                  refine sRo (ls := [some (.ref 179), some (.ref a), some (.int (iI ((o : Nat) : Int))), some (.int (iI ((v : Nat) : Int))), some (.int (iI (bI true))), some (.int (iI ((i : Nat) : Int))), some (.int (iI (bI (allB (fun k => f (chg sz i v k)) (j + 1))))), some (.int (iI ((j + 1 : Nat) : Int))), none]) (T := _) (And.intro rfl (And.intro rfl (And.intro rfl (And.intro rfl (And.intro rfl (And.intro rfl (And.intro (congrArg (fun z => some (Value.int z)) (congrArg iI (by show (1 : Int) = bI (allB (fun k => f (chg sz i v k)) j && f (chg sz i v j)); first | (rw [h6, h8]; rfl) | (rw [h6]; rfl)))) (And.intro rfl (True.intro))))))))) (rfl) (ih28 ?_)
                  exact True.intro
        · have hI28 := hI28
          refine sL (pc' := 30) (i := .iload 7) rfl rfl ?_
          refine sL (pc' := 31) (i := .aload_n 0) rfl rfl ?_
          refine sGc (p := 34) rfl rfl (sk_179 _) rfl rfl rfl ?_
          refine sL (pc' := 35) (i := .iload_n 3) rfl rfl ?_
          refine sAi (p := 36) (i := v) rfl rfl (sk_180 _) (by omega) ⟨by omega, by omega⟩ (hv.2.2.2.1 _ (by omega)) ?_
          refine sIc_ge (p := 39) rfl rfl ⟨by omega, by omega⟩ ⟨by omega, by omega⟩ (fun c6 => ?_) (fun c6 => ?_)
          · have c6 := c6
            refine sL (pc' := 103) (i := .iload 6) rfl rfl ?_
            refine sBe (p := 106) rfl rfl (fun c7 => ?_) (fun c7 => ?_)
            · have c7 := c7
              have h9 : qnt sz true f v i = false := c7
              refine sInX (z := ((i : Nat) : Int)) (ls' := [some (.ref 179), some (.ref a), some (.int (iI ((o : Nat) : Int))), some (.int (iI ((v : Nat) : Int))), some (.int (iI (bI true))), some (.int (iI (((i : Nat) : Int) + 1))), some (.int (iI (bI (allB (fun k => f (chg sz i v k)) (sz v))))), some (.int (iI ((sz v : Nat) : Int))), none]) (p := 119) rfl rfl (Nat.le_of_ble_eq_true rfl) rfl rfl ?_
              refine sL (i := .goto (-107)) rfl rfl ?_
              refine sRo (ls := [some (.ref 179), some (.ref a), some (.int (iI ((o : Nat) : Int))), some (.int (iI ((v : Nat) : Int))), some (.int (iI (bI true))), some (.int (iI ((i + 1 : Nat) : Int))), none, none, none]) (T := wRw S 186 0 (mk (fun _ => false) (fun r => qnt sz true f v r) (i + 1))) (And.intro rfl (And.intro rfl (And.intro rfl (And.intro rfl (And.intro rfl (And.intro rfl (True.intro))))))) (congrArg sH (mk_f (h9))) (ih12 ?_)
              exact True.intro
            · have c7 := c7
              have h9 : qnt sz true f v i = true := c7
              refine sL (pc' := 107) (i := .aload_n 0) rfl rfl ?_
              refine sGc (p := 110) rfl rfl (sk_179 _) rfl rfl rfl ?_
              refine sKi (p := 111) rfl rfl ?_
              refine sL (pc' := 113) (i := .iload 5) rfl rfl ?_
              refine sCs (p := 116) (as := [_, _, _]) rfl rfl rfl rfl (by decide) (Nat.le_of_ble_eq_true rfl) rfl (Nat.le_of_ble_eq_true rfl) rfl (by omega) (c_set (S := wRw S 186 0 (mk (fun _ => false) (fun r => qnt sz true f v r) i)) (o := 0) (r := i) (sk_186 _) ⟨by omega, by omega⟩ (rowS_wRw _ _ _ _) (by omega)) ?_
              refine sInX (z := ((i : Nat) : Int)) (ls' := [some (.ref 179), some (.ref a), some (.int (iI ((o : Nat) : Int))), some (.int (iI ((v : Nat) : Int))), some (.int (iI (bI true))), some (.int (iI (((i : Nat) : Int) + 1))), some (.int (iI (bI (allB (fun k => f (chg sz i v k)) (sz v))))), some (.int (iI ((sz v : Nat) : Int))), none]) (p := 119) rfl rfl (Nat.le_of_ble_eq_true rfl) rfl rfl ?_
              refine sL (i := .goto (-107)) rfl rfl ?_
              refine sRo (ls := [some (.ref 179), some (.ref a), some (.int (iI ((o : Nat) : Int))), some (.int (iI ((v : Nat) : Int))), some (.int (iI (bI true))), some (.int (iI ((i + 1 : Nat) : Int))), none, none, none]) (T := wRw S 186 0 (mk (fun _ => false) (fun r => qnt sz true f v r) (i + 1))) (And.intro rfl (And.intro rfl (And.intro rfl (And.intro rfl (And.intro rfl (And.intro rfl (True.intro))))))) (congrArg sH (mk_t (h9))) (ih12 ?_)
              exact True.intro
          · exfalso; omega
    · have hI12 := hI12
      refine sL (pc' := 14) (i := .iload 5) rfl rfl ?_
      refine sL (pc' := 15) (i := .aload_n 0) rfl rfl ?_
      refine sGi (p := 18) rfl rfl (sk_179 _) rfl rfl rfl hv.2.2.1 ?_
      refine sIc_ge (p := 21) rfl rfl ⟨by omega, by omega⟩ ⟨by omega, by omega⟩ (fun c8 => ?_) (fun c8 => ?_)
      · have c8 := c8
        refine sEn (i := .return_) rfl (rfl) ?_
        exact ⟨rfl, by rw [mk_cut]⟩
      · exfalso; omega
theorem m_quantify {x y : Int} {all : Bool} (hv : vM S n sz) (hfn : SI S 179 9 = (fn : Nat)) (h40 : fn ≤ 40) (hF : ∀ i, i < fn → rowS S 185 (16 * i) (Fn i)) (hx : rg x) (hy : rg y) : sM X 3 186 [.ref 179, .int (iI x), .int (iI y), .int (iI (bI all))] S (sV (some (.int (iI (rQuant n fn x y)))) (if okQuant n fn x y then mAdd S fn (cut (pr sz n) (qnt sz all (Fn x.toNat) y.toNat)) else S)) := by
  have hn := hv.1.1
  have hT0 := hv.1.2.2
  have x1 := hx.1
  have x2 := hx.2
  have y1 := hy.1
  have y2 := hy.2
  refine sIni (ls := [some (.ref 179), some (.int (iI x)), some (.int (iI y)), some (.int (iI (bI all)))]) rfl ?_
  refine sL (pc' := 1) (i := .aload_n 0) rfl rfl ?_
  refine sL (pc' := 2) (i := .iload_n 1) rfl rfl ?_
  refine sCv (p := 5) (as := [_]) rfl rfl rfl rfl (by decide) (Nat.le_of_ble_eq_true rfl) rfl (Nat.le_of_ble_eq_true rfl) (sk_179 _) rfl (by omega) (m_isFunction hx hfn h40) ?_
  refine sBe (p := 8) rfl rfl (fun c1 => ?_) (fun c1 => ?_)
  · have c1 := c1
    have c1 := of_decide_eq_false c1
    refine sKb (p := 18) rfl rfl ?_
    refine sEn (i := .ireturn) rfl (rfl) ?_
    refine ⟨congrArg (fun z => some (Value.int (iI z))) ?_, ?_⟩
    · unfold rQuant
      rw [if_pos (by omega)]
    · rw [if_neg (by omega)]
  · have c1 := c1
    have c1 := of_decide_eq_true c1
    refine sL (pc' := 9) (i := .aload_n 0) rfl rfl ?_
    refine sL (pc' := 10) (i := .iload_n 2) rfl rfl ?_
    refine sCv (p := 13) (as := [_]) rfl rfl rfl rfl (by decide) (Nat.le_of_ble_eq_true rfl) rfl (Nat.le_of_ble_eq_true rfl) (sk_179 _) rfl (by omega) (m_isVariable hy hv) ?_
    refine sBn (p := 16) rfl rfl (fun c2 => ?_) (fun c2 => ?_)
    · have c2 := c2
      have c2 := of_decide_eq_true c2
      obtain ⟨f0, rfl⟩ : ∃ f0 : Nat, x = (f0 : Int) := ⟨x.toNat, by omega⟩
      obtain ⟨v, rfl⟩ : ∃ v : Nat, y = (v : Int) := ⟨y.toNat, by omega⟩
      have hvv : v < n := by omega
      have hf0 : f0 < fn := by omega
      refine sL (pc' := 20) (i := .aload_n 0) rfl rfl ?_
      refine sGi (p := 23) rfl rfl (sk_179 _) rfl rfl rfl hfn ?_
      refine sKb (p := 25) rfl rfl ?_
      refine sIc_ne (p := 28) rfl rfl ⟨by omega, by omega⟩ ⟨by omega, by omega⟩ (fun c3 => ?_) (fun c3 => ?_)
      · have c3 := c3
        refine sL (pc' := 32) (i := .aload_n 0) rfl rfl ?_
        refine sL (pc' := 33) (i := .aload_n 0) rfl rfl ?_
        refine sGc (p := 36) rfl rfl (sk_179 _) rfl rfl rfl ?_
        refine sKb (p := 38) rfl rfl ?_
        refine sL (pc' := 39) (i := .iload_n 1) rfl rfl ?_
        refine sMu (p := 40) rfl rfl ?_
        refine sL (pc' := 41) (i := .iload_n 2) rfl rfl ?_
        refine sL (pc' := 42) (i := .iload_n 3) rfl rfl ?_
        refine sCv (p := 45) (as := [_, _, _, _]) rfl rfl rfl rfl (by decide) (Nat.le_of_ble_eq_true rfl) rfl (Nat.le_of_ble_eq_true rfl) (sk_179 _) rfl (by omega) (m_quantified hv (o := 16 * f0) (sk_185 _) ⟨by omega, by omega⟩ (by decide) (hF f0 hf0) hvv) ?_
        refine sL (pc' := 46) (i := .aload_n 0) rfl rfl ?_
        refine sCv (p := 49) (as := []) rfl rfl rfl rfl (by decide) (Nat.le_of_ble_eq_true rfl) rfl (Nat.le_of_ble_eq_true rfl) (sk_179 _) rfl (by omega) (m_keep hfn (by omega) (rowS_wRw _ _ _ _)) ?_
        refine sEn (i := .ireturn) rfl (rfl) ?_
        refine ⟨congrArg (fun z => some (Value.int (iI z))) ?_, ?_⟩
        · unfold rQuant
          rw [if_neg (by omega), if_neg (by omega)]
        · rw [if_pos (by omega)]
          rfl
      · have c3 := c3
        refine sKb (p := 30) rfl rfl ?_
        refine sEn (i := .ireturn) rfl (rfl) ?_
        refine ⟨congrArg (fun z => some (Value.int (iI z))) ?_, ?_⟩
        · unfold rQuant
          rw [if_neg (by omega), if_pos (by omega)]
        · rw [if_neg (by omega)]
    · have c2 := c2
      have c2 := of_decide_eq_false c2
      refine sKb (p := 18) rfl rfl ?_
      refine sEn (i := .ireturn) rfl (rfl) ?_
      refine ⟨congrArg (fun z => some (Value.int (iI z))) ?_, ?_⟩
      · unfold rQuant
        rw [if_pos (by omega)]
      · rw [if_neg (by omega)]
theorem m_substitute {x y u : Int} (hv : vM S n sz) (hfn : SI S 179 9 = (fn : Nat)) (h40 : fn ≤ 40) (hF : ∀ i, i < fn → rowS S 185 (16 * i) (Fn i)) (hx : rg x) (hy : rg y) (hu : rg u) : sM X 2 187 [.ref 179, .int (iI x), .int (iI y), .int (iI u)] S (sV (some (.int (iI (rSubst n sz fn x y u)))) (if okSubst n sz fn x y u then mAdd S fn (cut (pr sz n) (fun r => Fn x.toNat (chg sz r y.toNat (if Fn u.toNat r then 1 else 0)))) else S)) := by
  have hn := hv.1.1
  have hT0 := hv.1.2.2
  have x1 := hx.1
  have x2 := hx.2
  have y1 := hy.1
  have y2 := hy.2
  have u1 := hu.1
  have u2 := hu.2
  refine sIni (ls := [some (.ref 179), some (.int (iI x)), some (.int (iI y)), some (.int (iI u)), none]) rfl ?_
  refine sL (pc' := 1) (i := .aload_n 0) rfl rfl ?_
  refine sL (pc' := 2) (i := .iload_n 1) rfl rfl ?_
  refine sCv (p := 5) (as := [_]) rfl rfl rfl rfl (by decide) (Nat.le_of_ble_eq_true rfl) rfl (Nat.le_of_ble_eq_true rfl) (sk_179 _) rfl (by omega) (m_isFunction hx hfn h40) ?_
  refine sBe (p := 8) rfl rfl (fun c1 => ?_) (fun c1 => ?_)
  · have c1 := c1
    have c1 := of_decide_eq_false c1
    refine sKb (p := 26) rfl rfl ?_
    refine sEn (i := .ireturn) rfl (rfl) ?_
    refine ⟨congrArg (fun z => some (Value.int (iI z))) ?_, ?_⟩
    · unfold rSubst
      rw [if_pos (by omega)]
    · rw [if_neg (by omega)]
  · have c1 := c1
    have c1 := of_decide_eq_true c1
    refine sL (pc' := 9) (i := .aload_n 0) rfl rfl ?_
    refine sL (pc' := 10) (i := .iload_n 2) rfl rfl ?_
    refine sCv (p := 13) (as := [_]) rfl rfl rfl rfl (by decide) (Nat.le_of_ble_eq_true rfl) rfl (Nat.le_of_ble_eq_true rfl) (sk_179 _) rfl (by omega) (m_isVariable hy hv) ?_
    refine sBe (p := 16) rfl rfl (fun c2 => ?_) (fun c2 => ?_)
    · have c2 := c2
      have c2 := of_decide_eq_false c2
      refine sKb (p := 26) rfl rfl ?_
      refine sEn (i := .ireturn) rfl (rfl) ?_
      refine ⟨congrArg (fun z => some (Value.int (iI z))) ?_, ?_⟩
      · unfold rSubst
        rw [if_pos (by omega)]
      · rw [if_neg (by omega)]
    · have c2 := c2
      have c2 := of_decide_eq_true c2
      refine sL (pc' := 17) (i := .aload_n 0) rfl rfl ?_
      refine sL (pc' := 18) (i := .iload_n 3) rfl rfl ?_
      refine sCv (p := 21) (as := [_]) rfl rfl rfl rfl (by decide) (Nat.le_of_ble_eq_true rfl) rfl (Nat.le_of_ble_eq_true rfl) (sk_179 _) rfl (by omega) (m_isFunction hu hfn h40) ?_
      refine sBn (p := 24) rfl rfl (fun c3 => ?_) (fun c3 => ?_)
      · have c3 := c3
        have c3 := of_decide_eq_true c3
        obtain ⟨f0, rfl⟩ : ∃ f0 : Nat, x = (f0 : Int) := ⟨x.toNat, by omega⟩
        obtain ⟨v, rfl⟩ : ∃ v : Nat, y = (v : Int) := ⟨y.toNat, by omega⟩
        obtain ⟨f1, rfl⟩ : ∃ f1 : Nat, u = (f1 : Int) := ⟨u.toNat, by omega⟩
        have hvv : v < n := by omega
        have hf0 : f0 < fn := by omega
        have hf1 : f1 < fn := by omega
        have hs := hv.1.2.1 v hvv
        have hxe : sz (((v : Nat) : Int).toNat) = sz v := rfl
        refine sL (pc' := 28) (i := .aload_n 0) rfl rfl ?_
        refine sGc (p := 31) rfl rfl (sk_179 _) rfl rfl rfl ?_
        refine sL (pc' := 32) (i := .iload_n 2) rfl rfl ?_
        refine sAi (p := 33) (i := v) rfl rfl (sk_180 _) (by omega) ⟨by omega, by omega⟩ (hv.2.2.2.1 _ (by omega)) ?_
        refine sKi (p := 34) rfl rfl ?_
        refine sIc_eq (p := 37) rfl rfl ⟨by omega, by omega⟩ ⟨by omega, by omega⟩ (fun c4 => ?_) (fun c4 => ?_)
        · have c4 := c4
          refine sL (pc' := 41) (i := .aload_n 0) rfl rfl ?_
          refine sGi (p := 44) rfl rfl (sk_179 _) rfl rfl rfl hfn ?_
          refine sKb (p := 46) rfl rfl ?_
          refine sIc_ne (p := 49) rfl rfl ⟨by omega, by omega⟩ ⟨by omega, by omega⟩ (fun c5 => ?_) (fun c5 => ?_)
          · have c5 := c5
            refine sL (pc' := 53) (i := .aload_n 0) rfl rfl ?_
            refine sL (pc' := 54) (i := .aload_n 0) rfl rfl ?_
            refine sGc (p := 57) rfl rfl (sk_179 _) rfl rfl rfl ?_
            refine sKi (p := 58) rfl rfl ?_
            refine sCv (p := 61) (as := [_, _]) rfl rfl rfl rfl (by decide) (Nat.le_of_ble_eq_true rfl) rfl (Nat.le_of_ble_eq_true rfl) (sk_179 _) rfl (by omega) (m_clear (sk_186 _) (o := 0) ⟨by omega, by omega⟩) ?_
            refine sKi (p := 62) rfl rfl ?_
            refine sL (pc' := 64) (i := .istore 4) (ls' := [some (.ref 179), some (.int (iI ((f0 : Nat) : Int))), some (.int (iI ((v : Nat) : Int))), some (.int (iI ((f1 : Nat) : Int))), some (.int (iI 0))]) rfl rfl ?_
            refine sSh (T := wRw S 186 0 (mk (fun _ => false) (fun r => Fn f0 (chg sz r v (if Fn f1 r then 1 else 0))) 0)) (congrArg sH (by rw [mk_0])) ?_
            refine sIt (A := fun i => [some (.ref 179), some (.int (iI ((f0 : Nat) : Int))), some (.int (iI ((v : Nat) : Int))), some (.int (iI ((f1 : Nat) : Int))), some (.int (iI ((i : Nat) : Int)))]) (B := fun i => wRw S 186 0 (mk (fun _ => false) (fun r => Fn f0 (chg sz r v (if Fn f1 r then 1 else 0))) i)) (fun _ => True) (pr sz n) True.intro (fun i hi64 hI64 ih64 => ?_) (fun hI64 => ?_)
            · have hi64 := hi64
              have hT := hv.1.2.2
              have hcl := chg_lt hv.1 (r := i) hvv (show 0 < sz v by omega) hi64
              have hcl1 := chg_lt hv.1 (r := i) hvv (show 1 < sz v by omega) hi64
              refine sL (pc' := 66) (i := .iload 4) rfl rfl ?_
              refine sL (pc' := 67) (i := .aload_n 0) rfl rfl ?_
              refine sGi (p := 70) rfl rfl (sk_179 _) rfl rfl rfl hv.2.2.1 ?_
              refine sIc_ge (p := 73) rfl rfl ⟨by omega, by omega⟩ ⟨by omega, by omega⟩ (fun c6 => ?_) (fun c6 => ?_)
              · exfalso; omega
              · have c6 := c6
                refine sL (pc' := 74) (i := .aload_n 0) rfl rfl ?_
                refine sGc (p := 77) rfl rfl (sk_179 _) rfl rfl rfl ?_
                refine sKb (p := 79) rfl rfl ?_
                refine sL (pc' := 80) (i := .iload_n 1) rfl rfl ?_
                refine sMu (p := 81) rfl rfl ?_
                refine sL (pc' := 82) (i := .aload_n 0) rfl rfl ?_
                refine sL (pc' := 84) (i := .iload 4) rfl rfl ?_
                refine sL (pc' := 85) (i := .iload_n 2) rfl rfl ?_
                refine sL (pc' := 86) (i := .aload_n 0) rfl rfl ?_
                refine sGc (p := 89) rfl rfl (sk_179 _) rfl rfl rfl ?_
                refine sKb (p := 91) rfl rfl ?_
                refine sL (pc' := 92) (i := .iload_n 3) rfl rfl ?_
                refine sMu (p := 93) rfl rfl ?_
                refine sL (pc' := 95) (i := .iload 4) rfl rfl ?_
                refine sCs (p := 98) (as := [_, _, _]) rfl rfl rfl rfl (by decide) (Nat.le_of_ble_eq_true rfl) rfl (Nat.le_of_ble_eq_true rfl) rfl (by omega) (c_get (S := wRw S 186 0 (mk (fun _ => false) (fun r => Fn f0 (chg sz r v (if Fn f1 r then 1 else 0))) i)) (o := 16 * f1) (r := i) (sk_185 _) ⟨by omega, by omega⟩ (rowS_ne (Or.inl (by decide)) (hF f1 hf1)) (by omega)) ?_
                refine sBe (p := 101) rfl rfl (fun c7 => ?_) (fun c7 => ?_)
                · have c7 := c7
                  have h7 := c7
                  refine sKi (p := 106) rfl rfl ?_
                  refine sCv (p := 109) (as := [_, _, _]) rfl rfl rfl rfl (by decide) (Nat.le_of_ble_eq_true rfl) rfl (Nat.le_of_ble_eq_true rfl) (sk_179 _) rfl (by omega) (m_changed (S := wRw S 186 0 (mk (fun _ => false) (fun r => Fn f0 (chg sz r v (if Fn f1 r then 1 else 0))) i)) hv (r := i) (v := v) (y := 0) (by omega) (by assumption)) ?_
                  refine sCs (p := 112) (as := [_, _, _]) rfl rfl rfl rfl (by decide) (Nat.le_of_ble_eq_true rfl) rfl (Nat.le_of_ble_eq_true rfl) rfl (by omega) (c_get (S := wRw S 186 0 (mk (fun _ => false) (fun r => Fn f0 (chg sz r v (if Fn f1 r then 1 else 0))) i)) (o := 16 * f0) (r := chg sz i v 0) (sk_185 _) ⟨by omega, by omega⟩ (rowS_ne (Or.inl (by decide)) (hF f0 hf0)) (by omega)) ?_
                  refine sBe (p := 115) rfl rfl (fun c8 => ?_) (fun c8 => ?_)
                  · have c8 := c8
                    have h8 := c8
                    refine sInX (z := ((i : Nat) : Int)) (ls' := [some (.ref 179), some (.int (iI ((f0 : Nat) : Int))), some (.int (iI ((v : Nat) : Int))), some (.int (iI ((f1 : Nat) : Int))), some (.int (iI (((i : Nat) : Int) + 1)))]) (p := 128) rfl rfl (Nat.le_of_ble_eq_true rfl) rfl rfl ?_
                    refine sL (i := .goto (-64)) rfl rfl ?_
                    refine sRo (ls := [some (.ref 179), some (.int (iI ((f0 : Nat) : Int))), some (.int (iI ((v : Nat) : Int))), some (.int (iI ((f1 : Nat) : Int))), some (.int (iI ((i + 1 : Nat) : Int)))]) (T := wRw S 186 0 (mk (fun _ => false) (fun r => Fn f0 (chg sz r v (if Fn f1 r then 1 else 0))) (i + 1))) (And.intro rfl (And.intro rfl (And.intro rfl (And.intro rfl (And.intro rfl (True.intro)))))) (congrArg sH (mk_f (show Fn f0 (chg sz i v (if Fn f1 i then 1 else 0)) = false by rw [h7]; exact h8))) (ih64 ?_)
                    exact True.intro
                  · have c8 := c8
                    have h8 := c8
                    refine sL (pc' := 116) (i := .aload_n 0) rfl rfl ?_
                    refine sGc (p := 119) rfl rfl (sk_179 _) rfl rfl rfl ?_
                    refine sKi (p := 120) rfl rfl ?_
                    refine sL (pc' := 122) (i := .iload 4) rfl rfl ?_
                    refine sCs (p := 125) (as := [_, _, _]) rfl rfl rfl rfl (by decide) (Nat.le_of_ble_eq_true rfl) rfl (Nat.le_of_ble_eq_true rfl) rfl (by omega) (c_set (S := wRw S 186 0 (mk (fun _ => false) (fun r => Fn f0 (chg sz r v (if Fn f1 r then 1 else 0))) i)) (o := 0) (r := i) (sk_186 _) ⟨by omega, by omega⟩ (rowS_wRw _ _ _ _) (by omega)) ?_
                    refine sInX (z := ((i : Nat) : Int)) (ls' := [some (.ref 179), some (.int (iI ((f0 : Nat) : Int))), some (.int (iI ((v : Nat) : Int))), some (.int (iI ((f1 : Nat) : Int))), some (.int (iI (((i : Nat) : Int) + 1)))]) (p := 128) rfl rfl (Nat.le_of_ble_eq_true rfl) rfl rfl ?_
                    refine sL (i := .goto (-64)) rfl rfl ?_
                    refine sRo (ls := [some (.ref 179), some (.int (iI ((f0 : Nat) : Int))), some (.int (iI ((v : Nat) : Int))), some (.int (iI ((f1 : Nat) : Int))), some (.int (iI ((i + 1 : Nat) : Int)))]) (T := wRw S 186 0 (mk (fun _ => false) (fun r => Fn f0 (chg sz r v (if Fn f1 r then 1 else 0))) (i + 1))) (And.intro rfl (And.intro rfl (And.intro rfl (And.intro rfl (And.intro rfl (True.intro)))))) (congrArg sH (mk_t (show Fn f0 (chg sz i v (if Fn f1 i then 1 else 0)) = true by rw [h7]; exact h8))) (ih64 ?_)
                    exact True.intro
                · have c7 := c7
                  have h7 := c7
                  refine sKi (p := 102) rfl rfl ?_
                  refine sL (i := .goto 4) rfl rfl ?_
                  refine sCv (p := 109) (as := [_, _, _]) rfl rfl rfl rfl (by decide) (Nat.le_of_ble_eq_true rfl) rfl (Nat.le_of_ble_eq_true rfl) (sk_179 _) rfl (by omega) (m_changed (S := wRw S 186 0 (mk (fun _ => false) (fun r => Fn f0 (chg sz r v (if Fn f1 r then 1 else 0))) i)) hv (r := i) (v := v) (y := 1) (by omega) (by assumption)) ?_
                  refine sCs (p := 112) (as := [_, _, _]) rfl rfl rfl rfl (by decide) (Nat.le_of_ble_eq_true rfl) rfl (Nat.le_of_ble_eq_true rfl) rfl (by omega) (c_get (S := wRw S 186 0 (mk (fun _ => false) (fun r => Fn f0 (chg sz r v (if Fn f1 r then 1 else 0))) i)) (o := 16 * f0) (r := chg sz i v 1) (sk_185 _) ⟨by omega, by omega⟩ (rowS_ne (Or.inl (by decide)) (hF f0 hf0)) (by omega)) ?_
                  refine sBe (p := 115) rfl rfl (fun c9 => ?_) (fun c9 => ?_)
                  · have c9 := c9
                    have h8 := c9
                    refine sInX (z := ((i : Nat) : Int)) (ls' := [some (.ref 179), some (.int (iI ((f0 : Nat) : Int))), some (.int (iI ((v : Nat) : Int))), some (.int (iI ((f1 : Nat) : Int))), some (.int (iI (((i : Nat) : Int) + 1)))]) (p := 128) rfl rfl (Nat.le_of_ble_eq_true rfl) rfl rfl ?_
                    refine sL (i := .goto (-64)) rfl rfl ?_
                    refine sRo (ls := [some (.ref 179), some (.int (iI ((f0 : Nat) : Int))), some (.int (iI ((v : Nat) : Int))), some (.int (iI ((f1 : Nat) : Int))), some (.int (iI ((i + 1 : Nat) : Int)))]) (T := wRw S 186 0 (mk (fun _ => false) (fun r => Fn f0 (chg sz r v (if Fn f1 r then 1 else 0))) (i + 1))) (And.intro rfl (And.intro rfl (And.intro rfl (And.intro rfl (And.intro rfl (True.intro)))))) (congrArg sH (mk_f (show Fn f0 (chg sz i v (if Fn f1 i then 1 else 0)) = false by rw [h7]; exact h8))) (ih64 ?_)
                    exact True.intro
                  · have c9 := c9
                    have h8 := c9
                    refine sL (pc' := 116) (i := .aload_n 0) rfl rfl ?_
                    refine sGc (p := 119) rfl rfl (sk_179 _) rfl rfl rfl ?_
                    refine sKi (p := 120) rfl rfl ?_
                    refine sL (pc' := 122) (i := .iload 4) rfl rfl ?_
                    refine sCs (p := 125) (as := [_, _, _]) rfl rfl rfl rfl (by decide) (Nat.le_of_ble_eq_true rfl) rfl (Nat.le_of_ble_eq_true rfl) rfl (by omega) (c_set (S := wRw S 186 0 (mk (fun _ => false) (fun r => Fn f0 (chg sz r v (if Fn f1 r then 1 else 0))) i)) (o := 0) (r := i) (sk_186 _) ⟨by omega, by omega⟩ (rowS_wRw _ _ _ _) (by omega)) ?_
                    refine sInX (z := ((i : Nat) : Int)) (ls' := [some (.ref 179), some (.int (iI ((f0 : Nat) : Int))), some (.int (iI ((v : Nat) : Int))), some (.int (iI ((f1 : Nat) : Int))), some (.int (iI (((i : Nat) : Int) + 1)))]) (p := 128) rfl rfl (Nat.le_of_ble_eq_true rfl) rfl rfl ?_
                    refine sL (i := .goto (-64)) rfl rfl ?_
                    refine sRo (ls := [some (.ref 179), some (.int (iI ((f0 : Nat) : Int))), some (.int (iI ((v : Nat) : Int))), some (.int (iI ((f1 : Nat) : Int))), some (.int (iI ((i + 1 : Nat) : Int)))]) (T := wRw S 186 0 (mk (fun _ => false) (fun r => Fn f0 (chg sz r v (if Fn f1 r then 1 else 0))) (i + 1))) (And.intro rfl (And.intro rfl (And.intro rfl (And.intro rfl (And.intro rfl (True.intro)))))) (congrArg sH (mk_t (show Fn f0 (chg sz i v (if Fn f1 i then 1 else 0)) = true by rw [h7]; exact h8))) (ih64 ?_)
                    exact True.intro
            · have hI64 := hI64
              refine sL (pc' := 66) (i := .iload 4) rfl rfl ?_
              refine sL (pc' := 67) (i := .aload_n 0) rfl rfl ?_
              refine sGi (p := 70) rfl rfl (sk_179 _) rfl rfl rfl hv.2.2.1 ?_
              refine sIc_ge (p := 73) rfl rfl ⟨by omega, by omega⟩ ⟨by omega, by omega⟩ (fun c10 => ?_) (fun c10 => ?_)
              · have c10 := c10
                refine sL (pc' := 132) (i := .aload_n 0) rfl rfl ?_
                refine sCv (p := 135) (as := []) rfl rfl rfl rfl (by decide) (Nat.le_of_ble_eq_true rfl) rfl (Nat.le_of_ble_eq_true rfl) (sk_179 _) rfl (by omega) (m_keep hfn (by omega) (rowS_wRw _ _ _ _)) ?_
                refine sEn (i := .ireturn) rfl (rfl) ?_
                refine ⟨congrArg (fun z => some (Value.int (iI z))) ?_, ?_⟩
                · unfold rSubst
                  rw [if_neg (by omega), if_neg (by omega), if_neg (by omega)]
                · rw [if_pos (by omega)]
                  rw [mk_cut]
                  rfl
              · exfalso; omega
          · have c5 := c5
            refine sKb (p := 51) rfl rfl ?_
            refine sEn (i := .ireturn) rfl (rfl) ?_
            refine ⟨congrArg (fun z => some (Value.int (iI z))) ?_, ?_⟩
            · unfold rSubst
              rw [if_neg (by omega), if_neg (by omega), if_pos (by omega)]
            · rw [if_neg (by omega)]
        · have c4 := c4
          refine sKb (p := 39) rfl rfl ?_
          refine sEn (i := .ireturn) rfl (rfl) ?_
          refine ⟨congrArg (fun z => some (Value.int (iI z))) ?_, ?_⟩
          · unfold rSubst
            rw [if_neg (by omega), if_pos (by omega)]
          · rw [if_neg (by omega)]
      · have c3 := c3
        have c3 := of_decide_eq_false c3
        refine sKb (p := 26) rfl rfl ?_
        refine sEn (i := .ireturn) rfl (rfl) ?_
        refine ⟨congrArg (fun z => some (Value.int (iI z))) ?_, ?_⟩
        · unfold rSubst
          rw [if_pos (by omega)]
        · rw [if_neg (by omega)]
theorem m_exchange {x y u : Int} (hv : vM S n sz) (hfn : SI S 179 9 = (fn : Nat)) (h40 : fn ≤ 40) (hF : ∀ i, i < fn → rowS S 185 (16 * i) (Fn i)) (hx : rg x) (hy : rg y) (hu : rg u) : sM X 2 188 [.ref 179, .int (iI x), .int (iI y), .int (iI u)] S (sV (some (.int (iI (rExch n sz fn x y u)))) (if okExch n sz fn x y u then mAdd S fn (cut (pr sz n) (fun r => Fn x.toNat (xch sz r y.toNat u.toNat))) else S)) := by
  have hn := hv.1.1
  have hT0 := hv.1.2.2
  have x1 := hx.1
  have x2 := hx.2
  have y1 := hy.1
  have y2 := hy.2
  have u1 := hu.1
  have u2 := hu.2
  refine sIni (ls := [some (.ref 179), some (.int (iI x)), some (.int (iI y)), some (.int (iI u)), none, none, none]) rfl ?_
  refine sL (pc' := 1) (i := .aload_n 0) rfl rfl ?_
  refine sL (pc' := 2) (i := .iload_n 1) rfl rfl ?_
  refine sCv (p := 5) (as := [_]) rfl rfl rfl rfl (by decide) (Nat.le_of_ble_eq_true rfl) rfl (Nat.le_of_ble_eq_true rfl) (sk_179 _) rfl (by omega) (m_isFunction hx hfn h40) ?_
  refine sBe (p := 8) rfl rfl (fun c1 => ?_) (fun c1 => ?_)
  · have c1 := c1
    have c1 := of_decide_eq_false c1
    refine sKb (p := 26) rfl rfl ?_
    refine sEn (i := .ireturn) rfl (rfl) ?_
    refine ⟨congrArg (fun z => some (Value.int (iI z))) ?_, ?_⟩
    · unfold rExch
      rw [if_pos (by omega)]
    · rw [if_neg (by omega)]
  · have c1 := c1
    have c1 := of_decide_eq_true c1
    refine sL (pc' := 9) (i := .aload_n 0) rfl rfl ?_
    refine sL (pc' := 10) (i := .iload_n 2) rfl rfl ?_
    refine sCv (p := 13) (as := [_]) rfl rfl rfl rfl (by decide) (Nat.le_of_ble_eq_true rfl) rfl (Nat.le_of_ble_eq_true rfl) (sk_179 _) rfl (by omega) (m_isVariable hy hv) ?_
    refine sBe (p := 16) rfl rfl (fun c2 => ?_) (fun c2 => ?_)
    · have c2 := c2
      have c2 := of_decide_eq_false c2
      refine sKb (p := 26) rfl rfl ?_
      refine sEn (i := .ireturn) rfl (rfl) ?_
      refine ⟨congrArg (fun z => some (Value.int (iI z))) ?_, ?_⟩
      · unfold rExch
        rw [if_pos (by omega)]
      · rw [if_neg (by omega)]
    · have c2 := c2
      have c2 := of_decide_eq_true c2
      refine sL (pc' := 17) (i := .aload_n 0) rfl rfl ?_
      refine sL (pc' := 18) (i := .iload_n 3) rfl rfl ?_
      refine sCv (p := 21) (as := [_]) rfl rfl rfl rfl (by decide) (Nat.le_of_ble_eq_true rfl) rfl (Nat.le_of_ble_eq_true rfl) (sk_179 _) rfl (by omega) (m_isVariable hu hv) ?_
      refine sBn (p := 24) rfl rfl (fun c3 => ?_) (fun c3 => ?_)
      · have c3 := c3
        have c3 := of_decide_eq_true c3
        obtain ⟨f0, rfl⟩ : ∃ f0 : Nat, x = (f0 : Int) := ⟨x.toNat, by omega⟩
        obtain ⟨v, rfl⟩ : ∃ v : Nat, y = (v : Int) := ⟨y.toNat, by omega⟩
        obtain ⟨k, rfl⟩ : ∃ k : Nat, u = (k : Int) := ⟨u.toNat, by omega⟩
        have hvv : v < n := by omega
        have hf0 : f0 < fn := by omega
        have hkk : k < n := by omega
        have hsv := hv.1.2.1 v hvv
        have hsk := hv.1.2.1 k hkk
        have hxe : sz (((v : Nat) : Int).toNat) = sz v := rfl
        have hke : sz (((k : Nat) : Int).toNat) = sz k := rfl
        refine sL (pc' := 28) (i := .aload_n 0) rfl rfl ?_
        refine sGc (p := 31) rfl rfl (sk_179 _) rfl rfl rfl ?_
        refine sL (pc' := 32) (i := .iload_n 2) rfl rfl ?_
        refine sAi (p := 33) (i := v) rfl rfl (sk_180 _) (by omega) ⟨by omega, by omega⟩ (hv.2.2.2.1 _ (by omega)) ?_
        refine sL (pc' := 34) (i := .aload_n 0) rfl rfl ?_
        refine sGc (p := 37) rfl rfl (sk_179 _) rfl rfl rfl ?_
        refine sL (pc' := 38) (i := .iload_n 3) rfl rfl ?_
        refine sAi (p := 39) (i := k) rfl rfl (sk_180 _) (by omega) ⟨by omega, by omega⟩ (hv.2.2.2.1 _ (by omega)) ?_
        refine sIc_eq (p := 42) rfl rfl ⟨by omega, by omega⟩ ⟨by omega, by omega⟩ (fun c4 => ?_) (fun c4 => ?_)
        · have c4 := c4
          refine sL (pc' := 46) (i := .aload_n 0) rfl rfl ?_
          refine sGi (p := 49) rfl rfl (sk_179 _) rfl rfl rfl hfn ?_
          refine sKb (p := 51) rfl rfl ?_
          refine sIc_ne (p := 54) rfl rfl ⟨by omega, by omega⟩ ⟨by omega, by omega⟩ (fun c5 => ?_) (fun c5 => ?_)
          · have c5 := c5
            refine sL (pc' := 58) (i := .aload_n 0) rfl rfl ?_
            refine sL (pc' := 59) (i := .aload_n 0) rfl rfl ?_
            refine sGc (p := 62) rfl rfl (sk_179 _) rfl rfl rfl ?_
            refine sKi (p := 63) rfl rfl ?_
            refine sCv (p := 66) (as := [_, _]) rfl rfl rfl rfl (by decide) (Nat.le_of_ble_eq_true rfl) rfl (Nat.le_of_ble_eq_true rfl) (sk_179 _) rfl (by omega) (m_clear (sk_186 _) (o := 0) ⟨by omega, by omega⟩) ?_
            refine sKi (p := 67) rfl rfl ?_
            refine sL (pc' := 69) (i := .istore 4) (ls' := [some (.ref 179), some (.int (iI ((f0 : Nat) : Int))), some (.int (iI ((v : Nat) : Int))), some (.int (iI ((k : Nat) : Int))), some (.int (iI 0)), none, none]) rfl rfl ?_
            refine sSh (T := wRw S 186 0 (mk (fun _ => false) (fun r => Fn f0 (xch sz r v k)) 0)) (congrArg sH (by rw [mk_0])) ?_
            refine sIt (A := fun i => [some (.ref 179), some (.int (iI ((f0 : Nat) : Int))), some (.int (iI ((v : Nat) : Int))), some (.int (iI ((k : Nat) : Int))), some (.int (iI ((i : Nat) : Int))), none, none]) (B := fun i => wRw S 186 0 (mk (fun _ => false) (fun r => Fn f0 (xch sz r v k)) i)) (fun _ => True) (pr sz n) True.intro (fun i hi69 hI69 ih69 => ?_) (fun hI69 => ?_)
            · have hi69 := hi69
              have hT := hv.1.2.2
              have hcl : xch sz i v k < pr sz n := xch_lt hv.1 hvv hkk (by omega) hi69
              have hvl := hv.1.val hvv i
              have hvk := hv.1.val hkk i
              have hc2 := chg_lt hv.1 (r := i) hvv (show val sz i k < sz v by omega) hi69
              refine sL (pc' := 71) (i := .iload 4) rfl rfl ?_
              refine sL (pc' := 72) (i := .aload_n 0) rfl rfl ?_
              refine sGi (p := 75) rfl rfl (sk_179 _) rfl rfl rfl hv.2.2.1 ?_
              refine sIc_ge (p := 78) rfl rfl ⟨by omega, by omega⟩ ⟨by omega, by omega⟩ (fun c6 => ?_) (fun c6 => ?_)
              · exfalso; omega
              · have c6 := c6
                refine sL (pc' := 79) (i := .aload_n 0) rfl rfl ?_
                refine sL (pc' := 81) (i := .iload 4) rfl rfl ?_
                refine sL (pc' := 82) (i := .iload_n 2) rfl rfl ?_
                refine sCv (p := 85) (as := [_, _]) rfl rfl rfl rfl (by decide) (Nat.le_of_ble_eq_true rfl) rfl (Nat.le_of_ble_eq_true rfl) (sk_179 _) rfl (by omega) (m_val (S := wRw S 186 0 (mk (fun _ => false) (fun r => Fn f0 (xch sz r v k)) i)) hv (r := i) (v := v) (by omega) (by assumption)) ?_
                refine sL (pc' := 87) (i := .istore 5) (ls' := [some (.ref 179), some (.int (iI ((f0 : Nat) : Int))), some (.int (iI ((v : Nat) : Int))), some (.int (iI ((k : Nat) : Int))), some (.int (iI ((i : Nat) : Int))), some (.int (iI ((val sz i v : Nat) : Int))), none]) rfl rfl ?_
                refine sL (pc' := 88) (i := .aload_n 0) rfl rfl ?_
                refine sL (pc' := 90) (i := .iload 4) rfl rfl ?_
                refine sL (pc' := 91) (i := .iload_n 3) rfl rfl ?_
                refine sCv (p := 94) (as := [_, _]) rfl rfl rfl rfl (by decide) (Nat.le_of_ble_eq_true rfl) rfl (Nat.le_of_ble_eq_true rfl) (sk_179 _) rfl (by omega) (m_val (S := wRw S 186 0 (mk (fun _ => false) (fun r => Fn f0 (xch sz r v k)) i)) hv (r := i) (v := k) (by omega) (by assumption)) ?_
                refine sL (pc' := 96) (i := .istore 6) (ls' := [some (.ref 179), some (.int (iI ((f0 : Nat) : Int))), some (.int (iI ((v : Nat) : Int))), some (.int (iI ((k : Nat) : Int))), some (.int (iI ((i : Nat) : Int))), some (.int (iI ((val sz i v : Nat) : Int))), some (.int (iI ((val sz i k : Nat) : Int)))]) rfl rfl ?_
                refine sL (pc' := 97) (i := .aload_n 0) rfl rfl ?_
                refine sGc (p := 100) rfl rfl (sk_179 _) rfl rfl rfl ?_
                refine sKb (p := 102) rfl rfl ?_
                refine sL (pc' := 103) (i := .iload_n 1) rfl rfl ?_
                refine sMu (p := 104) rfl rfl ?_
                refine sL (pc' := 105) (i := .aload_n 0) rfl rfl ?_
                refine sL (pc' := 106) (i := .aload_n 0) rfl rfl ?_
                refine sL (pc' := 108) (i := .iload 4) rfl rfl ?_
                refine sL (pc' := 109) (i := .iload_n 2) rfl rfl ?_
                refine sL (pc' := 111) (i := .iload 6) rfl rfl ?_
                refine sCv (p := 114) (as := [_, _, _]) rfl rfl rfl rfl (by decide) (Nat.le_of_ble_eq_true rfl) rfl (Nat.le_of_ble_eq_true rfl) (sk_179 _) rfl (by omega) (m_changed (S := wRw S 186 0 (mk (fun _ => false) (fun r => Fn f0 (xch sz r v k)) i)) hv (r := i) (v := v) (y := val sz i k) (by omega) (by assumption)) ?_
                refine sL (pc' := 115) (i := .iload_n 3) rfl rfl ?_
                refine sL (pc' := 117) (i := .iload 5) rfl rfl ?_
                refine sCv (p := 120) (as := [_, _, _]) rfl rfl rfl rfl (by decide) (Nat.le_of_ble_eq_true rfl) rfl (Nat.le_of_ble_eq_true rfl) (sk_179 _) rfl (by omega) (m_changed (S := wRw S 186 0 (mk (fun _ => false) (fun r => Fn f0 (xch sz r v k)) i)) hv (r := chg sz i v (val sz i k)) (v := k) (y := val sz i v) (by omega) (by assumption)) ?_
                refine sCs (p := 123) (as := [_, _, _]) rfl rfl rfl rfl (by decide) (Nat.le_of_ble_eq_true rfl) rfl (Nat.le_of_ble_eq_true rfl) rfl (by omega) (c_get (S := wRw S 186 0 (mk (fun _ => false) (fun r => Fn f0 (xch sz r v k)) i)) (o := 16 * f0) (r := xch sz i v k) (sk_185 _) ⟨by omega, by omega⟩ (rowS_ne (Or.inl (by decide)) (hF f0 hf0)) (by omega)) ?_
                refine sBe (p := 126) rfl rfl (fun c7 => ?_) (fun c7 => ?_)
                · have c7 := c7
                  have h8 := c7
                  refine sInX (z := ((i : Nat) : Int)) (ls' := [some (.ref 179), some (.int (iI ((f0 : Nat) : Int))), some (.int (iI ((v : Nat) : Int))), some (.int (iI ((k : Nat) : Int))), some (.int (iI (((i : Nat) : Int) + 1))), some (.int (iI ((val sz i v : Nat) : Int))), some (.int (iI ((val sz i k : Nat) : Int)))]) (p := 139) rfl rfl (Nat.le_of_ble_eq_true rfl) rfl rfl ?_
                  refine sL (i := .goto (-70)) rfl rfl ?_
                  refine sRo (ls := [some (.ref 179), some (.int (iI ((f0 : Nat) : Int))), some (.int (iI ((v : Nat) : Int))), some (.int (iI ((k : Nat) : Int))), some (.int (iI ((i + 1 : Nat) : Int))), none, none]) (T := wRw S 186 0 (mk (fun _ => false) (fun r => Fn f0 (xch sz r v k)) (i + 1))) (And.intro rfl (And.intro rfl (And.intro rfl (And.intro rfl (And.intro rfl (True.intro)))))) (congrArg sH (mk_f (h8))) (ih69 ?_)
                  exact True.intro
                · have c7 := c7
                  have h8 := c7
                  refine sL (pc' := 127) (i := .aload_n 0) rfl rfl ?_
                  refine sGc (p := 130) rfl rfl (sk_179 _) rfl rfl rfl ?_
                  refine sKi (p := 131) rfl rfl ?_
                  refine sL (pc' := 133) (i := .iload 4) rfl rfl ?_
                  refine sCs (p := 136) (as := [_, _, _]) rfl rfl rfl rfl (by decide) (Nat.le_of_ble_eq_true rfl) rfl (Nat.le_of_ble_eq_true rfl) rfl (by omega) (c_set (S := wRw S 186 0 (mk (fun _ => false) (fun r => Fn f0 (xch sz r v k)) i)) (o := 0) (r := i) (sk_186 _) ⟨by omega, by omega⟩ (rowS_wRw _ _ _ _) (by omega)) ?_
                  refine sInX (z := ((i : Nat) : Int)) (ls' := [some (.ref 179), some (.int (iI ((f0 : Nat) : Int))), some (.int (iI ((v : Nat) : Int))), some (.int (iI ((k : Nat) : Int))), some (.int (iI (((i : Nat) : Int) + 1))), some (.int (iI ((val sz i v : Nat) : Int))), some (.int (iI ((val sz i k : Nat) : Int)))]) (p := 139) rfl rfl (Nat.le_of_ble_eq_true rfl) rfl rfl ?_
                  refine sL (i := .goto (-70)) rfl rfl ?_
                  refine sRo (ls := [some (.ref 179), some (.int (iI ((f0 : Nat) : Int))), some (.int (iI ((v : Nat) : Int))), some (.int (iI ((k : Nat) : Int))), some (.int (iI ((i + 1 : Nat) : Int))), none, none]) (T := wRw S 186 0 (mk (fun _ => false) (fun r => Fn f0 (xch sz r v k)) (i + 1))) (And.intro rfl (And.intro rfl (And.intro rfl (And.intro rfl (And.intro rfl (True.intro)))))) (congrArg sH (mk_t (h8))) (ih69 ?_)
                  exact True.intro
            · have hI69 := hI69
              refine sL (pc' := 71) (i := .iload 4) rfl rfl ?_
              refine sL (pc' := 72) (i := .aload_n 0) rfl rfl ?_
              refine sGi (p := 75) rfl rfl (sk_179 _) rfl rfl rfl hv.2.2.1 ?_
              refine sIc_ge (p := 78) rfl rfl ⟨by omega, by omega⟩ ⟨by omega, by omega⟩ (fun c8 => ?_) (fun c8 => ?_)
              · have c8 := c8
                refine sL (pc' := 143) (i := .aload_n 0) rfl rfl ?_
                refine sCv (p := 146) (as := []) rfl rfl rfl rfl (by decide) (Nat.le_of_ble_eq_true rfl) rfl (Nat.le_of_ble_eq_true rfl) (sk_179 _) rfl (by omega) (m_keep hfn (by omega) (rowS_wRw _ _ _ _)) ?_
                refine sEn (i := .ireturn) rfl (rfl) ?_
                refine ⟨congrArg (fun z => some (Value.int (iI z))) ?_, ?_⟩
                · unfold rExch
                  rw [if_neg (by omega), if_neg (by omega), if_neg (by omega)]
                · rw [if_pos (by omega)]
                  rw [mk_cut]
                  rfl
              · exfalso; omega
          · have c5 := c5
            refine sKb (p := 56) rfl rfl ?_
            refine sEn (i := .ireturn) rfl (rfl) ?_
            refine ⟨congrArg (fun z => some (Value.int (iI z))) ?_, ?_⟩
            · unfold rExch
              rw [if_neg (by omega), if_neg (by omega), if_pos (by omega)]
            · rw [if_neg (by omega)]
        · have c4 := c4
          refine sKb (p := 44) rfl rfl ?_
          refine sEn (i := .ireturn) rfl (rfl) ?_
          refine ⟨congrArg (fun z => some (Value.int (iI z))) ?_, ?_⟩
          · unfold rExch
            rw [if_neg (by omega), if_pos (by omega)]
          · rw [if_neg (by omega)]
      · have c3 := c3
        have c3 := of_decide_eq_false c3
        refine sKb (p := 26) rfl rfl ?_
        refine sEn (i := .ireturn) rfl (rfl) ?_
        refine ⟨congrArg (fun z => some (Value.int (iI z))) ?_, ?_⟩
        · unfold rExch
          rw [if_pos (by omega)]
        · rw [if_neg (by omega)]
end M1
