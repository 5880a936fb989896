/-! ===== the reference: odds, weigh, part, choice ===== -/
def sgO (x y : Int) : Int := if 2 * x < y then -1 else if 2 * x = y then 0 else 1
theorem swt_n {p : Nat → Bool} {q : Nat → Int} (hq : ∀ r, 0 ≤ q r ∧ q r ≤ 590490000000000) {T : Nat} (hT : T ≤ 1024) : ∃ l : Nat, swt p q T = (l : Int) ∧ l < 700000000000000000 := by
  have h := swt_b (p := p) hq T
  refine ⟨(swt p q T).toNat, by omega, by omega⟩
section M5
variable {X : List Int32} {S : ST} {n : Nat} {sz : Nat → Nat} {fn : Nat} {a o N : Nat} {f g h : Nat → Bool} {Fn : Nat → Nat → Bool} {wt : Nat → Int} {ro : Nat → Bool}
theorem m_odds_u {x y : Int} (hv : vM S n sz) (hfn : SI S 179 9 = (fn : Nat)) (h40 : fn ≤ 40) (hx : rg x) (hy : rg y) (hb : ¬ ((0 ≤ x ∧ x < fn) ∧ (y = -1 ∨ (0 ≤ y ∧ y < fn)))) : sM X 3 224 [.ref 179, .int (iI x), .int (iI y)] S (sV (some (.int (iI (-101)))) (wI S 179 0 0)) := by
  have x1 := hx.1
  have x2 := hx.2
  have y1 := hy.1
  have y2 := hy.2
  refine sIni (ls := [some (.ref 179), some (.int (iI x)), some (.int (iI y)), none, none, none, none, none, none, none, none, none, none]) rfl ?_
  refine sL (pc' := 1) (i := .aload_n 0) rfl rfl ?_
  refine sKi (p := 2) rfl rfl ?_
  refine sPi (z := 0) (p := 5) rfl rfl (sk_179 _) rfl rfl rfl rfl ?_
  refine sL (pc' := 6) (i := .aload_n 0) rfl rfl ?_
  refine sL (pc' := 7) (i := .iload_n 1) rfl rfl ?_
  refine sCv (p := 10) (as := [_]) rfl rfl rfl rfl (by decide) (Nat.le_of_ble_eq_true rfl) rfl (Nat.le_of_ble_eq_true rfl) (sk_179 _) rfl (by omega) (m_isFunction hx hfn h40) ?_
  refine sBe (p := 13) rfl rfl (fun c1 => ?_) (fun c1 => ?_)
  · have c1 := c1
    have c1 := of_decide_eq_false c1
    refine sKb (p := 28) rfl rfl ?_
    refine sEn (i := .ireturn) rfl (rfl) ?_
    exact ⟨rfl, rfl⟩
  · have c1 := c1
    have c1 := of_decide_eq_true c1
    refine sL (pc' := 14) (i := .iload_n 2) rfl rfl ?_
    refine sKi (p := 15) rfl rfl ?_
    refine sIc_eq (p := 18) rfl rfl ⟨by omega, by omega⟩ ⟨by omega, by omega⟩ (fun c2 => ?_) (fun c2 => ?_)
    · exfalso; omega
    · have c2 := c2
      refine sL (pc' := 19) (i := .aload_n 0) rfl rfl ?_
      refine sL (pc' := 20) (i := .iload_n 2) rfl rfl ?_
      refine sCv (p := 23) (as := [_]) rfl rfl rfl rfl (by decide) (Nat.le_of_ble_eq_true rfl) rfl (Nat.le_of_ble_eq_true rfl) (sk_179 _) rfl (by omega) (m_isFunction hy hfn h40) ?_
      refine sBn (p := 26) rfl rfl (fun c3 => ?_) (fun c3 => ?_)
      · exfalso; have c3 := of_decide_eq_true c3; omega
      · have c3 := c3
        have c3 := of_decide_eq_false c3
        refine sKb (p := 28) rfl rfl ?_
        refine sEn (i := .ireturn) rfl (rfl) ?_
        exact ⟨rfl, rfl⟩
theorem m_odds_Nz {u v l : Nat} (hv : vM S n sz) (hfn : SI S 179 9 = (fn : Nat)) (h40 : fn ≤ 40) (hF : ∀ i, i < fn → rowS S 185 (16 * i) (Fn i)) (hw : wM S n wt ro) (hu : u < fn) (hl : swt (fun _ => true) (wq sz wt ro n) (pr sz n) = (l : Int)) (h0 : l = 0) : sM X 3 224 [.ref 179, .int (iI (u : Nat)), .int (iI (-1))] S (sV (some (.int (iI 0))) (wI (wI S 179 0 0) 179 0 1)) := by
  refine sIni (ls := [some (.ref 179), some (.int (iI ((u : Nat) : Int))), some (.int (iI (-1))), none, none, none, none, none, none, none, none, none, none]) rfl ?_
  refine sL (pc' := 1) (i := .aload_n 0) rfl rfl ?_
  refine sKi (p := 2) rfl rfl ?_
  refine sPi (z := 0) (p := 5) rfl rfl (sk_179 _) rfl rfl rfl rfl ?_
  refine sL (pc' := 6) (i := .aload_n 0) rfl rfl ?_
  refine sL (pc' := 7) (i := .iload_n 1) rfl rfl ?_
  refine sCv (p := 10) (as := [_]) rfl rfl rfl rfl (by decide) (Nat.le_of_ble_eq_true rfl) rfl (Nat.le_of_ble_eq_true rfl) (sk_179 _) rfl (by omega) (m_isFunction ⟨by omega, by omega⟩ hfn h40) ?_
  refine sBe (p := 13) rfl rfl (fun c1 => ?_) (fun c1 => ?_)
  · exfalso; have c1 := of_decide_eq_false c1; omega
  · have c1 := c1
    have c1 := of_decide_eq_true c1
    refine sL (pc' := 14) (i := .iload_n 2) rfl rfl ?_
    refine sKi (p := 15) rfl rfl ?_
    refine sIc_eq (p := 18) rfl rfl ⟨by omega, by omega⟩ ⟨by omega, by omega⟩ (fun c2 => ?_) (fun c2 => ?_)
    · have c2 := c2
      refine sL (pc' := 30) (i := .aload_n 0) rfl rfl ?_
      refine sKi (p := 31) rfl rfl ?_
      refine sL (pc' := 32) (i := .iload_n 2) rfl rfl ?_
      refine sCv (p := 35) (as := [_, _]) rfl rfl rfl rfl (by decide) (Nat.le_of_ble_eq_true rfl) rfl (Nat.le_of_ble_eq_true rfl) (sk_179 _) rfl (by omega) (m_wobNN (u := 0) (S := wI S 179 0 0) (v := 0) hv hfn h40 hF hw) ?_
      rw [hl]
      refine sL (pc' := 36) (i := .lstore_n 3) (ls' := [some (.ref 179), some (.int (iI ((u : Nat) : Int))), some (.int (iI (-1))), some (.long (lI ((l : Nat) : Int))), none, none, none, none, none, none, none, none, none]) rfl rfl ?_
      refine sL (pc' := 37) (i := .lload_n 3) rfl rfl ?_
      refine sKj0 (p := 38) rfl rfl rfl ?_
      refine sLf_ne (p := 42) rfl rfl rfl ⟨by omega, by omega⟩ ⟨by omega, by omega⟩ (fun c3 => ?_) (fun c3 => ?_)
      · exfalso; omega
      · have c3 := c3
        refine sL (pc' := 43) (i := .aload_n 0) rfl rfl ?_
        refine sKi (p := 44) rfl rfl ?_
        refine sPi (z := 1) (p := 47) rfl rfl (sk_179 _) rfl rfl rfl rfl ?_
        refine sKi (p := 48) rfl rfl ?_
        refine sEn (i := .ireturn) rfl (rfl) ?_
        exact ⟨rfl, rfl⟩
    · exact absurd c2 (by decide)
theorem m_odds_Nk {u v l : Nat} (hv : vM S n sz) (hfn : SI S 179 9 = (fn : Nat)) (h40 : fn ≤ 40) (hF : ∀ i, i < fn → rowS S 185 (16 * i) (Fn i)) (hw : wM S n wt ro) (hu : u < fn) (hl : swt (fun _ => true) (wq sz wt ro n) (pr sz n) = (l : Int)) {m : Nat} (hm : swt (fun r => Fn u r) (wq sz wt ro n) (pr sz n) = (m : Int)) (h0 : 0 < l) (hlb : l < 700000000000000000) (hmb : m < 700000000000000000) : sM X 3 224 [.ref 179, .int (iI (u : Nat)), .int (iI (-1))] S (sV (some (.int (iI (sgO ((m / Nat.gcd l m : Nat) : Int) ((l / Nat.gcd l m : Nat) : Int))))) (wL (wL (wI S 179 0 0) 179 20 (lI ((m / Nat.gcd l m : Nat) : Int))) 179 21 (lI ((l / Nat.gcd l m : Nat) : Int)))) := by
  have hg0 : 0 < Nat.gcd l m := Nat.gcd_pos_of_pos_left _ h0
  have hg1 : Nat.gcd l m ≤ l := Nat.gcd_le_left _ h0
  have hd1 : m / Nat.gcd l m ≤ m := Nat.div_le_self _ _
  have hd2 : l / Nat.gcd l m ≤ l := Nat.div_le_self _ _
  have hd3 : (0 : Int) ≤ ((m / Nat.gcd l m : Nat) : Int) := Int.natCast_nonneg _
  have hd4 : (0 : Int) ≤ ((l / Nat.gcd l m : Nat) : Int) := Int.natCast_nonneg _
  refine sIni (ls := [some (.ref 179), some (.int (iI ((u : Nat) : Int))), some (.int (iI (-1))), none, none, none, none, none, none, none, none, none, none]) rfl ?_
  refine sL (pc' := 1) (i := .aload_n 0) rfl rfl ?_
  refine sKi (p := 2) rfl rfl ?_
  refine sPi (z := 0) (p := 5) rfl rfl (sk_179 _) rfl rfl rfl rfl ?_
  refine sL (pc' := 6) (i := .aload_n 0) rfl rfl ?_
  refine sL (pc' := 7) (i := .iload_n 1) rfl rfl ?_
  refine sCv (p := 10) (as := [_]) rfl rfl rfl rfl (by decide) (Nat.le_of_ble_eq_true rfl) rfl (Nat.le_of_ble_eq_true rfl) (sk_179 _) rfl (by omega) (m_isFunction ⟨by omega, by omega⟩ hfn h40) ?_
  refine sBe (p := 13) rfl rfl (fun c1 => ?_) (fun c1 => ?_)
  · exfalso; have c1 := of_decide_eq_false c1; omega
  · have c1 := c1
    have c1 := of_decide_eq_true c1
    refine sL (pc' := 14) (i := .iload_n 2) rfl rfl ?_
    refine sKi (p := 15) rfl rfl ?_
    refine sIc_eq (p := 18) rfl rfl ⟨by omega, by omega⟩ ⟨by omega, by omega⟩ (fun c2 => ?_) (fun c2 => ?_)
    · have c2 := c2
      refine sL (pc' := 30) (i := .aload_n 0) rfl rfl ?_
      refine sKi (p := 31) rfl rfl ?_
      refine sL (pc' := 32) (i := .iload_n 2) rfl rfl ?_
      refine sCv (p := 35) (as := [_, _]) rfl rfl rfl rfl (by decide) (Nat.le_of_ble_eq_true rfl) rfl (Nat.le_of_ble_eq_true rfl) (sk_179 _) rfl (by omega) (m_wobNN (u := 0) (S := wI S 179 0 0) (v := 0) hv hfn h40 hF hw) ?_
      rw [hl]
      refine sL (pc' := 36) (i := .lstore_n 3) (ls' := [some (.ref 179), some (.int (iI ((u : Nat) : Int))), some (.int (iI (-1))), some (.long (lI ((l : Nat) : Int))), none, none, none, none, none, none, none, none, none]) rfl rfl ?_
      refine sL (pc' := 37) (i := .lload_n 3) rfl rfl ?_
      refine sKj0 (p := 38) rfl rfl rfl ?_
      refine sLf_ne (p := 42) rfl rfl rfl ⟨by omega, by omega⟩ ⟨by omega, by omega⟩ (fun c3 => ?_) (fun c3 => ?_)
      · have c3 := c3
        refine sL (pc' := 50) (i := .aload_n 0) rfl rfl ?_
        refine sL (pc' := 51) (i := .iload_n 1) rfl rfl ?_
        refine sL (pc' := 52) (i := .iload_n 2) rfl rfl ?_
        refine sCv (p := 55) (as := [_, _]) rfl rfl rfl rfl (by decide) (Nat.le_of_ble_eq_true rfl) rfl (Nat.le_of_ble_eq_true rfl) (sk_179 _) rfl (by omega) (m_wobFN (S := wI S 179 0 0) (v := 0) hv hfn h40 hF hw hu) ?_
        rw [hm]
        refine sL (pc' := 57) (i := .lstore 5) (ls' := [some (.ref 179), some (.int (iI ((u : Nat) : Int))), some (.int (iI (-1))), some (.long (lI ((l : Nat) : Int))), none, some (.long (lI ((m : Nat) : Int))), none, none, none, none, none, none, none]) rfl rfl ?_
        refine sL (pc' := 58) (i := .lload_n 3) rfl rfl ?_
        refine sL (pc' := 60) (i := .lstore 7) (ls' := [some (.ref 179), some (.int (iI ((u : Nat) : Int))), some (.int (iI (-1))), some (.long (lI ((l : Nat) : Int))), none, some (.long (lI ((m : Nat) : Int))), none, some (.long (lI ((l : Nat) : Int))), none, none, none, none, none]) rfl rfl ?_
        refine sL (pc' := 62) (i := .lload 5) rfl rfl ?_
        refine sL (pc' := 64) (i := .lstore 9) (ls' := [some (.ref 179), some (.int (iI ((u : Nat) : Int))), some (.int (iI (-1))), some (.long (lI ((l : Nat) : Int))), none, some (.long (lI ((m : Nat) : Int))), none, some (.long (lI ((l : Nat) : Int))), none, some (.long (lI ((m : Nat) : Int))), none, none, none]) rfl rfl ?_
        refine sIt (A := fun i => [some (.ref 179), some (.int (iI ((u : Nat) : Int))), some (.int (iI (-1))), some (.long (lI ((l : Nat) : Int))), none, some (.long (lI ((m : Nat) : Int))), none, some (.long (lI (((eu l m i).1 : Nat) : Int))), none, some (.long (lI (((eu l m i).2 : Nat) : Int))), none, none, none]) (B := fun _ => (wI S 179 0 0)) (fun _ => True) (est l m) True.intro (fun i hi64 hI64 ih64 => ?_) (fun hI64 => ?_)
        · have hi64 := hi64
          have hnz := eu_nz hi64
          have hle := eu_le (a := l) (b := m) (M := 700000000000000000) (by omega) (by omega) i
          refine sL (pc' := 66) (i := .lload 9) rfl rfl ?_
          refine sKj0 (p := 67) rfl rfl rfl ?_
          refine sLf_eq (p := 71) rfl rfl rfl ⟨by omega, by omega⟩ ⟨by omega, by omega⟩ (fun c4 => ?_) (fun c4 => ?_)
          · exfalso; omega
          · have c4 := c4
            refine sL (pc' := 73) (i := .lload 7) rfl rfl ?_
            refine sL (pc' := 75) (i := .lload 9) rfl rfl ?_
            refine sLrm (p := 76) rfl rfl ⟨by omega, by omega⟩ ⟨by omega, by omega⟩ ?_
            refine sL (pc' := 78) (i := .lstore 11) (ls' := [some (.ref 179), some (.int (iI ((u : Nat) : Int))), some (.int (iI (-1))), some (.long (lI ((l : Nat) : Int))), none, some (.long (lI ((m : Nat) : Int))), none, some (.long (lI (((eu l m i).1 : Nat) : Int))), none, some (.long (lI (((eu l m i).2 : Nat) : Int))), none, some (.long (lI (((((eu l m i).1 : Nat) : Int)) % ((((eu l m i).2 : Nat) : Int))))), none]) rfl rfl ?_
            refine sL (pc' := 80) (i := .lload 9) rfl rfl ?_
            refine sL (pc' := 82) (i := .lstore 7) (ls' := [some (.ref 179), some (.int (iI ((u : Nat) : Int))), some (.int (iI (-1))), some (.long (lI ((l : Nat) : Int))), none, some (.long (lI ((m : Nat) : Int))), none, some (.long (lI (((eu l m i).2 : Nat) : Int))), none, some (.long (lI (((eu l m i).2 : Nat) : Int))), none, some (.long (lI (((((eu l m i).1 : Nat) : Int)) % ((((eu l m i).2 : Nat) : Int))))), none]) rfl rfl ?_
            refine sL (pc' := 84) (i := .lload 11) rfl rfl ?_
            refine sL (pc' := 86) (i := .lstore 9) (ls' := [some (.ref 179), some (.int (iI ((u : Nat) : Int))), some (.int (iI (-1))), some (.long (lI ((l : Nat) : Int))), none, some (.long (lI ((m : Nat) : Int))), none, some (.long (lI (((eu l m i).2 : Nat) : Int))), none, some (.long (lI (((((eu l m i).1 : Nat) : Int)) % ((((eu l m i).2 : Nat) : Int))))), none, some (.long (lI (((((eu l m i).1 : Nat) : Int)) % ((((eu l m i).2 : Nat) : Int))))), none]) rfl rfl ?_
            refine sL (i := .goto (-22)) rfl rfl ?_
            refine sRo (ls := [some (.ref 179), some (.int (iI ((u : Nat) : Int))), some (.int (iI (-1))), some (.long (lI ((l : Nat) : Int))), none, some (.long (lI ((m : Nat) : Int))), none, some (.long (lI (((eu l m (i + 1)).1 : Nat) : Int))), none, some (.long (lI (((eu l m (i + 1)).2 : Nat) : Int))), none, none, none]) (T := _) (And.intro rfl (And.intro rfl (And.intro rfl (And.intro rfl (And.intro rfl (And.intro rfl (And.intro rfl (True.intro)))))))) (rfl) (ih64 ?_)
            exact True.intro
        · have hI64 := hI64
          have hle := eu_le (a := l) (b := m) (M := 700000000000000000) (by omega) (by omega) (est l m)
          have hend := eu_end l m
          rw [eu_fin]
          refine sL (pc' := 66) (i := .lload 9) rfl rfl ?_
          refine sKj0 (p := 67) rfl rfl rfl ?_
          refine sLf_eq (p := 71) rfl rfl rfl ⟨by omega, by omega⟩ ⟨by omega, by omega⟩ (fun c5 => ?_) (fun c5 => ?_)
          · have c5 := c5
            refine sL (pc' := 90) (i := .aload_n 0) rfl rfl ?_
            refine sL (pc' := 92) (i := .lload 5) rfl rfl ?_
            refine sL (pc' := 94) (i := .lload 7) rfl rfl ?_
            refine sLdv (p := 95) rfl rfl ⟨by omega, by omega⟩ ⟨by omega, by omega⟩ ?_
            rw [show ((((m : Nat) : Int)) / (((Nat.gcd l m : Nat) : Int))) = ((m / Nat.gcd l m : Nat) : Int) from by rfl]
            refine sPl (p := 98) rfl rfl (sk_179 _) rfl rfl rfl rfl ?_
            refine sL (pc' := 99) (i := .aload_n 0) rfl rfl ?_
            refine sL (pc' := 100) (i := .lload_n 3) rfl rfl ?_
            refine sL (pc' := 102) (i := .lload 7) rfl rfl ?_
            refine sLdv (p := 103) rfl rfl ⟨by omega, by omega⟩ ⟨by omega, by omega⟩ ?_
            rw [show ((((l : Nat) : Int)) / (((Nat.gcd l m : Nat) : Int))) = ((l / Nat.gcd l m : Nat) : Int) from by rfl]
            refine sPl (p := 106) rfl rfl (sk_179 _) rfl rfl rfl rfl ?_
            refine sK2 (z := 2) (p := 109) rfl rfl rfl ?_
            refine sL (pc' := 110) (i := .aload_n 0) rfl rfl ?_
            refine sGl (p := 113) (z := (lI ((m / Nat.gcd l m : Nat) : Int))) rfl rfl (sk_179 _) rfl rfl rfl rfl ?_
            refine sLml (p := 114) rfl rfl ?_
            refine sL (pc' := 115) (i := .aload_n 0) rfl rfl ?_
            refine sGl (p := 118) (z := (lI ((l / Nat.gcd l m : Nat) : Int))) rfl rfl (sk_179 _) rfl rfl rfl rfl ?_
            refine sLf_ge (p := 122) rfl rfl rfl ⟨by omega, by omega⟩ ⟨by omega, by omega⟩ (fun c6 => ?_) (fun c6 => ?_)
            · have c6 := c6
              refine sK2 (z := 2) (p := 129) rfl rfl rfl ?_
              refine sL (pc' := 130) (i := .aload_n 0) rfl rfl ?_
              refine sGl (p := 133) (z := (lI ((m / Nat.gcd l m : Nat) : Int))) rfl rfl (sk_179 _) rfl rfl rfl rfl ?_
              refine sLml (p := 134) rfl rfl ?_
              refine sL (pc' := 135) (i := .aload_n 0) rfl rfl ?_
              refine sGl (p := 138) (z := (lI ((l / Nat.gcd l m : Nat) : Int))) rfl rfl (sk_179 _) rfl rfl rfl rfl ?_
              refine sLf_ne (p := 142) rfl rfl rfl ⟨by omega, by omega⟩ ⟨by omega, by omega⟩ (fun c7 => ?_) (fun c7 => ?_)
              · have c7 := c7
                refine sKi (p := 147) rfl rfl ?_
                refine sEn (i := .ireturn) rfl (rfl) ?_
                refine ⟨congrArg (fun z => some (Value.int (iI z))) ?_, rfl⟩
                unfold sgO
                rw [if_neg (by omega), if_neg (by omega)]
              · have c7 := c7
                refine sKi (p := 143) rfl rfl ?_
                refine sL (i := .goto 4) rfl rfl ?_
                refine sEn (i := .ireturn) rfl (rfl) ?_
                refine ⟨congrArg (fun z => some (Value.int (iI z))) ?_, rfl⟩
                unfold sgO
                rw [if_neg (by omega), if_pos (by omega)]
            · have c6 := c6
              refine sKi (p := 123) rfl rfl ?_
              refine sL (i := .goto 24) rfl rfl ?_
              refine sEn (i := .ireturn) rfl (rfl) ?_
              refine ⟨congrArg (fun z => some (Value.int (iI z))) ?_, rfl⟩
              unfold sgO
              rw [if_pos (by omega)]
          · exfalso; omega
      · exfalso; omega
    · exact absurd c2 (by decide)
theorem m_odds_Fz {u v l : Nat} (hv : vM S n sz) (hfn : SI S 179 9 = (fn : Nat)) (h40 : fn ≤ 40) (hF : ∀ i, i < fn → rowS S 185 (16 * i) (Fn i)) (hw : wM S n wt ro) (hu : u < fn) (hvf : v < fn) (hl : swt (fun r => Fn v r) (wq sz wt ro n) (pr sz n) = (l : Int)) (h0 : l = 0) : sM X 3 224 [.ref 179, .int (iI (u : Nat)), .int (iI (v : Nat))] S (sV (some (.int (iI 0))) (wI (wI S 179 0 0) 179 0 1)) := by
  refine sIni (ls := [some (.ref 179), some (.int (iI ((u : Nat) : Int))), some (.int (iI ((v : Nat) : Int))), none, none, none, none, none, none, none, none, none, none]) rfl ?_
  refine sL (pc' := 1) (i := .aload_n 0) rfl rfl ?_
  refine sKi (p := 2) rfl rfl ?_
  refine sPi (z := 0) (p := 5) rfl rfl (sk_179 _) rfl rfl rfl rfl ?_
  refine sL (pc' := 6) (i := .aload_n 0) rfl rfl ?_
  refine sL (pc' := 7) (i := .iload_n 1) rfl rfl ?_
  refine sCv (p := 10) (as := [_]) rfl rfl rfl rfl (by decide) (Nat.le_of_ble_eq_true rfl) rfl (Nat.le_of_ble_eq_true rfl) (sk_179 _) rfl (by omega) (m_isFunction ⟨by omega, by omega⟩ hfn h40) ?_
  refine sBe (p := 13) rfl rfl (fun c1 => ?_) (fun c1 => ?_)
  · exfalso; have c1 := of_decide_eq_false c1; omega
  · have c1 := c1
    have c1 := of_decide_eq_true c1
    refine sL (pc' := 14) (i := .iload_n 2) rfl rfl ?_
    refine sKi (p := 15) rfl rfl ?_
    refine sIc_eq (p := 18) rfl rfl ⟨by omega, by omega⟩ ⟨by omega, by omega⟩ (fun c2 => ?_) (fun c2 => ?_)
    · exfalso; omega
    · have c2 := c2
      refine sL (pc' := 19) (i := .aload_n 0) rfl rfl ?_
      refine sL (pc' := 20) (i := .iload_n 2) rfl rfl ?_
      refine sCv (p := 23) (as := [_]) rfl rfl rfl rfl (by decide) (Nat.le_of_ble_eq_true rfl) rfl (Nat.le_of_ble_eq_true rfl) (sk_179 _) rfl (by omega) (m_isFunction ⟨by omega, by omega⟩ hfn h40) ?_
      refine sBn (p := 26) rfl rfl (fun c3 => ?_) (fun c3 => ?_)
      · have c3 := c3
        have c3 := of_decide_eq_true c3
        refine sL (pc' := 30) (i := .aload_n 0) rfl rfl ?_
        refine sKi (p := 31) rfl rfl ?_
        refine sL (pc' := 32) (i := .iload_n 2) rfl rfl ?_
        refine sCv (p := 35) (as := [_, _]) rfl rfl rfl rfl (by decide) (Nat.le_of_ble_eq_true rfl) rfl (Nat.le_of_ble_eq_true rfl) (sk_179 _) rfl (by omega) (m_wobNF (u := 0) (S := wI S 179 0 0) hv hfn h40 hF hw hvf) ?_
        rw [hl]
        refine sL (pc' := 36) (i := .lstore_n 3) (ls' := [some (.ref 179), some (.int (iI ((u : Nat) : Int))), some (.int (iI ((v : Nat) : Int))), some (.long (lI ((l : Nat) : Int))), none, none, none, none, none, none, none, none, none]) rfl rfl ?_
        refine sL (pc' := 37) (i := .lload_n 3) rfl rfl ?_
        refine sKj0 (p := 38) rfl rfl rfl ?_
        refine sLf_ne (p := 42) rfl rfl rfl ⟨by omega, by omega⟩ ⟨by omega, by omega⟩ (fun c4 => ?_) (fun c4 => ?_)
        · exfalso; omega
        · have c4 := c4
          refine sL (pc' := 43) (i := .aload_n 0) rfl rfl ?_
          refine sKi (p := 44) rfl rfl ?_
          refine sPi (z := 1) (p := 47) rfl rfl (sk_179 _) rfl rfl rfl rfl ?_
          refine sKi (p := 48) rfl rfl ?_
          refine sEn (i := .ireturn) rfl (rfl) ?_
          exact ⟨rfl, rfl⟩
      · exfalso; have c3 := of_decide_eq_false c3; omega
theorem m_odds_Fk {u v l : Nat} (hv : vM S n sz) (hfn : SI S 179 9 = (fn : Nat)) (h40 : fn ≤ 40) (hF : ∀ i, i < fn → rowS S 185 (16 * i) (Fn i)) (hw : wM S n wt ro) (hu : u < fn) (hvf : v < fn) (hl : swt (fun r => Fn v r) (wq sz wt ro n) (pr sz n) = (l : Int)) {m : Nat} (hm : swt (fun r => Fn u r && Fn v r) (wq sz wt ro n) (pr sz n) = (m : Int)) (h0 : 0 < l) (hlb : l < 700000000000000000) (hmb : m < 700000000000000000) : sM X 3 224 [.ref 179, .int (iI (u : Nat)), .int (iI (v : Nat))] S (sV (some (.int (iI (sgO ((m / Nat.gcd l m : Nat) : Int) ((l / Nat.gcd l m : Nat) : Int))))) (wL (wL (wI S 179 0 0) 179 20 (lI ((m / Nat.gcd l m : Nat) : Int))) 179 21 (lI ((l / Nat.gcd l m : Nat) : Int)))) := by
  have hg0 : 0 < Nat.gcd l m := Nat.gcd_pos_of_pos_left _ h0
  have hg1 : Nat.gcd l m ≤ l := Nat.gcd_le_left _ h0
  have hd1 : m / Nat.gcd l m ≤ m := Nat.div_le_self _ _
  have hd2 : l / Nat.gcd l m ≤ l := Nat.div_le_self _ _
  have hd3 : (0 : Int) ≤ ((m / Nat.gcd l m : Nat) : Int) := Int.natCast_nonneg _
  have hd4 : (0 : Int) ≤ ((l / Nat.gcd l m : Nat) : Int) := Int.natCast_nonneg _
  refine sIni (ls := [some (.ref 179), some (.int (iI ((u : Nat) : Int))), some (.int (iI ((v : Nat) : Int))), none, none, none, none, none, none, none, none, none, none]) rfl ?_
  refine sL (pc' := 1) (i := .aload_n 0) rfl rfl ?_
  refine sKi (p := 2) rfl rfl ?_
  refine sPi (z := 0) (p := 5) rfl rfl (sk_179 _) rfl rfl rfl rfl ?_
  refine sL (pc' := 6) (i := .aload_n 0) rfl rfl ?_
  refine sL (pc' := 7) (i := .iload_n 1) rfl rfl ?_
  refine sCv (p := 10) (as := [_]) rfl rfl rfl rfl (by decide) (Nat.le_of_ble_eq_true rfl) rfl (Nat.le_of_ble_eq_true rfl) (sk_179 _) rfl (by omega) (m_isFunction ⟨by omega, by omega⟩ hfn h40) ?_
  refine sBe (p := 13) rfl rfl (fun c1 => ?_) (fun c1 => ?_)
  · exfalso; have c1 := of_decide_eq_false c1; omega
  · have c1 := c1
    have c1 := of_decide_eq_true c1
    refine sL (pc' := 14) (i := .iload_n 2) rfl rfl ?_
    refine sKi (p := 15) rfl rfl ?_
    refine sIc_eq (p := 18) rfl rfl ⟨by omega, by omega⟩ ⟨by omega, by omega⟩ (fun c2 => ?_) (fun c2 => ?_)
    · exfalso; omega
    · have c2 := c2
      refine sL (pc' := 19) (i := .aload_n 0) rfl rfl ?_
      refine sL (pc' := 20) (i := .iload_n 2) rfl rfl ?_
      refine sCv (p := 23) (as := [_]) rfl rfl rfl rfl (by decide) (Nat.le_of_ble_eq_true rfl) rfl (Nat.le_of_ble_eq_true rfl) (sk_179 _) rfl (by omega) (m_isFunction ⟨by omega, by omega⟩ hfn h40) ?_
      refine sBn (p := 26) rfl rfl (fun c3 => ?_) (fun c3 => ?_)
      · have c3 := c3
        have c3 := of_decide_eq_true c3
        refine sL (pc' := 30) (i := .aload_n 0) rfl rfl ?_
        refine sKi (p := 31) rfl rfl ?_
        refine sL (pc' := 32) (i := .iload_n 2) rfl rfl ?_
        refine sCv (p := 35) (as := [_, _]) rfl rfl rfl rfl (by decide) (Nat.le_of_ble_eq_true rfl) rfl (Nat.le_of_ble_eq_true rfl) (sk_179 _) rfl (by omega) (m_wobNF (u := 0) (S := wI S 179 0 0) hv hfn h40 hF hw hvf) ?_
        rw [hl]
        refine sL (pc' := 36) (i := .lstore_n 3) (ls' := [some (.ref 179), some (.int (iI ((u : Nat) : Int))), some (.int (iI ((v : Nat) : Int))), some (.long (lI ((l : Nat) : Int))), none, none, none, none, none, none, none, none, none]) rfl rfl ?_
        refine sL (pc' := 37) (i := .lload_n 3) rfl rfl ?_
        refine sKj0 (p := 38) rfl rfl rfl ?_
        refine sLf_ne (p := 42) rfl rfl rfl ⟨by omega, by omega⟩ ⟨by omega, by omega⟩ (fun c4 => ?_) (fun c4 => ?_)
        · have c4 := c4
          refine sL (pc' := 50) (i := .aload_n 0) rfl rfl ?_
          refine sL (pc' := 51) (i := .iload_n 1) rfl rfl ?_
          refine sL (pc' := 52) (i := .iload_n 2) rfl rfl ?_
          refine sCv (p := 55) (as := [_, _]) rfl rfl rfl rfl (by decide) (Nat.le_of_ble_eq_true rfl) rfl (Nat.le_of_ble_eq_true rfl) (sk_179 _) rfl (by omega) (m_wobFF (S := wI S 179 0 0) hv hfn h40 hF hw hu hvf) ?_
          rw [hm]
          refine sL (pc' := 57) (i := .lstore 5) (ls' := [some (.ref 179), some (.int (iI ((u : Nat) : Int))), some (.int (iI ((v : Nat) : Int))), some (.long (lI ((l : Nat) : Int))), none, some (.long (lI ((m : Nat) : Int))), none, none, none, none, none, none, none]) rfl rfl ?_
          refine sL (pc' := 58) (i := .lload_n 3) rfl rfl ?_
          refine sL (pc' := 60) (i := .lstore 7) (ls' := [some (.ref 179), some (.int (iI ((u : Nat) : Int))), some (.int (iI ((v : Nat) : Int))), some (.long (lI ((l : Nat) : Int))), none, some (.long (lI ((m : Nat) : Int))), none, some (.long (lI ((l : Nat) : Int))), none, none, none, none, none]) rfl rfl ?_
          refine sL (pc' := 62) (i := .lload 5) rfl rfl ?_
          refine sL (pc' := 64) (i := .lstore 9) (ls' := [some (.ref 179), some (.int (iI ((u : Nat) : Int))), some (.int (iI ((v : Nat) : Int))), some (.long (lI ((l : Nat) : Int))), none, some (.long (lI ((m : Nat) : Int))), none, some (.long (lI ((l : Nat) : Int))), none, some (.long (lI ((m : Nat) : Int))), none, none, none]) rfl rfl ?_
          refine sIt (A := fun i => [some (.ref 179), some (.int (iI ((u : Nat) : Int))), some (.int (iI ((v : Nat) : Int))), some (.long (lI ((l : Nat) : Int))), none, some (.long (lI ((m : Nat) : Int))), none, some (.long (lI (((eu l m i).1 : Nat) : Int))), none, some (.long (lI (((eu l m i).2 : Nat) : Int))), none, none, none]) (B := fun _ => (wI S 179 0 0)) (fun _ => True) (est l m) True.intro (fun i hi64 hI64 ih64 => ?_) (fun hI64 => ?_)
          · have hi64 := hi64
            have hnz := eu_nz hi64
            have hle := eu_le (a := l) (b := m) (M := 700000000000000000) (by omega) (by omega) i
            refine sL (pc' := 66) (i := .lload 9) rfl rfl ?_
            refine sKj0 (p := 67) rfl rfl rfl ?_
            refine sLf_eq (p := 71) rfl rfl rfl ⟨by omega, by omega⟩ ⟨by omega, by omega⟩ (fun c5 => ?_) (fun c5 => ?_)
            · exfalso; omega
            · have c5 := c5
              refine sL (pc' := 73) (i := .lload 7) rfl rfl ?_
              refine sL (pc' := 75) (i := .lload 9) rfl rfl ?_
              refine sLrm (p := 76) rfl rfl ⟨by omega, by omega⟩ ⟨by omega, by omega⟩ ?_
              refine sL (pc' := 78) (i := .lstore 11) (ls' := [some (.ref 179), some (.int (iI ((u : Nat) : Int))), some (.int (iI ((v : Nat) : Int))), some (.long (lI ((l : Nat) : Int))), none, some (.long (lI ((m : Nat) : Int))), none, some (.long (lI (((eu l m i).1 : Nat) : Int))), none, some (.long (lI (((eu l m i).2 : Nat) : Int))), none, some (.long (lI (((((eu l m i).1 : Nat) : Int)) % ((((eu l m i).2 : Nat) : Int))))), none]) rfl rfl ?_
              refine sL (pc' := 80) (i := .lload 9) rfl rfl ?_
              refine sL (pc' := 82) (i := .lstore 7) (ls' := [some (.ref 179), some (.int (iI ((u : Nat) : Int))), some (.int (iI ((v : Nat) : Int))), some (.long (lI ((l : Nat) : Int))), none, some (.long (lI ((m : Nat) : Int))), none, some (.long (lI (((eu l m i).2 : Nat) : Int))), none, some (.long (lI (((eu l m i).2 : Nat) : Int))), none, some (.long (lI (((((eu l m i).1 : Nat) : Int)) % ((((eu l m i).2 : Nat) : Int))))), none]) rfl rfl ?_
              refine sL (pc' := 84) (i := .lload 11) rfl rfl ?_
              refine sL (pc' := 86) (i := .lstore 9) (ls' := [some (.ref 179), some (.int (iI ((u : Nat) : Int))), some (.int (iI ((v : Nat) : Int))), some (.long (lI ((l : Nat) : Int))), none, some (.long (lI ((m : Nat) : Int))), none, some (.long (lI (((eu l m i).2 : Nat) : Int))), none, some (.long (lI (((((eu l m i).1 : Nat) : Int)) % ((((eu l m i).2 : Nat) : Int))))), none, some (.long (lI (((((eu l m i).1 : Nat) : Int)) % ((((eu l m i).2 : Nat) : Int))))), none]) rfl rfl ?_
              refine sL (i := .goto (-22)) rfl rfl ?_
              refine sRo (ls := [some (.ref 179), some (.int (iI ((u : Nat) : Int))), some (.int (iI ((v : Nat) : Int))), some (.long (lI ((l : Nat) : Int))), none, some (.long (lI ((m : Nat) : Int))), none, some (.long (lI (((eu l m (i + 1)).1 : Nat) : Int))), none, some (.long (lI (((eu l m (i + 1)).2 : Nat) : Int))), none, none, none]) (T := _) (And.intro rfl (And.intro rfl (And.intro rfl (And.intro rfl (And.intro rfl (And.intro rfl (And.intro rfl (True.intro)))))))) (rfl) (ih64 ?_)
              exact True.intro
          · have hI64 := hI64
            have hle := eu_le (a := l) (b := m) (M := 700000000000000000) (by omega) (by omega) (est l m)
            have hend := eu_end l m
            rw [eu_fin]
            refine sL (pc' := 66) (i := .lload 9) rfl rfl ?_
            refine sKj0 (p := 67) rfl rfl rfl ?_
            refine sLf_eq (p := 71) rfl rfl rfl ⟨by omega, by omega⟩ ⟨by omega, by omega⟩ (fun c6 => ?_) (fun c6 => ?_)
            · have c6 := c6
              refine sL (pc' := 90) (i := .aload_n 0) rfl rfl ?_
              refine sL (pc' := 92) (i := .lload 5) rfl rfl ?_
              refine sL (pc' := 94) (i := .lload 7) rfl rfl ?_
              refine sLdv (p := 95) rfl rfl ⟨by omega, by omega⟩ ⟨by omega, by omega⟩ ?_
              rw [show ((((m : Nat) : Int)) / (((Nat.gcd l m : Nat) : Int))) = ((m / Nat.gcd l m : Nat) : Int) from by rfl]
              refine sPl (p := 98) rfl rfl (sk_179 _) rfl rfl rfl rfl ?_
              refine sL (pc' := 99) (i := .aload_n 0) rfl rfl ?_
              refine sL (pc' := 100) (i := .lload_n 3) rfl rfl ?_
              refine sL (pc' := 102) (i := .lload 7) rfl rfl ?_
              refine sLdv (p := 103) rfl rfl ⟨by omega, by omega⟩ ⟨by omega, by omega⟩ ?_
              rw [show ((((l : Nat) : Int)) / (((Nat.gcd l m : Nat) : Int))) = ((l / Nat.gcd l m : Nat) : Int) from by rfl]
              refine sPl (p := 106) rfl rfl (sk_179 _) rfl rfl rfl rfl ?_
              refine sK2 (z := 2) (p := 109) rfl rfl rfl ?_
              refine sL (pc' := 110) (i := .aload_n 0) rfl rfl ?_
              refine sGl (p := 113) (z := (lI ((m / Nat.gcd l m : Nat) : Int))) rfl rfl (sk_179 _) rfl rfl rfl rfl ?_
              refine sLml (p := 114) rfl rfl ?_
              refine sL (pc' := 115) (i := .aload_n 0) rfl rfl ?_
              refine sGl (p := 118) (z := (lI ((l / Nat.gcd l m : Nat) : Int))) rfl rfl (sk_179 _) rfl rfl rfl rfl ?_
              refine sLf_ge (p := 122) rfl rfl rfl ⟨by omega, by omega⟩ ⟨by omega, by omega⟩ (fun c7 => ?_) (fun c7 => ?_)
              · have c7 := c7
                refine sK2 (z := 2) (p := 129) rfl rfl rfl ?_
                refine sL (pc' := 130) (i := .aload_n 0) rfl rfl ?_
                refine sGl (p := 133) (z := (lI ((m / Nat.gcd l m : Nat) : Int))) rfl rfl (sk_179 _) rfl rfl rfl rfl ?_
                refine sLml (p := 134) rfl rfl ?_
                refine sL (pc' := 135) (i := .aload_n 0) rfl rfl ?_
                refine sGl (p := 138) (z := (lI ((l / Nat.gcd l m : Nat) : Int))) rfl rfl (sk_179 _) rfl rfl rfl rfl ?_
                refine sLf_ne (p := 142) rfl rfl rfl ⟨by omega, by omega⟩ ⟨by omega, by omega⟩ (fun c8 => ?_) (fun c8 => ?_)
                · have c8 := c8
                  refine sKi (p := 147) rfl rfl ?_
                  refine sEn (i := .ireturn) rfl (rfl) ?_
                  refine ⟨congrArg (fun z => some (Value.int (iI z))) ?_, rfl⟩
                  unfold sgO
                  rw [if_neg (by omega), if_neg (by omega)]
                · have c8 := c8
                  refine sKi (p := 143) rfl rfl ?_
                  refine sL (i := .goto 4) rfl rfl ?_
                  refine sEn (i := .ireturn) rfl (rfl) ?_
                  refine ⟨congrArg (fun z => some (Value.int (iI z))) ?_, rfl⟩
                  unfold sgO
                  rw [if_neg (by omega), if_pos (by omega)]
              · have c7 := c7
                refine sKi (p := 123) rfl rfl ?_
                refine sL (i := .goto 24) rfl rfl ?_
                refine sEn (i := .ireturn) rfl (rfl) ?_
                refine ⟨congrArg (fun z => some (Value.int (iI z))) ?_, rfl⟩
                unfold sgO
                rw [if_pos (by omega)]
            · exfalso; omega
        · exfalso; omega
      · exfalso; have c3 := of_decide_eq_false c3; omega
theorem m_weigh {x : Int} (hv : vM S n sz) (hfn : SI S 179 9 = (fn : Nat)) (h40 : fn ≤ 40) (hF : ∀ i, i < fn → rowS S 185 (16 * i) (Fn i)) (hw : wM S n wt ro) (hx : rg x) : sM X 3 226 [.ref 179, .int (iI x)] S (sV (some (.long (lI (if ¬ (0 ≤ x ∧ x < fn) then -101 else swt (fun r => Fn x.toNat r) (wq sz wt ro n) (pr sz n))))) S) := by
  have x1 := hx.1
  have x2 := hx.2
  refine sIni (ls := [some (.ref 179), some (.int (iI x))]) rfl ?_
  refine sL (pc' := 1) (i := .aload_n 0) rfl rfl ?_
  refine sL (pc' := 2) (i := .iload_n 1) rfl rfl ?_
  refine sCv (p := 5) (as := [_]) rfl rfl rfl rfl (by decide) (Nat.le_of_ble_eq_true rfl) rfl (Nat.le_of_ble_eq_true rfl) (sk_179 _) rfl (by omega) (m_isFunction hx hfn h40) ?_
  refine sBe (p := 8) rfl rfl (fun c1 => ?_) (fun c1 => ?_)
  · have c1 := c1
    have c1 := of_decide_eq_false c1
    refine sL (pc' := 20) (i := .ldc2_w 285) rfl rfl ?_
    refine sEn (i := .lreturn) rfl (rfl) ?_
    exact ⟨by rw [if_pos (by omega)]; exact congrArg (fun z => some (Value.long z)) (by decide), rfl⟩
  · have c1 := c1
    have c1 := of_decide_eq_true c1
    obtain ⟨f0, rfl⟩ : ∃ f0 : Nat, x = (f0 : Int) := ⟨x.toNat, by omega⟩
    refine sL (pc' := 9) (i := .aload_n 0) rfl rfl ?_
    refine sL (pc' := 10) (i := .iload_n 1) rfl rfl ?_
    refine sKi (p := 11) rfl rfl ?_
    refine sCv (p := 14) (as := [_, _]) rfl rfl rfl rfl (by decide) (Nat.le_of_ble_eq_true rfl) rfl (Nat.le_of_ble_eq_true rfl) (sk_179 _) rfl (by omega) (m_wobFN (v := 0) hv hfn h40 hF hw (show f0 < fn by omega)) ?_
    refine sL (i := .goto 6) rfl rfl ?_
    refine sEn (i := .lreturn) rfl (rfl) ?_
    exact ⟨by rw [if_neg (by omega)]; rfl, rfl⟩
theorem m_part {b : Bool} {p q : Int64} (h1 : SL S 179 20 = p) (h2 : SL S 179 21 = q) : sM X 0 225 [.ref 179, .int (iI (bI b))] S (sV (some (.long (if b then q else p))) S) := by
  refine sIni (ls := [some (.ref 179), some (.int (iI (bI b)))]) rfl ?_
  refine sL (pc' := 1) (i := .iload_n 1) rfl rfl ?_
  refine sBe (p := 4) rfl rfl (fun c1 => ?_) (fun c1 => ?_)
  · have c1 := c1
    refine sL (pc' := 12) (i := .aload_n 0) rfl rfl ?_
    refine sGl (p := 15) rfl rfl (sk_179 _) rfl rfl rfl h1 ?_
    refine sEn (i := .lreturn) rfl (rfl) ?_
    exact ⟨by rw [c1]; rfl, rfl⟩
  · have c1 := c1
    refine sL (pc' := 5) (i := .aload_n 0) rfl rfl ?_
    refine sGl (p := 8) rfl rfl (sk_179 _) rfl rfl rfl h2 ?_
    refine sL (i := .goto 7) rfl rfl ?_
    refine sEn (i := .lreturn) rfl (rfl) ?_
    exact ⟨by rw [c1]; rfl, rfl⟩
def mSp (S : ST) (Fn : Nat → Nat → Bool) (T0 T1 : Nat) : Nat → ST
  | 0 => S
  | i + 1 => wRw (mSp S Fn T0 T1 i) 185 (16 * i) (fun r => decide (r < T1) && Fn i (r % T0))
theorem SI_mSp (S : ST) (Fn : Nat → Nat → Bool) (T0 T1 : Nat) : ∀ i, SI (mSp S Fn T0 T1 i) = SI S
  | 0 => rfl
  | i + 1 => SI_mSp S Fn T0 T1 i
theorem mSp_row {S : ST} {Fn : Nat → Nat → Bool} {T0 T1 b o2 : Nat} {f : Nat → Bool} : ∀ {i : Nat}, (b ≠ 185 ∨ 16 * i ≤ o2) → rowS S b o2 f → rowS (mSp S Fn T0 T1 i) b o2 f
  | 0, _, h => h
  | i + 1, hj, h => rowS_ne (by omega) (mSp_row (by omega) h)
theorem rpo_t {T0 i o : Nat} (c2 : (decide ((T0 + i) % T0 < T0 + i) && f ((T0 + i) % T0 % T0)) = true) : wRw (wRw S a o (fun r => decide (r < T0 + i) && f (r % T0))) a o (fun s => (decide (s < T0 + i) && f (s % T0)) || decide (s = T0 + i)) = wRw S a o (fun r => decide (r < T0 + (i + 1)) && f (r % T0)) := by
  rw [wRw_wRw]
  refine wRw_eq (fun r _ => ?_)
  by_cases c : r = T0 + i
  · subst c
    rw [decide_eq_true (show T0 + i < T0 + (i + 1) by omega), decide_eq_true (show T0 + i = T0 + i from rfl), Bool.or_true, Bool.true_and]
    have := (Bool.and_eq_true_iff.mp c2).2
    rw [Nat.mod_mod] at this
    exact this.symm
  · rw [decide_eq_false c, Bool.or_false, show decide (r < T0 + i) = decide (r < T0 + (i + 1)) from decide_eq_decide.mpr ⟨fun _ => by omega, fun _ => by omega⟩]
theorem rpo_f {T0 i o : Nat} (hT0 : 0 < T0) (c2 : (decide ((T0 + i) % T0 < T0 + i) && f ((T0 + i) % T0 % T0)) = false) : wRw S a o (fun r => decide (r < T0 + i) && f (r % T0)) = wRw S a o (fun r => decide (r < T0 + (i + 1)) && f (r % T0)) := by
  refine wRw_eq (fun r _ => ?_)
  have hlt := Nat.mod_lt (T0 + i) hT0
  rw [decide_eq_true (by omega), Bool.true_and, Nat.mod_mod] at c2
  by_cases c : r = T0 + i
  · subst c
    rw [c2, Bool.and_false, Bool.and_false]
  · rw [show decide (r < T0 + i) = decide (r < T0 + (i + 1)) from decide_eq_decide.mpr ⟨fun _ => by omega, fun _ => by omega⟩]
def mW1 (S : ST) (v : Nat) : Nat → ST
  | 0 => S
  | k + 1 => wI (wI (mW1 S v k) 182 (v * 6 + k) 1) 183 (v * 6 + k) (bI false)
theorem SI_mW1 (S : ST) (v : Nat) : ∀ k b, b ≠ 182 → b ≠ 183 → SI (mW1 S v k) b = SI S b
  | 0, b, _, _ => rfl
  | k + 1, b, h1, h2 => by
    show u2 (u2 (SI (mW1 S v k)) 182 _ _) 183 _ _ b = _
    rw [u2_ne h2, u2_ne h1, SI_mW1 S v k b h1 h2]
def mCh (S : ST) (Fn : Nat → Nat → Bool) (n : Nat) (sz : Nat → Nat) (fn x : Nat) : ST := wI (wI (mW1 (wI (wI (wI (wI (mSp S Fn (pr sz n) (pr sz n * x) fn) 180 n x) 181 n (pr sz n : Nat)) 179 4 ((pr sz n * x : Nat) : Int)) 184 n (n : Nat)) n 6) 179 1 ((n + 1 : Nat) : Int)) 179 42 (-1)
theorem m_choice {x : Int} (hv : vM S n sz) (hfn : SI S 179 9 = (fn : Nat)) (h40 : fn ≤ 40) (hF : ∀ i, i < fn → rowS S 185 (16 * i) (Fn i)) (hz : ∀ i, i < fn → ∀ r, pr sz n ≤ r → Fn i r = false) (hx : rg x) : sM X 2 171 [.ref 179, .int (iI x)] S (sV (some (.int (iI (rChoice n sz x)))) (if okChoice n sz x then mCh S Fn n sz fn x.toNat else S)) := by
  have hn := hv.1.1
  have hT0 := hv.1.2.2
  have x1 := hx.1
  have x2 := hx.2
  have hp1 := hv.1.pos (i := n) (by omega)
  refine sIni (ls := [some (.ref 179), some (.int (iI x)), none, none]) rfl ?_
  refine sL (pc' := 1) (i := .iload_n 1) rfl rfl ?_
  refine sI2l (p := 2) rfl rfl ⟨by omega, by omega⟩ ?_
  refine sL (pc' := 5) (i := .ldc2_w 109) rfl rfl ?_
  refine sL (pc' := 8) (i := .ldc2_w 111) rfl rfl ?_
  refine sCs (p := 11) (as := [_, _, _]) rfl rfl rfl rfl (by decide) (Nat.le_of_ble_eq_true rfl) rfl (Nat.le_of_ble_eq_true rfl) rfl (by omega) (m_in (x := x) (y := (2 : Int)) (z := (6 : Int)) ⟨by omega, by omega⟩ ⟨by omega, by omega⟩ ⟨by omega, by omega⟩) ?_
  refine sBn (p := 14) rfl rfl (fun c1 => ?_) (fun c1 => ?_)
  · have c1 := c1
    have c1 := of_decide_eq_true c1
    obtain ⟨k, rfl⟩ : ∃ k : Nat, x = (k : Int) := ⟨x.toNat, by omega⟩
    have hpk : ((pr sz n : Nat) : Int) * (k : Int) = ((pr sz n * k : Nat) : Int) := rfl
    have hpl : pr sz n * k ≤ 1024 * 6 := Nat.mul_le_mul (by omega) (by omega)
    have hpg : pr sz n * 1 ≤ pr sz n * k := Nat.mul_le_mul_left _ (by omega)
    refine sL (pc' := 18) (i := .aload_n 0) rfl rfl ?_
    refine sGi (p := 21) rfl rfl (sk_179 _) rfl rfl rfl hv.2.1 ?_
    refine sKb (p := 23) rfl rfl ?_
    refine sIc_eq (p := 26) rfl rfl ⟨by omega, by omega⟩ ⟨by omega, by omega⟩ (fun c2 => ?_) (fun c2 => ?_)
    · have c2 := c2
      refine sKb (p := 40) rfl rfl ?_
      refine sEn (i := .ireturn) rfl (rfl) ?_
      refine ⟨congrArg (fun z => some (Value.int (iI z))) ?_, ?_⟩
      · unfold rChoice
        rw [if_neg (by omega), if_pos (by omega)]
      · rw [if_neg (by omega)]
    · have c2 := c2
      refine sL (pc' := 27) (i := .aload_n 0) rfl rfl ?_
      refine sGi (p := 30) rfl rfl (sk_179 _) rfl rfl rfl hv.2.2.1 ?_
      refine sL (pc' := 31) (i := .iload_n 1) rfl rfl ?_
      refine sMu (p := 32) rfl rfl ?_
      refine sKs (p := 35) rfl rfl ?_
      refine sIc_le (p := 38) rfl rfl ⟨by omega, by omega⟩ ⟨by omega, by omega⟩ (fun c3 => ?_) (fun c3 => ?_)
      · have c3 := c3
        refine sKi (p := 42) rfl rfl ?_
        refine sL (pc' := 43) (i := .istore_n 2) (ls' := [some (.ref 179), some (.int (iI ((k : Nat) : Int))), some (.int (iI 0)), none]) rfl rfl ?_
        refine sSh (T := mSp S Fn (pr sz n) (pr sz n * k) 0) (rfl) ?_
        refine sIt (A := fun i => [some (.ref 179), some (.int (iI ((k : Nat) : Int))), some (.int (iI ((i : Nat) : Int))), none]) (B := fun i => mSp S Fn (pr sz n) (pr sz n * k) i) (fun _ => True) fn True.intro (fun i hi43 hI43 ih43 => ?_) (fun hI43 => ?_)
        · have hi43 := hi43
          refine sL (pc' := 44) (i := .iload_n 2) rfl rfl ?_
          refine sL (pc' := 45) (i := .aload_n 0) rfl rfl ?_
          refine sGi (p := 48) rfl rfl (sk_179 _) rfl rfl rfl ((congrFun (congrFun (SI_mSp _ _ _ _ _) 179) 9).trans hfn) ?_
          refine sIc_ge (p := 51) rfl rfl ⟨by omega, by omega⟩ ⟨by omega, by omega⟩ (fun c4 => ?_) (fun c4 => ?_)
          · exfalso; omega
          · have c4 := c4
            refine sL (pc' := 52) (i := .aload_n 0) rfl rfl ?_
            refine sGi (p := 55) rfl rfl (sk_179 _) rfl rfl rfl ((congrFun (congrFun (SI_mSp _ _ _ _ _) 179) 4).trans hv.2.2.1) ?_
            refine sL (pc' := 56) (i := .istore_n 3) (ls' := [some (.ref 179), some (.int (iI ((k : Nat) : Int))), some (.int (iI ((i : Nat) : Int))), some (.int (iI ((pr sz n : Nat) : Int)))]) rfl rfl ?_
            refine sFg (ls := [some (.ref 179), some (.int (iI ((k : Nat) : Int))), some (.int (iI ((i : Nat) : Int))), some (.int (iI (((pr sz n : Nat) : Int) + ((0 : Nat) : Int))))]) (xx_ll_le (And.intro rfl (And.intro rfl (And.intro rfl (And.intro (congrArg (fun z => some (Value.int (iI z))) (by omega)) True.intro))))) ?_
            refine sSh (T := wRw (mSp S Fn (pr sz n) (pr sz n * k) i) 185 (16 * i) (fun r => decide (r < pr sz n + 0) && Fn i (r % pr sz n))) (congrArg sH ((wRw_same (mSp_row (Or.inr (Nat.le_refl _)) (hF i hi43))).symm.trans (wRw_eq (fun r _ => by by_cases c : r < pr sz n; (rw [Nat.mod_eq_of_lt c, decide_eq_true (by omega)]; rfl); (rw [hz i hi43 r (by omega), decide_eq_false (by omega)]; rfl))))) ?_
            refine sIt (A := fun j => [some (.ref 179), some (.int (iI ((k : Nat) : Int))), some (.int (iI ((i : Nat) : Int))), some (.int (iI (((pr sz n : Nat) : Int) + ((j : Nat) : Int))))]) (B := fun j => wRw (mSp S Fn (pr sz n) (pr sz n * k) i) 185 (16 * i) (fun r => decide (r < pr sz n + j) && Fn i (r % pr sz n))) (fun _ => True) (pr sz n * k - pr sz n) True.intro (fun j hi56 hI56 ih56 => ?_) (fun hI56 => ?_)
            · have hi56 := hi56
              have hml := Nat.mod_lt (pr sz n + j) hp1
              refine sL (pc' := 57) (i := .iload_n 3) rfl rfl ?_
              refine sL (pc' := 58) (i := .aload_n 0) rfl rfl ?_
              refine sGi (p := 61) rfl rfl (sk_179 _) rfl rfl rfl ((congrFun (congrFun (SI_mSp _ _ _ _ _) 179) 4).trans hv.2.2.1) ?_
              refine sL (pc' := 62) (i := .iload_n 1) rfl rfl ?_
              refine sMu (p := 63) rfl rfl ?_
              refine sIc_ge (p := 66) rfl rfl ⟨by omega, by omega⟩ ⟨by omega, by omega⟩ (fun c5 => ?_) (fun c5 => ?_)
              · exfalso; omega
              · have c5 := c5
                refine sL (pc' := 67) (i := .aload_n 0) rfl rfl ?_
                refine sGc (p := 70) rfl rfl (sk_179 _) rfl rfl rfl ?_
                refine sKb (p := 72) rfl rfl ?_
                refine sL (pc' := 73) (i := .iload_n 2) rfl rfl ?_
                refine sMu (p := 74) rfl rfl ?_
                refine sL (pc' := 75) (i := .iload_n 3) rfl rfl ?_
                refine sL (pc' := 76) (i := .aload_n 0) rfl rfl ?_
                refine sGi (p := 79) rfl rfl (sk_179 _) rfl rfl rfl ((congrFun (congrFun (SI_mSp _ _ _ _ _) 179) 4).trans hv.2.2.1) ?_
                refine sRm (p := 80) rfl rfl ⟨by omega, by omega⟩ ⟨by omega, by omega⟩ ?_
                rw [show (((pr sz n : Nat) : Int) + ((j : Nat) : Int)) % ((pr sz n : Nat) : Int) = (((pr sz n + j) % pr sz n : Nat) : Int) from rfl]
                refine sCs (p := 83) (as := [_, _, _]) rfl rfl rfl rfl (by decide) (Nat.le_of_ble_eq_true rfl) rfl (Nat.le_of_ble_eq_true rfl) rfl (by omega) (c_get (S := wRw (mSp S Fn (pr sz n) (pr sz n * k) i) 185 (16 * i) (fun r => decide (r < pr sz n + j) && Fn i (r % pr sz n))) (o := 16 * i) (r := (pr sz n + j) % pr sz n) (sk_185 _) ⟨by omega, by omega⟩ (rowS_wRw _ _ _ _) (by omega)) ?_
                refine sBe (p := 86) rfl rfl (fun c6 => ?_) (fun c6 => ?_)
                · have c6 := c6
                  have h8 := c6
                  refine sInX (z := (((pr sz n : Nat) : Int) + ((j : Nat) : Int))) (ls' := [some (.ref 179), some (.int (iI ((k : Nat) : Int))), some (.int (iI ((i : Nat) : Int))), some (.int (iI ((((pr sz n : Nat) : Int) + ((j : Nat) : Int)) + (1))))]) (p := 101) rfl rfl (Nat.le_of_ble_eq_true rfl) rfl rfl ?_
                  refine sL (i := .goto (-45)) rfl rfl ?_
                  refine sRo (ls := [some (.ref 179), some (.int (iI ((k : Nat) : Int))), some (.int (iI ((i : Nat) : Int))), some (.int (iI (((pr sz n : Nat) : Int) + ((j + 1 : Nat) : Int))))]) (T := wRw (mSp S Fn (pr sz n) (pr sz n * k) i) 185 (16 * i) (fun r => decide (r < pr sz n + (j + 1)) && Fn i (r % pr sz n))) (And.intro rfl (And.intro rfl (And.intro rfl (And.intro (congrArg (fun z => some (Value.int (iI z))) (by omega)) (True.intro))))) (congrArg sH (rpo_f (by omega) h8)) (ih56 ?_)
                  exact True.intro
                · have c6 := c6
                  have h8 := c6
                  refine sL (pc' := 87) (i := .aload_n 0) rfl rfl ?_
                  refine sGc (p := 90) rfl rfl (sk_179 _) rfl rfl rfl ?_
                  refine sKb (p := 92) rfl rfl ?_
                  refine sL (pc' := 93) (i := .iload_n 2) rfl rfl ?_
                  refine sMu (p := 94) rfl rfl ?_
                  refine sL (pc' := 95) (i := .iload_n 3) rfl rfl ?_
                  refine sCs (p := 98) (as := [_, _, _]) rfl rfl rfl rfl (by decide) (Nat.le_of_ble_eq_true rfl) rfl (Nat.le_of_ble_eq_true rfl) rfl (by omega) (c_set (S := wRw (mSp S Fn (pr sz n) (pr sz n * k) i) 185 (16 * i) (fun r => decide (r < pr sz n + j) && Fn i (r % pr sz n))) (o := 16 * i) (r := pr sz n + j) (sk_185 _) ⟨by omega, by omega⟩ (rowS_wRw _ _ _ _) (by omega)) ?_
                  refine sInX (z := (((pr sz n : Nat) : Int) + ((j : Nat) : Int))) (ls' := [some (.ref 179), some (.int (iI ((k : Nat) : Int))), some (.int (iI ((i : Nat) : Int))), some (.int (iI ((((pr sz n : Nat) : Int) + ((j : Nat) : Int)) + (1))))]) (p := 101) rfl rfl (Nat.le_of_ble_eq_true rfl) rfl rfl ?_
                  refine sL (i := .goto (-45)) rfl rfl ?_
                  refine sRo (ls := [some (.ref 179), some (.int (iI ((k : Nat) : Int))), some (.int (iI ((i : Nat) : Int))), some (.int (iI (((pr sz n : Nat) : Int) + ((j + 1 : Nat) : Int))))]) (T := wRw (mSp S Fn (pr sz n) (pr sz n * k) i) 185 (16 * i) (fun r => decide (r < pr sz n + (j + 1)) && Fn i (r % pr sz n))) (And.intro rfl (And.intro rfl (And.intro rfl (And.intro (congrArg (fun z => some (Value.int (iI z))) (by omega)) (True.intro))))) (congrArg sH (rpo_t h8)) (ih56 ?_)
                  exact True.intro
            · have hI56 := hI56
              refine sL (pc' := 57) (i := .iload_n 3) rfl rfl ?_
              refine sL (pc' := 58) (i := .aload_n 0) rfl rfl ?_
              refine sGi (p := 61) rfl rfl (sk_179 _) rfl rfl rfl ((congrFun (congrFun (SI_mSp _ _ _ _ _) 179) 4).trans hv.2.2.1) ?_
              refine sL (pc' := 62) (i := .iload_n 1) rfl rfl ?_
              refine sMu (p := 63) rfl rfl ?_
              refine sIc_ge (p := 66) rfl rfl ⟨by omega, by omega⟩ ⟨by omega, by omega⟩ (fun c7 => ?_) (fun c7 => ?_)
              · have c7 := c7
                refine sInX (z := ((i : Nat) : Int)) (ls' := [some (.ref 179), some (.int (iI ((k : Nat) : Int))), some (.int (iI (((i : Nat) : Int) + 1))), some (.int (iI (((pr sz n : Nat) : Int) + ((pr sz n * k - pr sz n : Nat) : Int))))]) (p := 107) rfl rfl (Nat.le_of_ble_eq_true rfl) rfl rfl ?_
                refine sL (i := .goto (-64)) rfl rfl ?_
                refine sRo (ls := [some (.ref 179), some (.int (iI ((k : Nat) : Int))), some (.int (iI ((i + 1 : Nat) : Int))), none]) (T := mSp S Fn (pr sz n) (pr sz n * k) (i + 1)) (And.intro rfl (And.intro rfl (And.intro rfl (True.intro)))) (congrArg sH (wRw_eq (fun r _ => by rw [show pr sz n + (pr sz n * k - pr sz n) = pr sz n * k from by omega]))) (ih43 ?_)
                exact True.intro
              · exfalso; omega
        · have hI43 := hI43
          refine sL (pc' := 44) (i := .iload_n 2) rfl rfl ?_
          refine sL (pc' := 45) (i := .aload_n 0) rfl rfl ?_
          refine sGi (p := 48) rfl rfl (sk_179 _) rfl rfl rfl ((congrFun (congrFun (SI_mSp _ _ _ _ _) 179) 9).trans hfn) ?_
          refine sIc_ge (p := 51) rfl rfl ⟨by omega, by omega⟩ ⟨by omega, by omega⟩ (fun c8 => ?_) (fun c8 => ?_)
          · have c8 := c8
            refine sL (pc' := 111) (i := .aload_n 0) rfl rfl ?_
            refine sGi (p := 114) rfl rfl (sk_179 _) rfl rfl rfl ((congrFun (congrFun (SI_mSp _ _ _ _ _) 179) 1).trans hv.2.1) ?_
            refine sL (pc' := 115) (i := .istore_n 2) (ls' := [some (.ref 179), some (.int (iI ((k : Nat) : Int))), some (.int (iI ((n : Nat) : Int))), none]) rfl rfl ?_
            refine sL (pc' := 116) (i := .aload_n 0) rfl rfl ?_
            refine sGc (p := 119) rfl rfl (sk_179 _) rfl rfl rfl ?_
            refine sL (pc' := 120) (i := .iload_n 2) rfl rfl ?_
            refine sL (pc' := 121) (i := .iload_n 1) rfl rfl ?_
            refine sWi (p := 122) (i := n) rfl rfl (sk_180 _) (by omega) ⟨by omega, by omega⟩ ?_
            refine sL (pc' := 123) (i := .aload_n 0) rfl rfl ?_
            refine sGc (p := 126) rfl rfl (sk_179 _) rfl rfl rfl ?_
            refine sL (pc' := 127) (i := .iload_n 2) rfl rfl ?_
            refine sL (pc' := 128) (i := .aload_n 0) rfl rfl ?_
            refine sGi (p := 131) rfl rfl (sk_179 _) rfl rfl rfl ((congrFun (congrFun (SI_mSp _ _ _ _ _) 179) 4).trans hv.2.2.1) ?_
            refine sWi (p := 132) (i := n) rfl rfl (sk_181 _) (by omega) ⟨by omega, by omega⟩ ?_
            refine sL (pc' := 133) (i := .aload_n 0) rfl rfl ?_
            refine sL (pc' := 134) (i := .dup) rfl rfl ?_
            refine sGi (p := 137) rfl rfl (sk_179 _) rfl rfl rfl ((congrFun (congrFun (SI_mSp _ _ _ _ _) 179) 4).trans hv.2.2.1) ?_
            refine sL (pc' := 138) (i := .iload_n 1) rfl rfl ?_
            refine sMu (p := 139) rfl rfl ?_
            refine sPi (z := (((pr sz n : Nat) : Int) * ((k : Nat) : Int))) (p := 142) rfl rfl (sk_179 _) rfl rfl rfl rfl ?_
            refine sL (pc' := 143) (i := .aload_n 0) rfl rfl ?_
            refine sGc (p := 146) rfl rfl (sk_179 _) rfl rfl rfl ?_
            refine sL (pc' := 147) (i := .iload_n 2) rfl rfl ?_
            refine sL (pc' := 148) (i := .iload_n 2) rfl rfl ?_
            refine sWi (p := 149) (i := n) rfl rfl (sk_184 _) (by omega) ⟨by omega, by omega⟩ ?_
            refine sKi (p := 150) rfl rfl ?_
            refine sL (pc' := 151) (i := .istore_n 3) (ls' := [some (.ref 179), some (.int (iI ((k : Nat) : Int))), some (.int (iI ((n : Nat) : Int))), some (.int (iI 0))]) rfl rfl ?_
            refine sIt (A := fun k2 => [some (.ref 179), some (.int (iI ((k : Nat) : Int))), some (.int (iI ((n : Nat) : Int))), some (.int (iI ((k2 : Nat) : Int)))]) (B := fun k2 => mW1 (wI (wI (wI (wI (mSp S Fn (pr sz n) (pr sz n * k) fn) 180 n k) 181 n (pr sz n : Nat)) 179 4 ((pr sz n * k : Nat) : Int)) 184 n (n : Nat)) n k2) (fun _ => True) 6 True.intro (fun k2 hi151 hI151 ih151 => ?_) (fun hI151 => ?_)
            · have hi151 := hi151
              refine sL (pc' := 152) (i := .iload_n 3) rfl rfl ?_
              refine sKb (p := 154) rfl rfl ?_
              refine sIc_ge (p := 157) rfl rfl ⟨by omega, by omega⟩ ⟨by omega, by omega⟩ (fun c9 => ?_) (fun c9 => ?_)
              · exfalso; omega
              · have c9 := c9
                refine sL (pc' := 158) (i := .aload_n 0) rfl rfl ?_
                refine sGc (p := 161) rfl rfl (sk_179 _) rfl rfl rfl ?_
                refine sKb (p := 163) rfl rfl ?_
                refine sL (pc' := 164) (i := .iload_n 2) rfl rfl ?_
                refine sMu (p := 165) rfl rfl ?_
                refine sL (pc' := 166) (i := .iload_n 3) rfl rfl ?_
                refine sAd (p := 167) rfl rfl ?_
                refine sKi (p := 168) rfl rfl ?_
                refine sWi (p := 169) (i := n * 6 + k2) rfl rfl (sk_182 _) (by omega) ⟨by omega, by omega⟩ ?_
                refine sL (pc' := 170) (i := .aload_n 0) rfl rfl ?_
                refine sGc (p := 173) rfl rfl (sk_179 _) rfl rfl rfl ?_
                refine sKb (p := 175) rfl rfl ?_
                refine sL (pc' := 176) (i := .iload_n 2) rfl rfl ?_
                refine sMu (p := 177) rfl rfl ?_
                refine sL (pc' := 178) (i := .iload_n 3) rfl rfl ?_
                refine sAd (p := 179) rfl rfl ?_
                refine sKi (p := 180) rfl rfl ?_
                refine sWz (p := 181) (i := n * 6 + k2) (b := false) rfl rfl (sk_183 _) (by omega) ⟨by omega, by omega⟩ ?_
                refine sInX (z := ((k2 : Nat) : Int)) (ls' := [some (.ref 179), some (.int (iI ((k : Nat) : Int))), some (.int (iI ((n : Nat) : Int))), some (.int (iI (((k2 : Nat) : Int) + 1)))]) (p := 184) rfl rfl (Nat.le_of_ble_eq_true rfl) rfl rfl ?_
                refine sL (i := .goto (-33)) rfl rfl ?_
                refine sRo (ls := [some (.ref 179), some (.int (iI ((k : Nat) : Int))), some (.int (iI ((n : Nat) : Int))), some (.int (iI ((k2 + 1 : Nat) : Int)))]) (T := mW1 (wI (wI (wI (wI (mSp S Fn (pr sz n) (pr sz n * k) fn) 180 n k) 181 n (pr sz n : Nat)) 179 4 ((pr sz n * k : Nat) : Int)) 184 n (n : Nat)) n (k2 + 1)) (And.intro rfl (And.intro rfl (And.intro rfl (And.intro rfl (True.intro))))) (rfl) (ih151 ?_)
                exact True.intro
            · have hI151 := hI151
              refine sL (pc' := 152) (i := .iload_n 3) rfl rfl ?_
              refine sKb (p := 154) rfl rfl ?_
              refine sIc_ge (p := 157) rfl rfl ⟨by omega, by omega⟩ ⟨by omega, by omega⟩ (fun c10 => ?_) (fun c10 => ?_)
              · have c10 := c10
                refine sL (pc' := 188) (i := .aload_n 0) rfl rfl ?_
                refine sL (pc' := 189) (i := .dup) rfl rfl ?_
                refine sGi (p := 192) rfl rfl (sk_179 _) rfl rfl rfl ((congrFun (SI_mW1 _ _ _ _ (by decide) (by decide)) 1).trans ((congrFun (congrFun (SI_mSp _ _ _ _ _) 179) 1).trans hv.2.1)) ?_
                refine sKi (p := 193) rfl rfl ?_
                refine sAd (p := 194) rfl rfl ?_
                refine sPi (z := (((n : Nat) : Int) + 1)) (p := 197) rfl rfl (sk_179 _) rfl rfl rfl rfl ?_
                refine sL (pc' := 198) (i := .aload_n 0) rfl rfl ?_
                refine sKi (p := 199) rfl rfl ?_
                refine sPi (z := (-1)) (p := 202) rfl rfl (sk_179 _) rfl rfl rfl rfl ?_
                refine sL (pc' := 203) (i := .iload_n 2) rfl rfl ?_
                refine sEn (i := .ireturn) rfl (rfl) ?_
                refine ⟨congrArg (fun z => some (Value.int (iI z))) ?_, ?_⟩
                · unfold rChoice
                  rw [if_neg (by omega), if_neg (by omega)]
                  all_goals rfl
                · rw [if_pos (by omega)]
                  rfl
              · exact absurd c10 (by decide)
          · exfalso; omega
      · have c3 := c3
        refine sKb (p := 40) rfl rfl ?_
        refine sEn (i := .ireturn) rfl (rfl) ?_
        refine ⟨congrArg (fun z => some (Value.int (iI z))) ?_, ?_⟩
        · unfold rChoice
          rw [if_neg (by omega), if_pos (by omega)]
        · rw [if_neg (by omega)]
  · have c1 := c1
    have c1 := of_decide_eq_false c1
    refine sKb (p := 16) rfl rfl ?_
    refine sEn (i := .ireturn) rfl (rfl) ?_
    refine ⟨congrArg (fun z => some (Value.int (iI z))) ?_, ?_⟩
    · unfold rChoice
      rw [if_pos (by omega)]
    · rw [if_neg (by omega)]
end M5
