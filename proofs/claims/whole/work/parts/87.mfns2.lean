/-! ===== the reference: many, join, not, choose, choice, weight, rule ===== -/
section M2
variable {X : List Int32} {S : ST} {n : Nat} {sz : Nat → Nat} {fn : Nat} {a o N : Nat} {f g h : Nat → Bool} {Fn : Nat → Nat → Bool} {wt : Nat → Int} {ro : Nat → Bool}
theorem m_many {x y : Int} (hv : vM S n sz) (hfn : SI S 179 9 = (fn : Nat)) (h40 : fn ≤ 40) (hx : rg x) (hy : rg y) : sM X 2 177 [.ref 179, .int (iI x), .int (iI y)] S (sV (some (.int (iI (rMany n sz fn x)))) (if okMany n sz fn x then mAdd S fn (cut (pr sz n) (manP n sz x y)) else S)) := by
  have hn := hv.1.1
  have hT0 := hv.1.2.2
  have x1 := hx.1
  have x2 := hx.2
  have y1 := hy.1
  have y2 := hy.2
  refine sIni (ls := [some (.ref 179), some (.int (iI x)), some (.int (iI y)), none, none, none]) rfl ?_
  refine sKi (p := 1) rfl rfl ?_
  refine sL (pc' := 2) (i := .istore_n 3) (ls' := [some (.ref 179), some (.int (iI x)), some (.int (iI y)), some (.int (iI 0)), none, none]) rfl rfl ?_
  refine sIt (A := fun i => [some (.ref 179), some (.int (iI x)), some (.int (iI y)), some (.int (iI ((i : Nat) : Int))), none, none]) (B := fun _ => S) (fun i => allB (trB n sz x) i = true) 32 rfl (fun i hi2 hI2 ih2 => ?_) (fun hI2 => ?_)
  · have hi2 := hi2
    refine sL (pc' := 3) (i := .iload_n 3) rfl rfl ?_
    refine sKb (p := 5) rfl rfl ?_
    refine sIc_ge (p := 8) rfl rfl ⟨by omega, by omega⟩ ⟨by omega, by omega⟩ (fun c1 => ?_) (fun c1 => ?_)
    · exfalso; omega
    · have c1 := c1
      refine sL (pc' := 9) (i := .iload_n 1) rfl rfl ?_
      refine sL (pc' := 10) (i := .iload_n 3) rfl rfl ?_
      refine sMb (p := 13) (j := i) rfl rfl rfl rfl rfl rfl (by omega) ?_
      refine sKi (p := 14) rfl rfl ?_
      refine sIb_ne (p := 17) (b := true) rfl rfl (fun c2 => ?_) (fun c2 => ?_)
      · have c2 := c2
        have c2 := eq_false_of_ne_true c2
        have ht : trB n sz x i = true := by unfold trB; rw [c2]; rfl
        refine sInX (z := ((i : Nat) : Int)) (ls' := [some (.ref 179), some (.int (iI x)), some (.int (iI y)), some (.int (iI (((i : Nat) : Int) + 1))), none, none]) (p := 41) rfl rfl (Nat.le_of_ble_eq_true rfl) rfl rfl ?_
        refine sL (i := .goto (-39)) rfl rfl ?_
        refine sRo (ls := [some (.ref 179), some (.int (iI x)), some (.int (iI y)), some (.int (iI ((i + 1 : Nat) : Int))), none, none]) (T := _) (And.intro rfl (And.intro rfl (And.intro rfl (And.intro rfl (True.intro))))) (rfl) (ih2 ?_)
        show (allB (trB n sz x) i && trB n sz x i) = true
        rw [hI2, ht]
        rfl
      · have c2 := c2
        have hset := c2
        refine sL (pc' := 18) (i := .iload_n 3) rfl rfl ?_
        refine sL (pc' := 19) (i := .aload_n 0) rfl rfl ?_
        refine sGi (p := 22) rfl rfl (sk_179 _) rfl rfl rfl hv.2.1 ?_
        refine sIc_ge (p := 25) rfl rfl ⟨by omega, by omega⟩ ⟨by omega, by omega⟩ (fun c3 => ?_) (fun c3 => ?_)
        · have c3 := c3
          have ht : trB n sz x i = false := by unfold trB; rw [hset, decide_eq_false (by omega)]; rfl
          refine sKb (p := 37) rfl rfl ?_
          refine sEn (i := .ireturn) rfl (rfl) ?_
          have hh : ¬ allB (trB n sz x) 32 = true := fun e => absurd (allB_iff.mp e i (by omega)) (by rw [ht]; decide)
          refine ⟨congrArg (fun z => some (Value.int (iI z))) ?_, ?_⟩
          · unfold rMany
            rw [if_pos hh]
          · rw [if_neg (fun z => hh z.1)]
        · have c3 := c3
          have hin : i < n := by omega
          have hs := hv.1.2.1 i hin
          refine sL (pc' := 26) (i := .aload_n 0) rfl rfl ?_
          refine sGc (p := 29) rfl rfl (sk_179 _) rfl rfl rfl ?_
          refine sL (pc' := 30) (i := .iload_n 3) rfl rfl ?_
          refine sAi (p := 31) (i := i) rfl rfl (sk_180 _) (by omega) ⟨by omega, by omega⟩ (hv.2.2.2.1 _ (by omega)) ?_
          refine sKi (p := 32) rfl rfl ?_
          refine sIc_eq (p := 35) rfl rfl ⟨by omega, by omega⟩ ⟨by omega, by omega⟩ (fun c4 => ?_) (fun c4 => ?_)
          · have c4 := c4
            have ht : trB n sz x i = true := by unfold trB; rw [decide_eq_true (show i < n ∧ sz i = 2 by omega), Bool.or_true]
            refine sInX (z := ((i : Nat) : Int)) (ls' := [some (.ref 179), some (.int (iI x)), some (.int (iI y)), some (.int (iI (((i : Nat) : Int) + 1))), none, none]) (p := 41) rfl rfl (Nat.le_of_ble_eq_true rfl) rfl rfl ?_
            refine sL (i := .goto (-39)) rfl rfl ?_
            refine sRo (ls := [some (.ref 179), some (.int (iI x)), some (.int (iI y)), some (.int (iI ((i + 1 : Nat) : Int))), none, none]) (T := _) (And.intro rfl (And.intro rfl (And.intro rfl (And.intro rfl (True.intro))))) (rfl) (ih2 ?_)
            show (allB (trB n sz x) i && trB n sz x i) = true
            rw [hI2, ht]
            rfl
          · have c4 := c4
            have ht : trB n sz x i = false := by unfold trB; rw [hset, decide_eq_false (by omega)]; rfl
            refine sKb (p := 37) rfl rfl ?_
            refine sEn (i := .ireturn) rfl (rfl) ?_
            have hh : ¬ allB (trB n sz x) 32 = true := fun e => absurd (allB_iff.mp e i (by omega)) (by rw [ht]; decide)
            refine ⟨congrArg (fun z => some (Value.int (iI z))) ?_, ?_⟩
            · unfold rMany
              rw [if_pos hh]
            · rw [if_neg (fun z => hh z.1)]
  · have hI2 := hI2
    refine sL (pc' := 3) (i := .iload_n 3) rfl rfl ?_
    refine sKb (p := 5) rfl rfl ?_
    refine sIc_ge (p := 8) rfl rfl ⟨by omega, by omega⟩ ⟨by omega, by omega⟩ (fun c5 => ?_) (fun c5 => ?_)
    · have c5 := c5
      refine sL (pc' := 45) (i := .aload_n 0) rfl rfl ?_
      refine sGi (p := 48) rfl rfl (sk_179 _) rfl rfl rfl hfn ?_
      refine sKb (p := 50) rfl rfl ?_
      refine sIc_ne (p := 53) rfl rfl ⟨by omega, by omega⟩ ⟨by omega, by omega⟩ (fun c6 => ?_) (fun c6 => ?_)
      · have c6 := c6
        refine sL (pc' := 57) (i := .aload_n 0) rfl rfl ?_
        refine sL (pc' := 58) (i := .aload_n 0) rfl rfl ?_
        refine sGc (p := 61) rfl rfl (sk_179 _) rfl rfl rfl ?_
        refine sKi (p := 62) rfl rfl ?_
        refine sCv (p := 65) (as := [_, _]) rfl rfl rfl rfl (by decide) (Nat.le_of_ble_eq_true rfl) rfl (Nat.le_of_ble_eq_true rfl) (sk_179 _) rfl (by omega) (m_clear (sk_186 _) (o := 0) ⟨by omega, by omega⟩) ?_
        refine sKi (p := 66) rfl rfl ?_
        refine sL (pc' := 67) (i := .istore_n 3) (ls' := [some (.ref 179), some (.int (iI x)), some (.int (iI y)), some (.int (iI 0)), none, none]) rfl rfl ?_
        refine sSh (T := wRw S 186 0 (mk (fun _ => false) (manP n sz x y) 0)) (congrArg sH (by rw [mk_0])) ?_
        refine sIt (A := fun i => [some (.ref 179), some (.int (iI x)), some (.int (iI y)), some (.int (iI ((i : Nat) : Int))), none, none]) (B := fun i => wRw S 186 0 (mk (fun _ => false) (manP n sz x y) i)) (fun _ => True) (pr sz n) True.intro (fun i hi67 hI67 ih67 => ?_) (fun hI67 => ?_)
        · have hi67 := hi67
          have hT := hv.1.2.2
          refine sL (pc' := 68) (i := .iload_n 3) rfl rfl ?_
          refine sL (pc' := 69) (i := .aload_n 0) rfl rfl ?_
          refine sGi (p := 72) rfl rfl (sk_179 _) rfl rfl rfl hv.2.2.1 ?_
          refine sIc_ge (p := 75) rfl rfl ⟨by omega, by omega⟩ ⟨by omega, by omega⟩ (fun c7 => ?_) (fun c7 => ?_)
          · exfalso; omega
          · have c7 := c7
            refine sKi (p := 76) rfl rfl ?_
            refine sL (pc' := 78) (i := .istore 4) (ls' := [some (.ref 179), some (.int (iI x)), some (.int (iI y)), some (.int (iI ((i : Nat) : Int))), some (.int (iI 0)), none]) rfl rfl ?_
            refine sKi (p := 79) rfl rfl ?_
            refine sL (pc' := 81) (i := .istore 5) (ls' := [some (.ref 179), some (.int (iI x)), some (.int (iI y)), some (.int (iI ((i : Nat) : Int))), some (.int (iI 0)), some (.int (iI 0))]) rfl rfl ?_
            refine sIt (A := fun v => [some (.ref 179), some (.int (iI x)), some (.int (iI y)), some (.int (iI ((i : Nat) : Int))), some (.int (iI ((smB sz x i v : Nat) : Int))), some (.int (iI ((v : Nat) : Int)))]) (B := fun _ => wRw S 186 0 (mk (fun _ => false) (manP n sz x y) i)) (fun _ => True) n True.intro (fun v hi81 hI81 ih81 => ?_) (fun hI81 => ?_)
            · have hi81 := hi81
              have hsm := smB_le hv.1 x i (v := v) (by omega)
              refine sL (pc' := 83) (i := .iload 5) rfl rfl ?_
              refine sL (pc' := 84) (i := .aload_n 0) rfl rfl ?_
              refine sGi (p := 87) rfl rfl (sk_179 _) rfl rfl rfl hv.2.1 ?_
              refine sIc_ge (p := 90) rfl rfl ⟨by omega, by omega⟩ ⟨by omega, by omega⟩ (fun c8 => ?_) (fun c8 => ?_)
              · exfalso; omega
              · have c8 := c8
                refine sL (pc' := 92) (i := .iload 4) rfl rfl ?_
                refine sL (pc' := 93) (i := .iload_n 1) rfl rfl ?_
                refine sL (pc' := 95) (i := .iload 5) rfl rfl ?_
                refine sMs (p := 98) (j := v) rfl rfl rfl rfl rfl rfl (by omega) ?_
                refine sKi (p := 99) rfl rfl ?_
                refine sIb_ne (p := 102) (b := true) rfl rfl (fun c9 => ?_) (fun c9 => ?_)
                · have c9 := c9
                  have c9 := eq_false_of_ne_true c9
                  refine sKi (p := 113) rfl rfl ?_
                  refine sAd (p := 114) rfl rfl ?_
                  rw [show ((((smB sz x i v : Nat) : Int) + 0)) = ((smB sz x i (v + 1) : Nat) : Int) from by first | exact smB_t (by assumption) | (rw [← smB_f (by assumption)]; omega)]
                  refine sL (pc' := 116) (i := .istore 4) (ls' := [some (.ref 179), some (.int (iI x)), some (.int (iI y)), some (.int (iI ((i : Nat) : Int))), some (.int (iI ((smB sz x i (v + 1) : Nat) : Int))), some (.int (iI ((v : Nat) : Int)))]) rfl rfl ?_
                  refine sInX (z := ((v : Nat) : Int)) (ls' := [some (.ref 179), some (.int (iI x)), some (.int (iI y)), some (.int (iI ((i : Nat) : Int))), some (.int (iI ((smB sz x i (v + 1) : Nat) : Int))), some (.int (iI (((v : Nat) : Int) + 1)))]) (p := 119) rfl rfl (Nat.le_of_ble_eq_true rfl) rfl rfl ?_
                  refine sL (i := .goto (-38)) rfl rfl ?_
                  refine sRo (ls := [some (.ref 179), some (.int (iI x)), some (.int (iI y)), some (.int (iI ((i : Nat) : Int))), some (.int (iI ((smB sz x i (v + 1) : Nat) : Int))), some (.int (iI ((v + 1 : Nat) : Int)))]) (T := _) (And.intro rfl (And.intro rfl (And.intro rfl (And.intro rfl (And.intro rfl (And.intro rfl (True.intro))))))) (rfl) (ih81 ?_)
                  exact True.intro
                · have c9 := c9
                  refine sL (pc' := 103) (i := .aload_n 0) rfl rfl ?_
                  refine sL (pc' := 104) (i := .iload_n 3) rfl rfl ?_
                  refine sL (pc' := 106) (i := .iload 5) rfl rfl ?_
                  refine sCv (p := 109) (as := [_, _]) rfl rfl rfl rfl (by decide) (Nat.le_of_ble_eq_true rfl) rfl (Nat.le_of_ble_eq_true rfl) (sk_179 _) rfl (by omega) (m_val (S := wRw S 186 0 (mk (fun _ => false) (manP n sz x y) i)) hv (r := i) (v := v) (by omega) (by assumption)) ?_
                  refine sL (i := .goto 4) rfl rfl ?_
                  refine sAd (p := 114) rfl rfl ?_
                  rw [show ((((smB sz x i v : Nat) : Int) + ((val sz i v : Nat) : Int))) = ((smB sz x i (v + 1) : Nat) : Int) from by first | exact smB_t (by assumption) | (rw [← smB_f (by assumption)]; omega)]
                  refine sL (pc' := 116) (i := .istore 4) (ls' := [some (.ref 179), some (.int (iI x)), some (.int (iI y)), some (.int (iI ((i : Nat) : Int))), some (.int (iI ((smB sz x i (v + 1) : Nat) : Int))), some (.int (iI ((v : Nat) : Int)))]) rfl rfl ?_
                  refine sInX (z := ((v : Nat) : Int)) (ls' := [some (.ref 179), some (.int (iI x)), some (.int (iI y)), some (.int (iI ((i : Nat) : Int))), some (.int (iI ((smB sz x i (v + 1) : Nat) : Int))), some (.int (iI (((v : Nat) : Int) + 1)))]) (p := 119) rfl rfl (Nat.le_of_ble_eq_true rfl) rfl rfl ?_
                  refine sL (i := .goto (-38)) rfl rfl ?_
                  refine sRo (ls := [some (.ref 179), some (.int (iI x)), some (.int (iI y)), some (.int (iI ((i : Nat) : Int))), some (.int (iI ((smB sz x i (v + 1) : Nat) : Int))), some (.int (iI ((v + 1 : Nat) : Int)))]) (T := _) (And.intro rfl (And.intro rfl (And.intro rfl (And.intro rfl (And.intro rfl (And.intro rfl (True.intro))))))) (rfl) (ih81 ?_)
                  exact True.intro
            · have hI81 := hI81
              have hsm := smB_le hv.1 x i (v := n) (Nat.le_refl n)
              refine sL (pc' := 83) (i := .iload 5) rfl rfl ?_
              refine sL (pc' := 84) (i := .aload_n 0) rfl rfl ?_
              refine sGi (p := 87) rfl rfl (sk_179 _) rfl rfl rfl hv.2.1 ?_
              refine sIc_ge (p := 90) rfl rfl ⟨by omega, by omega⟩ ⟨by omega, by omega⟩ (fun c10 => ?_) (fun c10 => ?_)
              · have c10 := c10
                refine sL (pc' := 124) (i := .iload 4) rfl rfl ?_
                refine sL (pc' := 125) (i := .iload_n 2) rfl rfl ?_
                refine sIc_lt (p := 128) rfl rfl ⟨by omega, by omega⟩ ⟨by omega, by omega⟩ (fun c11 => ?_) (fun c11 => ?_)
                · have c11 := c11
                  refine sInX (z := ((i : Nat) : Int)) (ls' := [some (.ref 179), some (.int (iI x)), some (.int (iI y)), some (.int (iI (((i : Nat) : Int) + 1))), some (.int (iI ((smB sz x i n : Nat) : Int))), some (.int (iI ((n : Nat) : Int)))]) (p := 140) rfl rfl (Nat.le_of_ble_eq_true rfl) rfl rfl ?_
                  refine sL (i := .goto (-73)) rfl rfl ?_
                  refine sRo (ls := [some (.ref 179), some (.int (iI x)), some (.int (iI y)), some (.int (iI ((i + 1 : Nat) : Int))), none, none]) (T := wRw S 186 0 (mk (fun _ => false) (manP n sz x y) (i + 1))) (And.intro rfl (And.intro rfl (And.intro rfl (And.intro rfl (True.intro))))) (congrArg sH (mk_f (decide_eq_false (by omega)))) (ih67 ?_)
                  exact True.intro
                · have c11 := c11
                  refine sL (pc' := 129) (i := .aload_n 0) rfl rfl ?_
                  refine sGc (p := 132) rfl rfl (sk_179 _) rfl rfl rfl ?_
                  refine sKi (p := 133) rfl rfl ?_
                  refine sL (pc' := 134) (i := .iload_n 3) rfl rfl ?_
                  refine sCs (p := 137) (as := [_, _, _]) rfl rfl rfl rfl (by decide) (Nat.le_of_ble_eq_true rfl) rfl (Nat.le_of_ble_eq_true rfl) rfl (by omega) (c_set (S := wRw S 186 0 (mk (fun _ => false) (manP n sz x y) i)) (o := 0) (r := i) (sk_186 _) ⟨by omega, by omega⟩ (rowS_wRw _ _ _ _) (by omega)) ?_
                  refine sInX (z := ((i : Nat) : Int)) (ls' := [some (.ref 179), some (.int (iI x)), some (.int (iI y)), some (.int (iI (((i : Nat) : Int) + 1))), some (.int (iI ((smB sz x i n : Nat) : Int))), some (.int (iI ((n : Nat) : Int)))]) (p := 140) rfl rfl (Nat.le_of_ble_eq_true rfl) rfl rfl ?_
                  refine sL (i := .goto (-73)) rfl rfl ?_
                  refine sRo (ls := [some (.ref 179), some (.int (iI x)), some (.int (iI y)), some (.int (iI ((i + 1 : Nat) : Int))), none, none]) (T := wRw S 186 0 (mk (fun _ => false) (manP n sz x y) (i + 1))) (And.intro rfl (And.intro rfl (And.intro rfl (And.intro rfl (True.intro))))) (congrArg sH (mk_t (decide_eq_true (by omega)))) (ih67 ?_)
                  exact True.intro
              · exfalso; omega
        · have hI67 := hI67
          refine sL (pc' := 68) (i := .iload_n 3) rfl rfl ?_
          refine sL (pc' := 69) (i := .aload_n 0) rfl rfl ?_
          refine sGi (p := 72) rfl rfl (sk_179 _) rfl rfl rfl hv.2.2.1 ?_
          refine sIc_ge (p := 75) rfl rfl ⟨by omega, by omega⟩ ⟨by omega, by omega⟩ (fun c12 => ?_) (fun c12 => ?_)
          · have c12 := c12
            refine sL (pc' := 144) (i := .aload_n 0) rfl rfl ?_
            refine sCv (p := 147) (as := []) rfl rfl rfl rfl (by decide) (Nat.le_of_ble_eq_true rfl) rfl (Nat.le_of_ble_eq_true rfl) (sk_179 _) rfl (by omega) (m_keep hfn (by omega) (rowS_wRw _ _ _ _)) ?_
            refine sEn (i := .ireturn) rfl (rfl) ?_
            refine ⟨congrArg (fun z => some (Value.int (iI z))) ?_, ?_⟩
            · unfold rMany
              rw [if_neg (fun z => z hI2), if_neg (by omega)]
            · rw [if_pos ⟨hI2, by omega⟩, mk_cut]
              rfl
          · exfalso; omega
      · have c6 := c6
        refine sKb (p := 55) rfl rfl ?_
        refine sEn (i := .ireturn) rfl (rfl) ?_
        refine ⟨congrArg (fun z => some (Value.int (iI z))) ?_, ?_⟩
        · unfold rMany
          rw [if_neg (fun z => z hI2), if_pos (by omega)]
        · rw [if_neg (fun z => by have := z.2; omega)]
    · exact absurd c5 (by decide)
theorem m_join {x y u : Int} (hv : vM S n sz) (hfn : SI S 179 9 = (fn : Nat)) (h40 : fn ≤ 40) (hF : ∀ i, i < fn → rowS S 185 (16 * i) (Fn i)) (hx : rg x) (hy : rg y) (hu : rg u) : sM X 2 180 [.ref 179, .int (iI u), .int (iI x), .int (iI y)] S (sV (some (.int (iI (rJoin fn u x y)))) (if okJoin fn u x y then mAdd S fn (fun r => jn u.toNat (Fn x.toNat r) (Fn y.toNat r) && decide (r < pr sz n)) else S)) := by
  have hn := hv.1.1
  have hT0 := hv.1.2.2
  have x1 := hx.1
  have x2 := hx.2
  have y1 := hy.1
  have y2 := hy.2
  have u1 := hu.1
  have u2 := hu.2
  refine sIni (ls := [some (.ref 179), some (.int (iI u)), some (.int (iI x)), some (.int (iI y)), none]) rfl ?_
  refine sL (pc' := 1) (i := .aload_n 0) rfl rfl ?_
  refine sL (pc' := 2) (i := .iload_n 2) rfl rfl ?_
  refine sCv (p := 5) (as := [_]) rfl rfl rfl rfl (by decide) (Nat.le_of_ble_eq_true rfl) rfl (Nat.le_of_ble_eq_true rfl) (sk_179 _) rfl (by omega) (m_isFunction hx hfn h40) ?_
  refine sBe (p := 8) rfl rfl (fun c1 => ?_) (fun c1 => ?_)
  · have c1 := c1
    have c1 := of_decide_eq_false c1
    refine sKb (p := 18) rfl rfl ?_
    refine sEn (i := .ireturn) rfl (rfl) ?_
    refine ⟨congrArg (fun z => some (Value.int (iI z))) ?_, ?_⟩
    · unfold rJoin
      rw [if_pos (by omega)]
    · rw [if_neg (by omega)]
  · have c1 := c1
    have c1 := of_decide_eq_true c1
    refine sL (pc' := 9) (i := .aload_n 0) rfl rfl ?_
    refine sL (pc' := 10) (i := .iload_n 3) rfl rfl ?_
    refine sCv (p := 13) (as := [_]) rfl rfl rfl rfl (by decide) (Nat.le_of_ble_eq_true rfl) rfl (Nat.le_of_ble_eq_true rfl) (sk_179 _) rfl (by omega) (m_isFunction hy hfn h40) ?_
    refine sBn (p := 16) rfl rfl (fun c2 => ?_) (fun c2 => ?_)
    · have c2 := c2
      have c2 := of_decide_eq_true c2
      obtain ⟨f0, rfl⟩ : ∃ f0 : Nat, x = (f0 : Int) := ⟨x.toNat, by omega⟩
      obtain ⟨f1, rfl⟩ : ∃ f1 : Nat, y = (f1 : Int) := ⟨y.toNat, by omega⟩
      have hf0 : f0 < fn := by omega
      have hf1 : f1 < fn := by omega
      refine sL (pc' := 20) (i := .iload_n 1) rfl rfl ?_
      refine sI2l (p := 21) rfl rfl ⟨by omega, by omega⟩ ?_
      refine sKj0 (p := 22) rfl rfl rfl ?_
      refine sL (pc' := 25) (i := .ldc2_w 140) rfl rfl ?_
      refine sCs (p := 28) (as := [_, _, _]) rfl rfl rfl rfl (by decide) (Nat.le_of_ble_eq_true rfl) rfl (Nat.le_of_ble_eq_true rfl) rfl (by omega) (m_in (x := u) (y := 0) (z := (5 : Int)) ⟨by omega, by omega⟩ ⟨by omega, by omega⟩ ⟨by omega, by omega⟩) ?_
      refine sBn (p := 31) rfl rfl (fun c3 => ?_) (fun c3 => ?_)
      · have c3 := c3
        have c3 := of_decide_eq_true c3
        obtain ⟨k, rfl⟩ : ∃ k : Nat, u = (k : Int) := ⟨u.toNat, by omega⟩
        refine sL (pc' := 35) (i := .aload_n 0) rfl rfl ?_
        refine sGi (p := 38) rfl rfl (sk_179 _) rfl rfl rfl hfn ?_
        refine sKb (p := 40) rfl rfl ?_
        refine sIc_ne (p := 43) rfl rfl ⟨by omega, by omega⟩ ⟨by omega, by omega⟩ (fun c4 => ?_) (fun c4 => ?_)
        · have c4 := c4
          refine sKi (p := 47) rfl rfl ?_
          refine sL (pc' := 49) (i := .istore 4) (ls' := [some (.ref 179), some (.int (iI ((k : Nat) : Int))), some (.int (iI ((f0 : Nat) : Int))), some (.int (iI ((f1 : Nat) : Int))), some (.int (iI 0))]) rfl rfl ?_
          refine sSh (T := wKw S 186 0 0 (fun r => jn k (Fn f0 r) (Fn f1 r))) (congrArg sH (wKw_0 _ _ _ _).symm) ?_
          refine sIt (A := fun i => [some (.ref 179), some (.int (iI ((k : Nat) : Int))), some (.int (iI ((f0 : Nat) : Int))), some (.int (iI ((f1 : Nat) : Int))), some (.int (iI ((i : Nat) : Int)))]) (B := fun i => wKw S 186 0 i (fun r => jn k (Fn f0 r) (Fn f1 r))) (fun _ => True) 16 True.intro (fun i hi49 hI49 ih49 => ?_) (fun hI49 => ?_)
          · have hi49 := hi49
            refine sL (pc' := 51) (i := .iload 4) rfl rfl ?_
            refine sKb (p := 53) rfl rfl ?_
            refine sIc_ge (p := 56) rfl rfl ⟨by omega, by omega⟩ ⟨by omega, by omega⟩ (fun c5 => ?_) (fun c5 => ?_)
            · exfalso; omega
            · have c5 := c5
              refine sL (pc' := 57) (i := .aload_n 0) rfl rfl ?_
              refine sGc (p := 60) rfl rfl (sk_179 _) rfl rfl rfl ?_
              refine sL (pc' := 62) (i := .iload 4) rfl rfl ?_
              refine sL (pc' := 63) (i := .iload_n 1) rfl rfl ?_
              refine sL (pc' := 64) (i := .aload_n 0) rfl rfl ?_
              refine sGc (p := 67) rfl rfl (sk_179 _) rfl rfl rfl ?_
              refine sKb (p := 69) rfl rfl ?_
              refine sL (pc' := 70) (i := .iload_n 2) rfl rfl ?_
              refine sMu (p := 71) rfl rfl ?_
              refine sL (pc' := 73) (i := .iload 4) rfl rfl ?_
              refine sAd (p := 74) rfl rfl ?_
              refine sAl (p := 75) (i := 16 * f0 + i) rfl rfl (sk_185 _) (by omega) ⟨by omega, by omega⟩ (wKw_oo (by decide) (hF f0 hf0) (by omega)) ?_
              refine sL (pc' := 76) (i := .aload_n 0) rfl rfl ?_
              refine sGc (p := 79) rfl rfl (sk_179 _) rfl rfl rfl ?_
              refine sKb (p := 81) rfl rfl ?_
              refine sL (pc' := 82) (i := .iload_n 3) rfl rfl ?_
              refine sMu (p := 83) rfl rfl ?_
              refine sL (pc' := 85) (i := .iload 4) rfl rfl ?_
              refine sAd (p := 86) rfl rfl ?_
              refine sAl (p := 87) (i := 16 * f1 + i) rfl rfl (sk_185 _) (by omega) ⟨by omega, by omega⟩ (wKw_oo (by decide) (hF f1 hf1) (by omega)) ?_
              refine sCs (p := 90) (as := [_, _, _]) rfl rfl rfl rfl (by decide) (Nat.le_of_ble_eq_true rfl) rfl (Nat.le_of_ble_eq_true rfl) rfl (by omega) (m_joined (op := k) (by omega)) ?_
              refine sWl (p := 91) (i := i) rfl rfl (sk_186 _) (by omega) ⟨by omega, by omega⟩ ?_
              refine sInX (z := ((i : Nat) : Int)) (ls' := [some (.ref 179), some (.int (iI ((k : Nat) : Int))), some (.int (iI ((f0 : Nat) : Int))), some (.int (iI ((f1 : Nat) : Int))), some (.int (iI (((i : Nat) : Int) + 1)))]) (p := 94) rfl rfl (Nat.le_of_ble_eq_true rfl) rfl rfl ?_
              refine sL (i := .goto (-45)) rfl rfl ?_
              refine sRo (ls := [some (.ref 179), some (.int (iI ((k : Nat) : Int))), some (.int (iI ((f0 : Nat) : Int))), some (.int (iI ((f1 : Nat) : Int))), some (.int (iI ((i + 1 : Nat) : Int)))]) (T := wKw S 186 0 (i + 1) (fun r => jn k (Fn f0 r) (Fn f1 r))) (And.intro rfl (And.intro rfl (And.intro rfl (And.intro rfl (And.intro rfl (True.intro)))))) (congrArg sH (wKw_s (by omega) (jw_pkw _ _ _ _))) (ih49 ?_)
              exact True.intro
          · have hI49 := hI49
            refine sL (pc' := 51) (i := .iload 4) rfl rfl ?_
            refine sKb (p := 53) rfl rfl ?_
            refine sIc_ge (p := 56) rfl rfl ⟨by omega, by omega⟩ ⟨by omega, by omega⟩ (fun c6 => ?_) (fun c6 => ?_)
            · have c6 := c6
              refine sL (pc' := 98) (i := .aload_n 0) rfl rfl ?_
              refine sL (pc' := 99) (i := .aload_n 0) rfl rfl ?_
              refine sGc (p := 102) rfl rfl (sk_179 _) rfl rfl rfl ?_
              refine sKi (p := 103) rfl rfl ?_
              refine sCv (p := 106) (as := [_, _]) rfl rfl rfl rfl (by decide) (Nat.le_of_ble_eq_true rfl) rfl (Nat.le_of_ble_eq_true rfl) (sk_179 _) rfl (by omega) (m_trim (S := wRw S 186 0 (fun r => jn k (Fn f0 r) (Fn f1 r))) (o := 0) hv (sk_186 _) ⟨by omega, by omega⟩ (rowS_wRw _ _ _ _)) ?_
              refine sL (pc' := 107) (i := .aload_n 0) rfl rfl ?_
              refine sCv (p := 110) (as := []) rfl rfl rfl rfl (by decide) (Nat.le_of_ble_eq_true rfl) rfl (Nat.le_of_ble_eq_true rfl) (sk_179 _) rfl (by omega) (m_keep hfn (by omega) (rowS_wRw _ _ _ _)) ?_
              refine sEn (i := .ireturn) rfl (rfl) ?_
              refine ⟨congrArg (fun z => some (Value.int (iI z))) ?_, ?_⟩
              · unfold rJoin
                rw [if_neg (by omega), if_neg (by omega), if_neg (by omega)]
                all_goals rfl
              · rw [if_pos (by omega)]
                rw [wRw_wRw]
                rfl
            · exact absurd c6 (by decide)
        · have c4 := c4
          refine sKb (p := 45) rfl rfl ?_
          refine sEn (i := .ireturn) rfl (rfl) ?_
          refine ⟨congrArg (fun z => some (Value.int (iI z))) ?_, ?_⟩
          · unfold rJoin
            rw [if_neg (by omega), if_neg (by omega), if_pos (by omega)]
          · rw [if_neg (by omega)]
      · have c3 := c3
        have c3 := of_decide_eq_false c3
        refine sKb (p := 33) rfl rfl ?_
        refine sEn (i := .ireturn) rfl (rfl) ?_
        refine ⟨congrArg (fun z => some (Value.int (iI z))) ?_, ?_⟩
        · unfold rJoin
          rw [if_neg (by omega), if_pos (by omega)]
        · rw [if_neg (by omega)]
    · have c2 := c2
      have c2 := of_decide_eq_false c2
      refine sKb (p := 18) rfl rfl ?_
      refine sEn (i := .ireturn) rfl (rfl) ?_
      refine ⟨congrArg (fun z => some (Value.int (iI z))) ?_, ?_⟩
      · unfold rJoin
        rw [if_pos (by omega)]
      · rw [if_neg (by omega)]
theorem m_not {x : Int} (hv : vM S n sz) (hfn : SI S 179 9 = (fn : Nat)) (h40 : fn ≤ 40) (hF : ∀ i, i < fn → rowS S 185 (16 * i) (Fn i)) (hx : rg x) : sM X 2 181 [.ref 179, .int (iI x)] S (sV (some (.int (iI (rNot fn x)))) (if okNot fn x then mAdd S fn (fun r => !Fn x.toNat r && decide (r < pr sz n)) else S)) := by
  have hn := hv.1.1
  have hT0 := hv.1.2.2
  have x1 := hx.1
  have x2 := hx.2
  refine sIni (ls := [some (.ref 179), some (.int (iI x)), none]) rfl ?_
  refine sL (pc' := 1) (i := .aload_n 0) rfl rfl ?_
  refine sL (pc' := 2) (i := .iload_n 1) rfl rfl ?_
  refine sCv (p := 5) (as := [_]) rfl rfl rfl rfl (by decide) (Nat.le_of_ble_eq_true rfl) rfl (Nat.le_of_ble_eq_true rfl) (sk_179 _) rfl (by omega) (m_isFunction hx hfn h40) ?_
  refine sBn (p := 8) rfl rfl (fun c1 => ?_) (fun c1 => ?_)
  · have c1 := c1
    have c1 := of_decide_eq_true c1
    obtain ⟨f0, rfl⟩ : ∃ f0 : Nat, x = (f0 : Int) := ⟨x.toNat, by omega⟩
    have hf0 : f0 < fn := by omega
    refine sL (pc' := 12) (i := .aload_n 0) rfl rfl ?_
    refine sGi (p := 15) rfl rfl (sk_179 _) rfl rfl rfl hfn ?_
    refine sKb (p := 17) rfl rfl ?_
    refine sIc_ne (p := 20) rfl rfl ⟨by omega, by omega⟩ ⟨by omega, by omega⟩ (fun c2 => ?_) (fun c2 => ?_)
    · have c2 := c2
      refine sKi (p := 24) rfl rfl ?_
      refine sL (pc' := 25) (i := .istore_n 2) (ls' := [some (.ref 179), some (.int (iI ((f0 : Nat) : Int))), some (.int (iI 0))]) rfl rfl ?_
      refine sSh (T := wKw S 186 0 0 (fun r => !Fn f0 r)) (congrArg sH (wKw_0 _ _ _ _).symm) ?_
      refine sIt (A := fun i => [some (.ref 179), some (.int (iI ((f0 : Nat) : Int))), some (.int (iI ((i : Nat) : Int)))]) (B := fun i => wKw S 186 0 i (fun r => !Fn f0 r)) (fun _ => True) 16 True.intro (fun i hi25 hI25 ih25 => ?_) (fun hI25 => ?_)
      · have hi25 := hi25
        refine sL (pc' := 26) (i := .iload_n 2) rfl rfl ?_
        refine sKb (p := 28) rfl rfl ?_
        refine sIc_ge (p := 31) rfl rfl ⟨by omega, by omega⟩ ⟨by omega, by omega⟩ (fun c3 => ?_) (fun c3 => ?_)
        · exfalso; omega
        · have c3 := c3
          refine sL (pc' := 32) (i := .aload_n 0) rfl rfl ?_
          refine sGc (p := 35) rfl rfl (sk_179 _) rfl rfl rfl ?_
          refine sL (pc' := 36) (i := .iload_n 2) rfl rfl ?_
          refine sL (pc' := 37) (i := .aload_n 0) rfl rfl ?_
          refine sGc (p := 40) rfl rfl (sk_179 _) rfl rfl rfl ?_
          refine sKb (p := 42) rfl rfl ?_
          refine sL (pc' := 43) (i := .iload_n 1) rfl rfl ?_
          refine sMu (p := 44) rfl rfl ?_
          refine sL (pc' := 45) (i := .iload_n 2) rfl rfl ?_
          refine sAd (p := 46) rfl rfl ?_
          refine sAl (p := 47) (i := 16 * f0 + i) rfl rfl (sk_185 _) (by omega) ⟨by omega, by omega⟩ (wKw_oo (by decide) (hF f0 hf0) (by omega)) ?_
          refine sL (pc' := 50) (i := .ldc2_w 135) rfl rfl ?_
          refine sL (pc' := 51) (i := .lxor) rfl rfl ?_
          refine sWl (p := 52) (i := i) rfl rfl (sk_186 _) (by omega) ⟨by omega, by omega⟩ ?_
          refine sInX (z := ((i : Nat) : Int)) (ls' := [some (.ref 179), some (.int (iI ((f0 : Nat) : Int))), some (.int (iI (((i : Nat) : Int) + 1)))]) (p := 55) rfl rfl (Nat.le_of_ble_eq_true rfl) rfl rfl ?_
          refine sL (i := .goto (-30)) rfl rfl ?_
          refine sRo (ls := [some (.ref 179), some (.int (iI ((f0 : Nat) : Int))), some (.int (iI ((i + 1 : Nat) : Int)))]) (T := wKw S 186 0 (i + 1) (fun r => !Fn f0 r)) (And.intro rfl (And.intro rfl (And.intro rfl (True.intro)))) (congrArg sH (wKw_s (by omega) (pkw_not _ _))) (ih25 ?_)
          exact True.intro
      · have hI25 := hI25
        refine sL (pc' := 26) (i := .iload_n 2) rfl rfl ?_
        refine sKb (p := 28) rfl rfl ?_
        refine sIc_ge (p := 31) rfl rfl ⟨by omega, by omega⟩ ⟨by omega, by omega⟩ (fun c4 => ?_) (fun c4 => ?_)
        · have c4 := c4
          refine sL (pc' := 59) (i := .aload_n 0) rfl rfl ?_
          refine sL (pc' := 60) (i := .aload_n 0) rfl rfl ?_
          refine sGc (p := 63) rfl rfl (sk_179 _) rfl rfl rfl ?_
          refine sKi (p := 64) rfl rfl ?_
          refine sCv (p := 67) (as := [_, _]) rfl rfl rfl rfl (by decide) (Nat.le_of_ble_eq_true rfl) rfl (Nat.le_of_ble_eq_true rfl) (sk_179 _) rfl (by omega) (m_trim (S := wRw S 186 0 (fun r => !Fn f0 r)) (o := 0) hv (sk_186 _) ⟨by omega, by omega⟩ (rowS_wRw _ _ _ _)) ?_
          refine sL (pc' := 68) (i := .aload_n 0) rfl rfl ?_
          refine sCv (p := 71) (as := []) rfl rfl rfl rfl (by decide) (Nat.le_of_ble_eq_true rfl) rfl (Nat.le_of_ble_eq_true rfl) (sk_179 _) rfl (by omega) (m_keep hfn (by omega) (rowS_wRw _ _ _ _)) ?_
          refine sEn (i := .ireturn) rfl (rfl) ?_
          refine ⟨congrArg (fun z => some (Value.int (iI z))) ?_, ?_⟩
          · unfold rNot
            rw [if_neg (by omega), if_neg (by omega)]
            all_goals rfl
          · rw [if_pos (by omega)]
            rw [wRw_wRw]
            rfl
        · exact absurd c4 (by decide)
    · have c2 := c2
      refine sKb (p := 22) rfl rfl ?_
      refine sEn (i := .ireturn) rfl (rfl) ?_
      refine ⟨congrArg (fun z => some (Value.int (iI z))) ?_, ?_⟩
      · unfold rNot
        rw [if_neg (by omega), if_pos (by omega)]
      · rw [if_neg (by omega)]
  · have c1 := c1
    have c1 := of_decide_eq_false c1
    refine sKb (p := 10) rfl rfl ?_
    refine sEn (i := .ireturn) rfl (rfl) ?_
    refine ⟨congrArg (fun z => some (Value.int (iI z))) ?_, ?_⟩
    · unfold rNot
      rw [if_pos (by omega)]
    · rw [if_neg (by omega)]
theorem m_choose {x y u : Int} (hv : vM S n sz) (hfn : SI S 179 9 = (fn : Nat)) (h40 : fn ≤ 40) (hF : ∀ i, i < fn → rowS S 185 (16 * i) (Fn i)) (hx : rg x) (hy : rg y) (hu : rg u) : sM X 2 182 [.ref 179, .int (iI x), .int (iI y), .int (iI u)] S (sV (some (.int (iI (rChoose fn x y u)))) (if okChoose fn x y u then mAdd S fn (fun r => (Fn x.toNat r && Fn y.toNat r || !Fn x.toNat r && Fn u.toNat r) && decide (r < pr sz n)) else S)) := by
  have hn := hv.1.1
  have hT0 := hv.1.2.2
  have x1 := hx.1
  have x2 := hx.2
  have y1 := hy.1
  have y2 := hy.2
  have u1 := hu.1
  have u2 := hu.2
  refine sIni (ls := [some (.ref 179), some (.int (iI x)), some (.int (iI y)), some (.int (iI u)), none, none, none]) rfl ?_
  refine sL (pc' := 1) (i := .aload_n 0) rfl rfl ?_
  refine sL (pc' := 2) (i := .iload_n 1) rfl rfl ?_
  refine sCv (p := 5) (as := [_]) rfl rfl rfl rfl (by decide) (Nat.le_of_ble_eq_true rfl) rfl (Nat.le_of_ble_eq_true rfl) (sk_179 _) rfl (by omega) (m_isFunction hx hfn h40) ?_
  refine sBe (p := 8) rfl rfl (fun c1 => ?_) (fun c1 => ?_)
  · have c1 := c1
    have c1 := of_decide_eq_false c1
    refine sKb (p := 26) rfl rfl ?_
    refine sEn (i := .ireturn) rfl (rfl) ?_
    refine ⟨congrArg (fun z => some (Value.int (iI z))) ?_, ?_⟩
    · unfold rChoose
      rw [if_pos (by omega)]
    · rw [if_neg (by omega)]
  · have c1 := c1
    have c1 := of_decide_eq_true c1
    refine sL (pc' := 9) (i := .aload_n 0) rfl rfl ?_
    refine sL (pc' := 10) (i := .iload_n 2) rfl rfl ?_
    refine sCv (p := 13) (as := [_]) rfl rfl rfl rfl (by decide) (Nat.le_of_ble_eq_true rfl) rfl (Nat.le_of_ble_eq_true rfl) (sk_179 _) rfl (by omega) (m_isFunction hy hfn h40) ?_
    refine sBe (p := 16) rfl rfl (fun c2 => ?_) (fun c2 => ?_)
    · have c2 := c2
      have c2 := of_decide_eq_false c2
      refine sKb (p := 26) rfl rfl ?_
      refine sEn (i := .ireturn) rfl (rfl) ?_
      refine ⟨congrArg (fun z => some (Value.int (iI z))) ?_, ?_⟩
      · unfold rChoose
        rw [if_pos (by omega)]
      · rw [if_neg (by omega)]
    · have c2 := c2
      have c2 := of_decide_eq_true c2
      refine sL (pc' := 17) (i := .aload_n 0) rfl rfl ?_
      refine sL (pc' := 18) (i := .iload_n 3) rfl rfl ?_
      refine sCv (p := 21) (as := [_]) rfl rfl rfl rfl (by decide) (Nat.le_of_ble_eq_true rfl) rfl (Nat.le_of_ble_eq_true rfl) (sk_179 _) rfl (by omega) (m_isFunction hu hfn h40) ?_
      refine sBn (p := 24) rfl rfl (fun c3 => ?_) (fun c3 => ?_)
      · have c3 := c3
        have c3 := of_decide_eq_true c3
        obtain ⟨f0, rfl⟩ : ∃ f0 : Nat, x = (f0 : Int) := ⟨x.toNat, by omega⟩
        obtain ⟨f1, rfl⟩ : ∃ f1 : Nat, y = (f1 : Int) := ⟨y.toNat, by omega⟩
        obtain ⟨f2, rfl⟩ : ∃ f2 : Nat, u = (f2 : Int) := ⟨u.toNat, by omega⟩
        have hf0 : f0 < fn := by omega
        have hf1 : f1 < fn := by omega
        have hf2 : f2 < fn := by omega
        refine sL (pc' := 28) (i := .aload_n 0) rfl rfl ?_
        refine sGi (p := 31) rfl rfl (sk_179 _) rfl rfl rfl hfn ?_
        refine sKb (p := 33) rfl rfl ?_
        refine sIc_ne (p := 36) rfl rfl ⟨by omega, by omega⟩ ⟨by omega, by omega⟩ (fun c4 => ?_) (fun c4 => ?_)
        · have c4 := c4
          refine sKi (p := 40) rfl rfl ?_
          refine sL (pc' := 42) (i := .istore 4) (ls' := [some (.ref 179), some (.int (iI ((f0 : Nat) : Int))), some (.int (iI ((f1 : Nat) : Int))), some (.int (iI ((f2 : Nat) : Int))), some (.int (iI 0)), none, none]) rfl rfl ?_
          refine sSh (T := wKw S 186 0 0 (fun r => Fn f0 r && Fn f1 r || !Fn f0 r && Fn f2 r)) (congrArg sH (wKw_0 _ _ _ _).symm) ?_
          refine sIt (A := fun i => [some (.ref 179), some (.int (iI ((f0 : Nat) : Int))), some (.int (iI ((f1 : Nat) : Int))), some (.int (iI ((f2 : Nat) : Int))), some (.int (iI ((i : Nat) : Int))), none, none]) (B := fun i => wKw S 186 0 i (fun r => Fn f0 r && Fn f1 r || !Fn f0 r && Fn f2 r)) (fun _ => True) 16 True.intro (fun i hi42 hI42 ih42 => ?_) (fun hI42 => ?_)
          · have hi42 := hi42
            refine sL (pc' := 44) (i := .iload 4) rfl rfl ?_
            refine sKb (p := 46) rfl rfl ?_
            refine sIc_ge (p := 49) rfl rfl ⟨by omega, by omega⟩ ⟨by omega, by omega⟩ (fun c5 => ?_) (fun c5 => ?_)
            · exfalso; omega
            · have c5 := c5
              refine sL (pc' := 50) (i := .aload_n 0) rfl rfl ?_
              refine sGc (p := 53) rfl rfl (sk_179 _) rfl rfl rfl ?_
              refine sKb (p := 55) rfl rfl ?_
              refine sL (pc' := 56) (i := .iload_n 1) rfl rfl ?_
              refine sMu (p := 57) rfl rfl ?_
              refine sL (pc' := 59) (i := .iload 4) rfl rfl ?_
              refine sAd (p := 60) rfl rfl ?_
              refine sAl (p := 61) (i := 16 * f0 + i) rfl rfl (sk_185 _) (by omega) ⟨by omega, by omega⟩ (wKw_oo (by decide) (hF f0 hf0) (by omega)) ?_
              refine sL (pc' := 63) (i := .lstore 5) (ls' := [some (.ref 179), some (.int (iI ((f0 : Nat) : Int))), some (.int (iI ((f1 : Nat) : Int))), some (.int (iI ((f2 : Nat) : Int))), some (.int (iI ((i : Nat) : Int))), some (.long (pkw (Fn f0) i)), none]) rfl rfl ?_
              refine sL (pc' := 64) (i := .aload_n 0) rfl rfl ?_
              refine sGc (p := 67) rfl rfl (sk_179 _) rfl rfl rfl ?_
              refine sL (pc' := 69) (i := .iload 4) rfl rfl ?_
              refine sL (pc' := 71) (i := .lload 5) rfl rfl ?_
              refine sL (pc' := 72) (i := .aload_n 0) rfl rfl ?_
              refine sGc (p := 75) rfl rfl (sk_179 _) rfl rfl rfl ?_
              refine sKb (p := 77) rfl rfl ?_
              refine sL (pc' := 78) (i := .iload_n 2) rfl rfl ?_
              refine sMu (p := 79) rfl rfl ?_
              refine sL (pc' := 81) (i := .iload 4) rfl rfl ?_
              refine sAd (p := 82) rfl rfl ?_
              refine sAl (p := 83) (i := 16 * f1 + i) rfl rfl (sk_185 _) (by omega) ⟨by omega, by omega⟩ (wKw_oo (by decide) (hF f1 hf1) (by omega)) ?_
              refine sL (pc' := 84) (i := .land) rfl rfl ?_
              refine sL (pc' := 86) (i := .lload 5) rfl rfl ?_
              refine sL (pc' := 89) (i := .ldc2_w 135) rfl rfl ?_
              refine sL (pc' := 90) (i := .lxor) rfl rfl ?_
              refine sL (pc' := 91) (i := .aload_n 0) rfl rfl ?_
              refine sGc (p := 94) rfl rfl (sk_179 _) rfl rfl rfl ?_
              refine sKb (p := 96) rfl rfl ?_
              refine sL (pc' := 97) (i := .iload_n 3) rfl rfl ?_
              refine sMu (p := 98) rfl rfl ?_
              refine sL (pc' := 100) (i := .iload 4) rfl rfl ?_
              refine sAd (p := 101) rfl rfl ?_
              refine sAl (p := 102) (i := 16 * f2 + i) rfl rfl (sk_185 _) (by omega) ⟨by omega, by omega⟩ (wKw_oo (by decide) (hF f2 hf2) (by omega)) ?_
              refine sL (pc' := 103) (i := .land) rfl rfl ?_
              refine sL (pc' := 104) (i := .lor) rfl rfl ?_
              refine sWl (p := 105) (i := i) rfl rfl (sk_186 _) (by omega) ⟨by omega, by omega⟩ ?_
              refine sInX (z := ((i : Nat) : Int)) (ls' := [some (.ref 179), some (.int (iI ((f0 : Nat) : Int))), some (.int (iI ((f1 : Nat) : Int))), some (.int (iI ((f2 : Nat) : Int))), some (.int (iI (((i : Nat) : Int) + 1))), some (.long (pkw (Fn f0) i)), none]) (p := 108) rfl rfl (Nat.le_of_ble_eq_true rfl) rfl rfl ?_
              refine sL (i := .goto (-66)) rfl rfl ?_
              refine sRo (ls := [some (.ref 179), some (.int (iI ((f0 : Nat) : Int))), some (.int (iI ((f1 : Nat) : Int))), some (.int (iI ((f2 : Nat) : Int))), some (.int (iI ((i + 1 : Nat) : Int))), none, none]) (T := wKw S 186 0 (i + 1) (fun r => Fn f0 r && Fn f1 r || !Fn f0 r && Fn f2 r)) (And.intro rfl (And.intro rfl (And.intro rfl (And.intro rfl (And.intro rfl (True.intro)))))) (congrArg sH (wKw_s (by omega) (by rw [pkw_not, pkw_and, pkw_and, pkw_or]))) (ih42 ?_)
              exact True.intro
          · have hI42 := hI42
            refine sL (pc' := 44) (i := .iload 4) rfl rfl ?_
            refine sKb (p := 46) rfl rfl ?_
            refine sIc_ge (p := 49) rfl rfl ⟨by omega, by omega⟩ ⟨by omega, by omega⟩ (fun c6 => ?_) (fun c6 => ?_)
            · have c6 := c6
              refine sL (pc' := 112) (i := .aload_n 0) rfl rfl ?_
              refine sL (pc' := 113) (i := .aload_n 0) rfl rfl ?_
              refine sGc (p := 116) rfl rfl (sk_179 _) rfl rfl rfl ?_
              refine sKi (p := 117) rfl rfl ?_
              refine sCv (p := 120) (as := [_, _]) rfl rfl rfl rfl (by decide) (Nat.le_of_ble_eq_true rfl) rfl (Nat.le_of_ble_eq_true rfl) (sk_179 _) rfl (by omega) (m_trim (S := wRw S 186 0 (fun r => Fn f0 r && Fn f1 r || !Fn f0 r && Fn f2 r)) (o := 0) hv (sk_186 _) ⟨by omega, by omega⟩ (rowS_wRw _ _ _ _)) ?_
              refine sL (pc' := 121) (i := .aload_n 0) rfl rfl ?_
              refine sCv (p := 124) (as := []) rfl rfl rfl rfl (by decide) (Nat.le_of_ble_eq_true rfl) rfl (Nat.le_of_ble_eq_true rfl) (sk_179 _) rfl (by omega) (m_keep hfn (by omega) (rowS_wRw _ _ _ _)) ?_
              refine sEn (i := .ireturn) rfl (rfl) ?_
              refine ⟨congrArg (fun z => some (Value.int (iI z))) ?_, ?_⟩
              · unfold rChoose
                rw [if_neg (by omega), if_neg (by omega)]
                all_goals rfl
              · rw [if_pos (by omega)]
                rw [wRw_wRw]
                rfl
            · exact absurd c6 (by decide)
        · have c4 := c4
          refine sKb (p := 38) rfl rfl ?_
          refine sEn (i := .ireturn) rfl (rfl) ?_
          refine ⟨congrArg (fun z => some (Value.int (iI z))) ?_, ?_⟩
          · unfold rChoose
            rw [if_neg (by omega), if_pos (by omega)]
          · rw [if_neg (by omega)]
      · have c3 := c3
        have c3 := of_decide_eq_false c3
        refine sKb (p := 26) rfl rfl ?_
        refine sEn (i := .ireturn) rfl (rfl) ?_
        refine ⟨congrArg (fun z => some (Value.int (iI z))) ?_, ?_⟩
        · unfold rChoose
          rw [if_pos (by omega)]
        · rw [if_neg (by omega)]
def wM (S : ST) (n : Nat) (wt : Nat → Int) (ro : Nat → Bool) : Prop := ∀ i, i < n * 6 → SI S 182 i = wt i ∧ SI S 183 i = bI (ro i) ∧ 0 ≤ wt i ∧ wt i ≤ 30
theorem m_weight {x y u : Int} (hv : vM S n sz) (hw : wM S n wt ro) (hx : rg x) (hy : rg y) (hu : rg u) : sM X 2 172 [.ref 179, .int (iI x), .int (iI y), .int (iI u)] S (sV (some (.int (iI (rWeight n sz wt x y u)))) (if okWeight n sz wt x y u then wI S 182 (x.toNat * 6 + y.toNat) u else S)) := by
  have hn := hv.1.1
  have hT0 := hv.1.2.2
  have x1 := hx.1
  have x2 := hx.2
  have y1 := hy.1
  have y2 := hy.2
  have u1 := hu.1
  have u2 := hu.2
  refine sIni (ls := [some (.ref 179), some (.int (iI x)), some (.int (iI y)), some (.int (iI u)), none]) rfl ?_
  refine sL (pc' := 1) (i := .aload_n 0) rfl rfl ?_
  refine sL (pc' := 2) (i := .iload_n 1) rfl rfl ?_
  refine sCv (p := 5) (as := [_]) rfl rfl rfl rfl (by decide) (Nat.le_of_ble_eq_true rfl) rfl (Nat.le_of_ble_eq_true rfl) (sk_179 _) rfl (by omega) (m_isVariable hx hv) ?_
  refine sBn (p := 8) rfl rfl (fun c1 => ?_) (fun c1 => ?_)
  · have c1 := c1
    have c1 := of_decide_eq_true c1
    obtain ⟨v, rfl⟩ : ∃ v : Nat, x = (v : Int) := ⟨x.toNat, by omega⟩
    have hxe : sz (((v : Nat) : Int).toNat) = sz v := rfl
    have hvv : v < n := by omega
    have hs := hv.1.2.1 v hvv
    refine sL (pc' := 12) (i := .iload_n 2) rfl rfl ?_
    refine sI2l (p := 13) rfl rfl ⟨by omega, by omega⟩ ?_
    refine sKj0 (p := 14) rfl rfl rfl ?_
    refine sL (pc' := 15) (i := .aload_n 0) rfl rfl ?_
    refine sGc (p := 18) rfl rfl (sk_179 _) rfl rfl rfl ?_
    refine sL (pc' := 19) (i := .iload_n 1) rfl rfl ?_
    refine sAi (p := 20) (i := v) rfl rfl (sk_180 _) (by omega) ⟨by omega, by omega⟩ (hv.2.2.2.1 _ (by omega)) ?_
    refine sKi (p := 21) rfl rfl ?_
    refine sSb (p := 22) rfl rfl ?_
    refine sI2l (p := 23) rfl rfl ⟨by omega, by omega⟩ ?_
    refine sCs (p := 26) (as := [_, _, _]) rfl rfl rfl rfl (by decide) (Nat.le_of_ble_eq_true rfl) rfl (Nat.le_of_ble_eq_true rfl) rfl (by omega) (m_in (x := y) (y := 0) (z := (((sz v : Nat) : Int) - 1)) ⟨by omega, by omega⟩ ⟨by omega, by omega⟩ ⟨by omega, by omega⟩) ?_
    refine sBe (p := 29) rfl rfl (fun c2 => ?_) (fun c2 => ?_)
    · have c2 := c2
      have c2 := of_decide_eq_false c2
      refine sKb (p := 43) rfl rfl ?_
      refine sEn (i := .ireturn) rfl (rfl) ?_
      refine ⟨congrArg (fun z => some (Value.int (iI z))) ?_, ?_⟩
      · unfold rWeight
        rw [if_neg (by omega), if_pos (by omega)]
      · rw [if_neg (by omega)]
    · have c2 := c2
      have c2 := of_decide_eq_true c2
      obtain ⟨k, rfl⟩ : ∃ k : Nat, y = (k : Int) := ⟨y.toNat, by omega⟩
      refine sL (pc' := 30) (i := .iload_n 3) rfl rfl ?_
      refine sI2l (p := 31) rfl rfl ⟨by omega, by omega⟩ ?_
      refine sKj0 (p := 32) rfl rfl rfl ?_
      refine sL (pc' := 35) (i := .ldc2_w 125) rfl rfl ?_
      refine sCs (p := 38) (as := [_, _, _]) rfl rfl rfl rfl (by decide) (Nat.le_of_ble_eq_true rfl) rfl (Nat.le_of_ble_eq_true rfl) rfl (by omega) (m_in (x := u) (y := 0) (z := (30 : Int)) ⟨by omega, by omega⟩ ⟨by omega, by omega⟩ ⟨by omega, by omega⟩) ?_
      refine sBn (p := 41) rfl rfl (fun c3 => ?_) (fun c3 => ?_)
      · have c3 := c3
        have c3 := of_decide_eq_true c3
        refine sL (pc' := 45) (i := .aload_n 0) rfl rfl ?_
        refine sGc (p := 48) rfl rfl (sk_179 _) rfl rfl rfl ?_
        refine sKb (p := 50) rfl rfl ?_
        refine sL (pc' := 51) (i := .iload_n 1) rfl rfl ?_
        refine sMu (p := 52) rfl rfl ?_
        refine sL (pc' := 53) (i := .iload_n 2) rfl rfl ?_
        refine sAd (p := 54) rfl rfl ?_
        refine sAi (p := 55) (i := v * 6 + k) rfl rfl (sk_182 _) (by omega) ⟨by omega, by omega⟩ (hw (v * 6 + k) (by omega)).1 ?_
        refine sL (pc' := 57) (i := .istore 4) (ls' := [some (.ref 179), some (.int (iI ((v : Nat) : Int))), some (.int (iI ((k : Nat) : Int))), some (.int (iI u)), some (.int (iI (wt (v * 6 + k))))]) rfl rfl ?_
        refine sL (pc' := 58) (i := .aload_n 0) rfl rfl ?_
        refine sGc (p := 61) rfl rfl (sk_179 _) rfl rfl rfl ?_
        refine sKb (p := 63) rfl rfl ?_
        refine sL (pc' := 64) (i := .iload_n 1) rfl rfl ?_
        refine sMu (p := 65) rfl rfl ?_
        refine sL (pc' := 66) (i := .iload_n 2) rfl rfl ?_
        refine sAd (p := 67) rfl rfl ?_
        refine sL (pc' := 68) (i := .iload_n 3) rfl rfl ?_
        refine sWi (p := 69) (i := v * 6 + k) rfl rfl (sk_182 _) (by omega) ⟨by omega, by omega⟩ ?_
        refine sL (pc' := 71) (i := .iload 4) rfl rfl ?_
        refine sEn (i := .ireturn) rfl (rfl) ?_
        refine ⟨congrArg (fun z => some (Value.int (iI z))) ?_, ?_⟩
        · unfold rWeight
          rw [if_neg (by omega), if_neg (by omega)]
          all_goals rfl
        · rw [if_pos (by omega)]
          rfl
      · have c3 := c3
        have c3 := of_decide_eq_false c3
        refine sKb (p := 43) rfl rfl ?_
        refine sEn (i := .ireturn) rfl (rfl) ?_
        refine ⟨congrArg (fun z => some (Value.int (iI z))) ?_, ?_⟩
        · unfold rWeight
          rw [if_neg (by omega), if_pos (by omega)]
        · rw [if_neg (by omega)]
  · have c1 := c1
    have c1 := of_decide_eq_false c1
    refine sKb (p := 10) rfl rfl ?_
    refine sEn (i := .ireturn) rfl (rfl) ?_
    refine ⟨congrArg (fun z => some (Value.int (iI z))) ?_, ?_⟩
    · unfold rWeight
      rw [if_pos (by omega)]
    · rw [if_neg (by omega)]
theorem m_rule {x y : Int} {b : Bool} (hv : vM S n sz) (hw : wM S n wt ro) (hx : rg x) (hy : rg y) : sM X 2 173 [.ref 179, .int (iI x), .int (iI y), .int (iI (bI b))] S (sV (some (.int (iI (rRule n sz ro x y b)))) (if okRule n sz ro x y b then wI S 183 (x.toNat * 6 + y.toNat) (bI b) else S)) := by
  have hn := hv.1.1
  have hT0 := hv.1.2.2
  have x1 := hx.1
  have x2 := hx.2
  have y1 := hy.1
  have y2 := hy.2
  refine sIni (ls := [some (.ref 179), some (.int (iI x)), some (.int (iI y)), some (.int (iI (bI b))), none]) rfl ?_
  refine sL (pc' := 1) (i := .aload_n 0) rfl rfl ?_
  refine sL (pc' := 2) (i := .iload_n 1) rfl rfl ?_
  refine sCv (p := 5) (as := [_]) rfl rfl rfl rfl (by decide) (Nat.le_of_ble_eq_true rfl) rfl (Nat.le_of_ble_eq_true rfl) (sk_179 _) rfl (by omega) (m_isVariable hx hv) ?_
  refine sBn (p := 8) rfl rfl (fun c1 => ?_) (fun c1 => ?_)
  · have c1 := c1
    have c1 := of_decide_eq_true c1
    obtain ⟨v, rfl⟩ : ∃ v : Nat, x = (v : Int) := ⟨x.toNat, by omega⟩
    have hxe : sz (((v : Nat) : Int).toNat) = sz v := rfl
    have hvv : v < n := by omega
    have hs := hv.1.2.1 v hvv
    refine sL (pc' := 12) (i := .iload_n 2) rfl rfl ?_
    refine sI2l (p := 13) rfl rfl ⟨by omega, by omega⟩ ?_
    refine sKj0 (p := 14) rfl rfl rfl ?_
    refine sL (pc' := 15) (i := .aload_n 0) rfl rfl ?_
    refine sGc (p := 18) rfl rfl (sk_179 _) rfl rfl rfl ?_
    refine sL (pc' := 19) (i := .iload_n 1) rfl rfl ?_
    refine sAi (p := 20) (i := v) rfl rfl (sk_180 _) (by omega) ⟨by omega, by omega⟩ (hv.2.2.2.1 _ (by omega)) ?_
    refine sKi (p := 21) rfl rfl ?_
    refine sSb (p := 22) rfl rfl ?_
    refine sI2l (p := 23) rfl rfl ⟨by omega, by omega⟩ ?_
    refine sCs (p := 26) (as := [_, _, _]) rfl rfl rfl rfl (by decide) (Nat.le_of_ble_eq_true rfl) rfl (Nat.le_of_ble_eq_true rfl) rfl (by omega) (m_in (x := y) (y := 0) (z := (((sz v : Nat) : Int) - 1)) ⟨by omega, by omega⟩ ⟨by omega, by omega⟩ ⟨by omega, by omega⟩) ?_
    refine sBn (p := 29) rfl rfl (fun c2 => ?_) (fun c2 => ?_)
    · have c2 := c2
      have c2 := of_decide_eq_true c2
      obtain ⟨k, rfl⟩ : ∃ k : Nat, y = (k : Int) := ⟨y.toNat, by omega⟩
      refine sL (pc' := 33) (i := .aload_n 0) rfl rfl ?_
      refine sGc (p := 36) rfl rfl (sk_179 _) rfl rfl rfl ?_
      refine sKb (p := 38) rfl rfl ?_
      refine sL (pc' := 39) (i := .iload_n 1) rfl rfl ?_
      refine sMu (p := 40) rfl rfl ?_
      refine sL (pc' := 41) (i := .iload_n 2) rfl rfl ?_
      refine sAd (p := 42) rfl rfl ?_
      refine sAb (p := 43) (i := v * 6 + k) rfl rfl (sk_183 _) (Or.inl rfl) (by omega) ⟨by omega, by omega⟩ (hw (v * 6 + k) (by omega)).2.1 ?_
      refine sL (pc' := 45) (i := .istore 4) (ls' := [some (.ref 179), some (.int (iI ((v : Nat) : Int))), some (.int (iI ((k : Nat) : Int))), some (.int (iI (bI b))), some (.int (iI (bI (ro (v * 6 + k)))))]) rfl rfl ?_
      refine sL (pc' := 46) (i := .aload_n 0) rfl rfl ?_
      refine sGc (p := 49) rfl rfl (sk_179 _) rfl rfl rfl ?_
      refine sKb (p := 51) rfl rfl ?_
      refine sL (pc' := 52) (i := .iload_n 1) rfl rfl ?_
      refine sMu (p := 53) rfl rfl ?_
      refine sL (pc' := 54) (i := .iload_n 2) rfl rfl ?_
      refine sAd (p := 55) rfl rfl ?_
      refine sL (pc' := 56) (i := .iload_n 3) rfl rfl ?_
      refine sWz (p := 57) (i := v * 6 + k) rfl rfl (sk_183 _) (by omega) ⟨by omega, by omega⟩ ?_
      refine sL (pc' := 59) (i := .iload 4) rfl rfl ?_
      refine sL (pc' := 60) (i := .iload_n 3) rfl rfl ?_
      refine sIb_ne (p := 63) rfl rfl (fun c3 => ?_) (fun c3 => ?_)
      · have c3 := c3
        have hr := c3
        refine sKi (p := 68) rfl rfl ?_
        refine sEn (i := .ireturn) rfl (rfl) ?_
        refine ⟨congrArg (fun z => some (Value.int (iI z))) ?_, ?_⟩
        · unfold rRule
          rw [if_neg (by omega), if_neg (by omega)]
          show _ = bI (decide (ro (v * 6 + k) ≠ b))
          rw [decide_eq_true hr]
          rfl
        · rw [if_pos (by omega)]
          rfl
      · have c3 := c3
        have hr := c3
        refine sKi (p := 64) rfl rfl ?_
        refine sL (i := .goto 4) rfl rfl ?_
        refine sEn (i := .ireturn) rfl (rfl) ?_
        refine ⟨congrArg (fun z => some (Value.int (iI z))) ?_, ?_⟩
        · unfold rRule
          rw [if_neg (by omega), if_neg (by omega)]
          show _ = bI (decide (ro (v * 6 + k) ≠ b))
          rw [decide_eq_false (fun z => z hr)]
          rfl
        · rw [if_pos (by omega)]
          rfl
    · have c2 := c2
      have c2 := of_decide_eq_false c2
      refine sKb (p := 31) rfl rfl ?_
      refine sEn (i := .ireturn) rfl (rfl) ?_
      refine ⟨congrArg (fun z => some (Value.int (iI z))) ?_, ?_⟩
      · unfold rRule
        rw [if_neg (by omega), if_pos (by omega)]
      · rw [if_neg (by omega)]
  · have c1 := c1
    have c1 := of_decide_eq_false c1
    refine sKb (p := 10) rfl rfl ?_
    refine sEn (i := .ireturn) rfl (rfl) ?_
    refine ⟨congrArg (fun z => some (Value.int (iI z))) ?_, ?_⟩
    · unfold rRule
      rw [if_pos (by omega)]
    · rw [if_neg (by omega)]
end M2
