/-! ===== the class: more calls ===== -/
section CC
variable {X : List Int32} {S : ST} {n fn Z : Nat} {sz ord : Nat → Nat} {wt : Nat → Int} {ro : Nat → Bool} {Fn : Nat → Nat → Bool} {nm : Nat → Int64} {sd : Option (Nat → Bool)} {tr tn : Int} {up lo : Int64}
theorem k_Cond {x y u : Int} (h : CI S n sz wt ro fn Fn nm ord sd tr tn up lo Z) (hx : rg x) (hy : rg y) (hu : rg u) : sM X 16 129 [.ref 0, .int (iI x), .int (iI y), .int (iI u)] S (fnQ (okCond n sz fn x y u) (rCond n sz fn x y u) (fun S' => CI S' n sz wt ro fn Fn nm ord sd tr tn up lo Z) (fun S' => CI S' n sz wt ro (fn + 1) (lup Fn fn (cut (pr sz n) (fun r => Fn x.toNat (chg sz r y.toNat u.toNat)))) (nup nm fn (lI 0)) ord sd tr tn up lo Z) S) := by
  have hCI := h
  obtain ⟨hvC, hwC, ⟨wb, hgC⟩, ⟨hfn, hdr, h40, hF, hev, hnm, htb⟩, _, _, _, _, _⟩ := h
  have hn := hvC.1.1
  have hT0 := hvC.1.2.2
  have x1 := hx.1
  have x2 := hx.2
  have y1 := hy.1
  have y2 := hy.2
  have u1 := hu.1
  have u2 := hu.2
  refine sIni (ls := [some (.ref 0), some (.int (iI x)), some (.int (iI y)), some (.int (iI u))]) rfl ?_
  refine sL (pc' := 1) (i := .aload_n 0) rfl rfl ?_
  refine sGc (p := 4) rfl rfl (sk_0 _) rfl rfl rfl ?_
  refine sL (pc' := 5) (i := .iload_n 1) rfl rfl ?_
  refine sCv (p := 8) (as := [_]) rfl rfl rfl rfl (by decide) (Nat.le_of_ble_eq_true rfl) rfl (Nat.le_of_ble_eq_true rfl) (sk_7 _) rfl (by omega) (c_fhas hfn h40 hx) ?_
  refine sBe (p := 11) rfl rfl (fun c1 => ?_) (fun c1 => ?_)
  · have c1 := c1
    have c1 := of_decide_eq_false c1
    refine sKb (p := 24) rfl rfl ?_
    refine sEn (i := .ireturn) rfl (rfl) ?_
    refine ⟨congrArg (fun z => some (Value.int (iI z))) ?_, fun z => absurd z (by omega), fun _ => hCI, frX_refl _⟩
    unfold rCond
    rw [if_pos (by omega)]
  · have c1 := c1
    have c1 := of_decide_eq_true c1
    refine sL (pc' := 12) (i := .aload_n 0) rfl rfl ?_
    refine sGc (p := 15) rfl rfl (sk_0 _) rfl rfl rfl ?_
    refine sL (pc' := 16) (i := .iload_n 2) rfl rfl ?_
    refine sCv (p := 19) (as := [_]) rfl rfl rfl rfl (by decide) (Nat.le_of_ble_eq_true rfl) rfl (Nat.le_of_ble_eq_true rfl) (sk_1 _) rfl (by omega) (c_has hvC hy) ?_
    refine sBn (p := 22) rfl rfl (fun c2 => ?_) (fun c2 => ?_)
    · have c2 := c2
      have c2 := of_decide_eq_true c2
      obtain ⟨f0, rfl⟩ : ∃ f0 : Nat, x = (f0 : Int) := ⟨x.toNat, by omega⟩
      obtain ⟨v, rfl⟩ : ∃ v : Nat, y = (v : Int) := ⟨y.toNat, by omega⟩
      have hvv : v < n := by omega
      have hf0 : f0 < fn := by omega
      have hs := hvC.1.2.1 v hvv
      have hxe : sz (((v : Nat) : Int).toNat) = sz v := rfl
      refine sL (pc' := 26) (i := .aload_n 0) rfl rfl ?_
      refine sGc (p := 29) rfl rfl (sk_0 _) rfl rfl rfl ?_
      refine sL (pc' := 30) (i := .iload_n 2) rfl rfl ?_
      refine sL (pc' := 31) (i := .iload_n 3) rfl rfl ?_
      refine sCv (p := 34) (as := [_, _]) rfl rfl rfl rfl (by decide) (Nat.le_of_ble_eq_true rfl) rfl (Nat.le_of_ble_eq_true rfl) (sk_1 _) rfl (by omega) (c_hasValue hvC (x := ((v : Nat) : Int)) (y := u) ⟨by omega, by omega⟩ hu) ?_
      refine sBn (p := 37) rfl rfl (fun c3 => ?_) (fun c3 => ?_)
      · have c3 := c3
        have c3 := of_decide_eq_true c3
        obtain ⟨k, rfl⟩ : ∃ k : Nat, u = (k : Int) := ⟨u.toNat, by omega⟩
        refine sL (pc' := 41) (i := .aload_n 0) rfl rfl ?_
        refine sGc (p := 44) rfl rfl (sk_0 _) rfl rfl rfl ?_
        refine sCv (p := 47) (as := []) rfl rfl rfl rfl (by decide) (Nat.le_of_ble_eq_true rfl) rfl (Nat.le_of_ble_eq_true rfl) (sk_7 _) rfl (by omega) (c_isFull (dr := 0) hfn hdr (by omega)) ?_
        refine sBe (p := 50) rfl rfl (fun c4 => ?_) (fun c4 => ?_)
        · have c4 := c4
          have c4 := of_decide_eq_false c4
          refine sL (pc' := 54) (i := .aload_n 0) rfl rfl ?_
          refine sGc (p := 57) rfl rfl (sk_0 _) rfl rfl rfl ?_
          refine sL (pc' := 58) (i := .aload_n 0) rfl rfl ?_
          refine sGc (p := 61) rfl rfl (sk_0 _) rfl rfl rfl ?_
          refine sCv (p := 64) (as := []) rfl rfl rfl rfl (by decide) (Nat.le_of_ble_eq_true rfl) rfl (Nat.le_of_ble_eq_true rfl) (sk_7 _) rfl (by omega) (c_blank hfn (by omega)) ?_
          refine sL (pc' := 65) (i := .aload_n 0) rfl rfl ?_
          refine sGc (p := 68) rfl rfl (sk_0 _) rfl rfl rfl ?_
          refine sL (pc' := 69) (i := .iload_n 1) rfl rfl ?_
          refine sCv (p := 72) (as := [_]) rfl rfl rfl rfl (by decide) (Nat.le_of_ble_eq_true rfl) rfl (Nat.le_of_ble_eq_true rfl) (sk_7 _) rfl (by omega) (c_row (i := f0) (by omega)) ?_
          refine sL (pc' := 73) (i := .iload_n 2) rfl rfl ?_
          refine sL (pc' := 74) (i := .iload_n 3) rfl rfl ?_
          refine sCv (p := 77) (as := [_, _, _, _]) rfl rfl rfl rfl (by decide) (Nat.le_of_ble_eq_true rfl) rfl (Nat.le_of_ble_eq_true rfl) (sk_7 _) rfl (by omega) (c_markFixed (S := (wL (wRw S (9 + fn) 0 (fun _ => false)) 49 fn (lI 0))) hvC (sk_rows _ (by omega)) (sk_rows _ (by omega)) (by omega) (rowS_wL (by omega) (rowS_wRw _ _ _ _)) (bl_row (by omega) (by omega) (hF f0 hf0)) hvv (by omega)) ?_
          rw [mk_cut]
          refine sL (pc' := 78) (i := .aload_n 0) rfl rfl ?_
          refine sCvQ (p := 81) (as := []) rfl rfl rfl rfl (by decide) (Nat.le_of_ble_eq_true rfl) rfl (Nat.le_of_ble_eq_true rfl) (sk_0 _) rfl (by omega) (CI_adopt (g := cut (pr sz n) (fun r => Fn f0 (chg sz r v k))) hCI (by omega) (cut_tb _ _)) ?_
          rintro _ Sz ⟨rfl, hC1, hfX⟩
          refine sEn (i := .ireturn) rfl (rfl) ?_
          refine ⟨congrArg (fun z => some (Value.int (iI z))) ?_, fun _ => hC1, fun z => absurd (by omega) z, hfX⟩
          unfold rCond
          rw [if_neg (by omega), if_neg (by omega), if_neg (by omega)]
        · have c4 := c4
          have c4 := of_decide_eq_true c4
          refine sKb (p := 52) rfl rfl ?_
          refine sEn (i := .ireturn) rfl (rfl) ?_
          refine ⟨congrArg (fun z => some (Value.int (iI z))) ?_, fun z => absurd z (by omega), fun _ => hCI, frX_refl _⟩
          unfold rCond
          rw [if_neg (by omega), if_neg (by omega), if_pos (by omega)]
      · have c3 := c3
        have c3 := of_decide_eq_false c3
        refine sKb (p := 39) rfl rfl ?_
        refine sEn (i := .ireturn) rfl (rfl) ?_
        refine ⟨congrArg (fun z => some (Value.int (iI z))) ?_, fun z => absurd z (by omega), fun _ => hCI, frX_refl _⟩
        unfold rCond
        rw [if_neg (by omega), if_pos (by omega)]
    · have c2 := c2
      have c2 := of_decide_eq_false c2
      refine sKb (p := 24) rfl rfl ?_
      refine sEn (i := .ireturn) rfl (rfl) ?_
      refine ⟨congrArg (fun z => some (Value.int (iI z))) ?_, fun z => absurd z (by omega), fun _ => hCI, frX_refl _⟩
      unfold rCond
      rw [if_pos (by omega)]
theorem k_Quant {x y : Int} {all : Bool} (h : CI S n sz wt ro fn Fn nm ord sd tr tn up lo Z) (hx : rg x) (hy : rg y) : sM X 16 130 [.ref 0, .int (iI x), .int (iI y), .int (iI (bI all))] S (fnQ (okQuant n fn x y) (rQuant n fn x y) (fun S' => CI S' n sz wt ro fn Fn nm ord sd tr tn up lo Z) (fun S' => CI S' n sz wt ro (fn + 1) (lup Fn fn (cut (pr sz n) (qnt sz all (Fn x.toNat) y.toNat))) (nup nm fn (lI 0)) ord sd tr tn up lo Z) S) := by
  have hCI := h
  obtain ⟨hvC, hwC, ⟨wb, hgC⟩, ⟨hfn, hdr, h40, hF, hev, hnm, htb⟩, _, _, _, _, _⟩ := h
  have hn := hvC.1.1
  have hT0 := hvC.1.2.2
  have x1 := hx.1
  have x2 := hx.2
  have y1 := hy.1
  have y2 := hy.2
  refine sIni (ls := [some (.ref 0), some (.int (iI x)), some (.int (iI y)), some (.int (iI (bI all))), none]) rfl ?_
  refine sL (pc' := 1) (i := .aload_n 0) rfl rfl ?_
  refine sGc (p := 4) rfl rfl (sk_0 _) rfl rfl rfl ?_
  refine sL (pc' := 5) (i := .iload_n 1) rfl rfl ?_
  refine sCv (p := 8) (as := [_]) rfl rfl rfl rfl (by decide) (Nat.le_of_ble_eq_true rfl) rfl (Nat.le_of_ble_eq_true rfl) (sk_7 _) rfl (by omega) (c_fhas hfn h40 hx) ?_
  refine sBe (p := 11) rfl rfl (fun c1 => ?_) (fun c1 => ?_)
  · have c1 := c1
    have c1 := of_decide_eq_false c1
    refine sKb (p := 24) rfl rfl ?_
    refine sEn (i := .ireturn) rfl (rfl) ?_
    refine ⟨congrArg (fun z => some (Value.int (iI z))) ?_, fun z => absurd z (by omega), fun _ => hCI, frX_refl _⟩
    unfold rQuant
    rw [if_pos (by omega)]
  · have c1 := c1
    have c1 := of_decide_eq_true c1
    refine sL (pc' := 12) (i := .aload_n 0) rfl rfl ?_
    refine sGc (p := 15) rfl rfl (sk_0 _) rfl rfl rfl ?_
    refine sL (pc' := 16) (i := .iload_n 2) rfl rfl ?_
    refine sCv (p := 19) (as := [_]) rfl rfl rfl rfl (by decide) (Nat.le_of_ble_eq_true rfl) rfl (Nat.le_of_ble_eq_true rfl) (sk_1 _) rfl (by omega) (c_has hvC hy) ?_
    refine sBn (p := 22) rfl rfl (fun c2 => ?_) (fun c2 => ?_)
    · have c2 := c2
      have c2 := of_decide_eq_true c2
      obtain ⟨f0, rfl⟩ : ∃ f0 : Nat, x = (f0 : Int) := ⟨x.toNat, by omega⟩
      obtain ⟨v, rfl⟩ : ∃ v : Nat, y = (v : Int) := ⟨y.toNat, by omega⟩
      have hvv : v < n := by omega
      have hf0 : f0 < fn := by omega
      refine sL (pc' := 26) (i := .aload_n 0) rfl rfl ?_
      refine sGc (p := 29) rfl rfl (sk_0 _) rfl rfl rfl ?_
      refine sCv (p := 32) (as := []) rfl rfl rfl rfl (by decide) (Nat.le_of_ble_eq_true rfl) rfl (Nat.le_of_ble_eq_true rfl) (sk_7 _) rfl (by omega) (c_isFull (dr := 0) hfn hdr (by omega)) ?_
      refine sBe (p := 35) rfl rfl (fun c3 => ?_) (fun c3 => ?_)
      · have c3 := c3
        have c3 := of_decide_eq_false c3
        refine sL (pc' := 39) (i := .aload_n 0) rfl rfl ?_
        refine sGc (p := 42) rfl rfl (sk_0 _) rfl rfl rfl ?_
        refine sCv (p := 45) (as := []) rfl rfl rfl rfl (by decide) (Nat.le_of_ble_eq_true rfl) rfl (Nat.le_of_ble_eq_true rfl) (sk_7 _) rfl (by omega) (c_blank hfn (by omega)) ?_
        refine sL (pc' := 47) (i := .astore 4) (ls' := [some (.ref 0), some (.int (iI ((f0 : Nat) : Int))), some (.int (iI ((v : Nat) : Int))), some (.int (iI (bI all))), some (.ref (9 + fn))]) rfl rfl ?_
        refine sL (pc' := 48) (i := .aload_n 0) rfl rfl ?_
        refine sGc (p := 51) rfl rfl (sk_0 _) rfl rfl rfl ?_
        refine sL (pc' := 52) (i := .iload_n 1) rfl rfl ?_
        refine sCv (p := 55) (as := [_]) rfl rfl rfl rfl (by decide) (Nat.le_of_ble_eq_true rfl) rfl (Nat.le_of_ble_eq_true rfl) (sk_7 _) rfl (by omega) (c_row (i := f0) (by omega)) ?_
        refine sKi (p := 56) rfl rfl ?_
        refine sL (pc' := 58) (i := .aload 4) rfl rfl ?_
        refine sKi (p := 59) rfl rfl ?_
        refine sKb (p := 61) rfl rfl ?_
        refine sAcL (p := 64) (n := 16) (dp := 0) (sp := 0) rfl rfl (sk_rows _ (by omega)) (sk_rows _ (by omega)) rfl rfl rfl (by omega) (by omega) ⟨by omega, by omega⟩ (by decide) ?_
        rw [cpy_row (bl_row (by omega) (by omega) (hF f0 hf0))]
        refine sL (pc' := 65) (i := .aload_n 0) rfl rfl ?_
        refine sGc (p := 68) rfl rfl (sk_0 _) rfl rfl rfl ?_
        refine sL (pc' := 70) (i := .aload 4) rfl rfl ?_
        refine sL (pc' := 71) (i := .iload_n 2) rfl rfl ?_
        refine sL (pc' := 72) (i := .iload_n 3) rfl rfl ?_
        refine sCv (p := 75) (as := [_, _, _]) rfl rfl rfl rfl (by decide) (Nat.le_of_ble_eq_true rfl) rfl (Nat.le_of_ble_eq_true rfl) (sk_7 _) rfl (by omega) (c_bind (S := wRw (wL (wRw S (9 + fn) 0 (fun _ => false)) 49 fn (lI 0)) (9 + fn) 0 (Fn f0)) (v := v) hvC (sk_rows _ (by omega)) (rowS_wRw _ _ _ _) hvv) ?_
        rw [wRw_wRw, show (fun r => if r < pr sz n then qnt sz all (Fn f0) v r else Fn f0 r) = cut (pr sz n) (qnt sz all (Fn f0) v) from funext fun r => by show (if r < pr sz n then qnt sz all (Fn f0) v r else Fn f0 r) = (decide (r < pr sz n) && qnt sz all (Fn f0) v r); by_cases cr : r < pr sz n; (rw [if_pos cr, decide_eq_true cr]; rfl); (rw [if_neg cr, decide_eq_false cr, htb f0 hf0 r (by omega)]; rfl)]
        refine sL (pc' := 76) (i := .aload_n 0) rfl rfl ?_
        refine sCvQ (p := 79) (as := []) rfl rfl rfl rfl (by decide) (Nat.le_of_ble_eq_true rfl) rfl (Nat.le_of_ble_eq_true rfl) (sk_0 _) rfl (by omega) (CI_adopt (g := cut (pr sz n) (qnt sz all (Fn f0) v)) hCI (by omega) (cut_tb _ _)) ?_
        rintro _ Sz ⟨rfl, hC1, hfX⟩
        refine sEn (i := .ireturn) rfl (rfl) ?_
        refine ⟨congrArg (fun z => some (Value.int (iI z))) ?_, fun _ => hC1, fun z => absurd (by omega) z, hfX⟩
        unfold rQuant
        rw [if_neg (by omega), if_neg (by omega)]
      · have c3 := c3
        have c3 := of_decide_eq_true c3
        refine sKb (p := 37) rfl rfl ?_
        refine sEn (i := .ireturn) rfl (rfl) ?_
        refine ⟨congrArg (fun z => some (Value.int (iI z))) ?_, fun z => absurd z (by omega), fun _ => hCI, frX_refl _⟩
        unfold rQuant
        rw [if_neg (by omega), if_pos (by omega)]
    · have c2 := c2
      have c2 := of_decide_eq_false c2
      refine sKb (p := 24) rfl rfl ?_
      refine sEn (i := .ireturn) rfl (rfl) ?_
      refine ⟨congrArg (fun z => some (Value.int (iI z))) ?_, fun z => absurd z (by omega), fun _ => hCI, frX_refl _⟩
      unfold rQuant
      rw [if_pos (by omega)]
theorem k_Subst {x y u : Int} (h : CI S n sz wt ro fn Fn nm ord sd tr tn up lo Z) (hx : rg x) (hy : rg y) (hu : rg u) : sM X 16 131 [.ref 0, .int (iI x), .int (iI y), .int (iI u)] S (fnQ (okSubst n sz fn x y u) (rSubst n sz fn x y u) (fun S' => CI S' n sz wt ro fn Fn nm ord sd tr tn up lo Z) (fun S' => CI S' n sz wt ro (fn + 1) (lup Fn fn (cut (pr sz n) (fun r => Fn x.toNat (chg sz r y.toNat (if Fn u.toNat r then 1 else 0))))) (nup nm fn (lI 0)) ord sd tr tn up lo Z) S) := by
  have hCI := h
  obtain ⟨hvC, hwC, ⟨wb, hgC⟩, ⟨hfn, hdr, h40, hF, hev, hnm, htb⟩, _, _, _, _, _⟩ := h
  have hn := hvC.1.1
  have hT0 := hvC.1.2.2
  have x1 := hx.1
  have x2 := hx.2
  have y1 := hy.1
  have y2 := hy.2
  have u1 := hu.1
  have u2 := hu.2
  refine sIni (ls := [some (.ref 0), some (.int (iI x)), some (.int (iI y)), some (.int (iI u))]) rfl ?_
  refine sL (pc' := 1) (i := .aload_n 0) rfl rfl ?_
  refine sGc (p := 4) rfl rfl (sk_0 _) rfl rfl rfl ?_
  refine sL (pc' := 5) (i := .iload_n 1) rfl rfl ?_
  refine sCv (p := 8) (as := [_]) rfl rfl rfl rfl (by decide) (Nat.le_of_ble_eq_true rfl) rfl (Nat.le_of_ble_eq_true rfl) (sk_7 _) rfl (by omega) (c_fhas hfn h40 hx) ?_
  refine sBe (p := 11) rfl rfl (fun c1 => ?_) (fun c1 => ?_)
  · have c1 := c1
    have c1 := of_decide_eq_false c1
    refine sKb (p := 35) rfl rfl ?_
    refine sEn (i := .ireturn) rfl (rfl) ?_
    refine ⟨congrArg (fun z => some (Value.int (iI z))) ?_, fun z => absurd z (by omega), fun _ => hCI, frX_refl _⟩
    unfold rSubst
    rw [if_pos (by omega)]
  · have c1 := c1
    have c1 := of_decide_eq_true c1
    refine sL (pc' := 12) (i := .aload_n 0) rfl rfl ?_
    refine sGc (p := 15) rfl rfl (sk_0 _) rfl rfl rfl ?_
    refine sL (pc' := 16) (i := .iload_n 2) rfl rfl ?_
    refine sCv (p := 19) (as := [_]) rfl rfl rfl rfl (by decide) (Nat.le_of_ble_eq_true rfl) rfl (Nat.le_of_ble_eq_true rfl) (sk_1 _) rfl (by omega) (c_has hvC hy) ?_
    refine sBe (p := 22) rfl rfl (fun c2 => ?_) (fun c2 => ?_)
    · have c2 := c2
      have c2 := of_decide_eq_false c2
      refine sKb (p := 35) rfl rfl ?_
      refine sEn (i := .ireturn) rfl (rfl) ?_
      refine ⟨congrArg (fun z => some (Value.int (iI z))) ?_, fun z => absurd z (by omega), fun _ => hCI, frX_refl _⟩
      unfold rSubst
      rw [if_pos (by omega)]
    · have c2 := c2
      have c2 := of_decide_eq_true c2
      refine sL (pc' := 23) (i := .aload_n 0) rfl rfl ?_
      refine sGc (p := 26) rfl rfl (sk_0 _) rfl rfl rfl ?_
      refine sL (pc' := 27) (i := .iload_n 3) rfl rfl ?_
      refine sCv (p := 30) (as := [_]) rfl rfl rfl rfl (by decide) (Nat.le_of_ble_eq_true rfl) rfl (Nat.le_of_ble_eq_true rfl) (sk_7 _) rfl (by omega) (c_fhas hfn h40 hu) ?_
      refine sBn (p := 33) rfl rfl (fun c3 => ?_) (fun c3 => ?_)
      · have c3 := c3
        have c3 := of_decide_eq_true c3
        obtain ⟨f0, rfl⟩ : ∃ f0 : Nat, x = (f0 : Int) := ⟨x.toNat, by omega⟩
        obtain ⟨v, rfl⟩ : ∃ v : Nat, y = (v : Int) := ⟨y.toNat, by omega⟩
        obtain ⟨f1, rfl⟩ : ∃ f1 : Nat, u = (f1 : Int) := ⟨u.toNat, by omega⟩
        have hvv : v < n := by omega
        have hf0 : f0 < fn := by omega
        have hf1 : f1 < fn := by omega
        have hs := hvC.1.2.1 v hvv
        have hxe : sz (((v : Nat) : Int).toNat) = sz v := rfl
        refine sL (pc' := 37) (i := .aload_n 0) rfl rfl ?_
        refine sGc (p := 40) rfl rfl (sk_0 _) rfl rfl rfl ?_
        refine sL (pc' := 41) (i := .iload_n 2) rfl rfl ?_
        refine sCv (p := 44) (as := [_]) rfl rfl rfl rfl (by decide) (Nat.le_of_ble_eq_true rfl) rfl (Nat.le_of_ble_eq_true rfl) (sk_1 _) rfl (by omega) (c_siz (v := v) hvC hvv) ?_
        refine sKi (p := 45) rfl rfl ?_
        refine sIc_eq (p := 48) rfl rfl ⟨by omega, by omega⟩ ⟨by omega, by omega⟩ (fun c4 => ?_) (fun c4 => ?_)
        · have c4 := c4
          refine sL (pc' := 52) (i := .aload_n 0) rfl rfl ?_
          refine sGc (p := 55) rfl rfl (sk_0 _) rfl rfl rfl ?_
          refine sCv (p := 58) (as := []) rfl rfl rfl rfl (by decide) (Nat.le_of_ble_eq_true rfl) rfl (Nat.le_of_ble_eq_true rfl) (sk_7 _) rfl (by omega) (c_isFull (dr := 0) hfn hdr (by omega)) ?_
          refine sBe (p := 61) rfl rfl (fun c5 => ?_) (fun c5 => ?_)
          · have c5 := c5
            have c5 := of_decide_eq_false c5
            refine sL (pc' := 65) (i := .aload_n 0) rfl rfl ?_
            refine sGc (p := 68) rfl rfl (sk_0 _) rfl rfl rfl ?_
            refine sL (pc' := 69) (i := .aload_n 0) rfl rfl ?_
            refine sGc (p := 72) rfl rfl (sk_0 _) rfl rfl rfl ?_
            refine sCv (p := 75) (as := []) rfl rfl rfl rfl (by decide) (Nat.le_of_ble_eq_true rfl) rfl (Nat.le_of_ble_eq_true rfl) (sk_7 _) rfl (by omega) (c_blank hfn (by omega)) ?_
            refine sL (pc' := 76) (i := .aload_n 0) rfl rfl ?_
            refine sGc (p := 79) rfl rfl (sk_0 _) rfl rfl rfl ?_
            refine sL (pc' := 80) (i := .iload_n 1) rfl rfl ?_
            refine sCv (p := 83) (as := [_]) rfl rfl rfl rfl (by decide) (Nat.le_of_ble_eq_true rfl) rfl (Nat.le_of_ble_eq_true rfl) (sk_7 _) rfl (by omega) (c_row (i := f0) (by omega)) ?_
            refine sL (pc' := 84) (i := .iload_n 2) rfl rfl ?_
            refine sL (pc' := 85) (i := .aload_n 0) rfl rfl ?_
            refine sGc (p := 88) rfl rfl (sk_0 _) rfl rfl rfl ?_
            refine sL (pc' := 89) (i := .iload_n 3) rfl rfl ?_
            refine sCv (p := 92) (as := [_]) rfl rfl rfl rfl (by decide) (Nat.le_of_ble_eq_true rfl) rfl (Nat.le_of_ble_eq_true rfl) (sk_7 _) rfl (by omega) (c_row (i := f1) (by omega)) ?_
            refine sCv (p := 95) (as := [_, _, _, _]) rfl rfl rfl rfl (by decide) (Nat.le_of_ble_eq_true rfl) rfl (Nat.le_of_ble_eq_true rfl) (sk_7 _) rfl (by omega) (c_markReplaced (S := (wL (wRw S (9 + fn) 0 (fun _ => false)) 49 fn (lI 0))) hvC (sk_rows _ (by omega)) (sk_rows _ (by omega)) (sk_rows _ (by omega)) (by omega) (by omega) (rowS_wL (by omega) (rowS_wRw _ _ _ _)) (bl_row (by omega) (by omega) (hF f0 hf0)) (bl_row (by omega) (by omega) (hF f1 hf1)) hvv (by omega)) ?_
            rw [mk_cut]
            refine sL (pc' := 96) (i := .aload_n 0) rfl rfl ?_
            refine sCvQ (p := 99) (as := []) rfl rfl rfl rfl (by decide) (Nat.le_of_ble_eq_true rfl) rfl (Nat.le_of_ble_eq_true rfl) (sk_0 _) rfl (by omega) (CI_adopt (g := cut (pr sz n) (fun r => Fn f0 (chg sz r v (if Fn f1 r then 1 else 0)))) hCI (by omega) (cut_tb _ _)) ?_
            rintro _ Sz ⟨rfl, hC1, hfX⟩
            refine sEn (i := .ireturn) rfl (rfl) ?_
            refine ⟨congrArg (fun z => some (Value.int (iI z))) ?_, fun _ => hC1, fun z => absurd (by omega) z, hfX⟩
            unfold rSubst
            rw [if_neg (by omega), if_neg (by omega), if_neg (by omega)]
          · have c5 := c5
            have c5 := of_decide_eq_true c5
            refine sKb (p := 63) rfl rfl ?_
            refine sEn (i := .ireturn) rfl (rfl) ?_
            refine ⟨congrArg (fun z => some (Value.int (iI z))) ?_, fun z => absurd z (by omega), fun _ => hCI, frX_refl _⟩
            unfold rSubst
            rw [if_neg (by omega), if_neg (by omega), if_pos (by omega)]
        · have c4 := c4
          refine sKb (p := 50) rfl rfl ?_
          refine sEn (i := .ireturn) rfl (rfl) ?_
          refine ⟨congrArg (fun z => some (Value.int (iI z))) ?_, fun z => absurd z (by omega), fun _ => hCI, frX_refl _⟩
          unfold rSubst
          rw [if_neg (by omega), if_pos (by omega)]
      · have c3 := c3
        have c3 := of_decide_eq_false c3
        refine sKb (p := 35) rfl rfl ?_
        refine sEn (i := .ireturn) rfl (rfl) ?_
        refine ⟨congrArg (fun z => some (Value.int (iI z))) ?_, fun z => absurd z (by omega), fun _ => hCI, frX_refl _⟩
        unfold rSubst
        rw [if_pos (by omega)]
theorem k_Exch {x y u : Int} (h : CI S n sz wt ro fn Fn nm ord sd tr tn up lo Z) (hx : rg x) (hy : rg y) (hu : rg u) : sM X 16 132 [.ref 0, .int (iI x), .int (iI y), .int (iI u)] S (fnQ (okExch n sz fn x y u) (rExch n sz fn x y u) (fun S' => CI S' n sz wt ro fn Fn nm ord sd tr tn up lo Z) (fun S' => CI S' n sz wt ro (fn + 1) (lup Fn fn (cut (pr sz n) (fun r => Fn x.toNat (xch sz r y.toNat u.toNat)))) (nup nm fn (lI 0)) ord sd tr tn up lo Z) S) := by
  have hCI := h
  obtain ⟨hvC, hwC, ⟨wb, hgC⟩, ⟨hfn, hdr, h40, hF, hev, hnm, htb⟩, _, _, _, _, _⟩ := h
  have hn := hvC.1.1
  have hT0 := hvC.1.2.2
  have x1 := hx.1
  have x2 := hx.2
  have y1 := hy.1
  have y2 := hy.2
  have u1 := hu.1
  have u2 := hu.2
  refine sIni (ls := [some (.ref 0), some (.int (iI x)), some (.int (iI y)), some (.int (iI u))]) rfl ?_
  refine sL (pc' := 1) (i := .aload_n 0) rfl rfl ?_
  refine sGc (p := 4) rfl rfl (sk_0 _) rfl rfl rfl ?_
  refine sL (pc' := 5) (i := .iload_n 1) rfl rfl ?_
  refine sCv (p := 8) (as := [_]) rfl rfl rfl rfl (by decide) (Nat.le_of_ble_eq_true rfl) rfl (Nat.le_of_ble_eq_true rfl) (sk_7 _) rfl (by omega) (c_fhas hfn h40 hx) ?_
  refine sBe (p := 11) rfl rfl (fun c1 => ?_) (fun c1 => ?_)
  · have c1 := c1
    have c1 := of_decide_eq_false c1
    refine sKb (p := 35) rfl rfl ?_
    refine sEn (i := .ireturn) rfl (rfl) ?_
    refine ⟨congrArg (fun z => some (Value.int (iI z))) ?_, fun z => absurd z (by omega), fun _ => hCI, frX_refl _⟩
    unfold rExch
    rw [if_pos (by omega)]
  · have c1 := c1
    have c1 := of_decide_eq_true c1
    refine sL (pc' := 12) (i := .aload_n 0) rfl rfl ?_
    refine sGc (p := 15) rfl rfl (sk_0 _) rfl rfl rfl ?_
    refine sL (pc' := 16) (i := .iload_n 2) rfl rfl ?_
    refine sCv (p := 19) (as := [_]) rfl rfl rfl rfl (by decide) (Nat.le_of_ble_eq_true rfl) rfl (Nat.le_of_ble_eq_true rfl) (sk_1 _) rfl (by omega) (c_has hvC hy) ?_
    refine sBe (p := 22) rfl rfl (fun c2 => ?_) (fun c2 => ?_)
    · have c2 := c2
      have c2 := of_decide_eq_false c2
      refine sKb (p := 35) rfl rfl ?_
      refine sEn (i := .ireturn) rfl (rfl) ?_
      refine ⟨congrArg (fun z => some (Value.int (iI z))) ?_, fun z => absurd z (by omega), fun _ => hCI, frX_refl _⟩
      unfold rExch
      rw [if_pos (by omega)]
    · have c2 := c2
      have c2 := of_decide_eq_true c2
      refine sL (pc' := 23) (i := .aload_n 0) rfl rfl ?_
      refine sGc (p := 26) rfl rfl (sk_0 _) rfl rfl rfl ?_
      refine sL (pc' := 27) (i := .iload_n 3) rfl rfl ?_
      refine sCv (p := 30) (as := [_]) rfl rfl rfl rfl (by decide) (Nat.le_of_ble_eq_true rfl) rfl (Nat.le_of_ble_eq_true rfl) (sk_1 _) rfl (by omega) (c_has hvC hu) ?_
      refine sBn (p := 33) rfl rfl (fun c3 => ?_) (fun c3 => ?_)
      · have c3 := c3
        have c3 := of_decide_eq_true c3
        obtain ⟨f0, rfl⟩ : ∃ f0 : Nat, x = (f0 : Int) := ⟨x.toNat, by omega⟩
        obtain ⟨v, rfl⟩ : ∃ v : Nat, y = (v : Int) := ⟨y.toNat, by omega⟩
        obtain ⟨k, rfl⟩ : ∃ k : Nat, u = (k : Int) := ⟨u.toNat, by omega⟩
        have hvv : v < n := by omega
        have hkk : k < n := by omega
        have hf0 : f0 < fn := by omega
        have hsv := hvC.1.2.1 v hvv
        have hsk := hvC.1.2.1 k hkk
        have hxe : sz (((v : Nat) : Int).toNat) = sz v := rfl
        have hke : sz (((k : Nat) : Int).toNat) = sz k := rfl
        refine sL (pc' := 37) (i := .aload_n 0) rfl rfl ?_
        refine sGc (p := 40) rfl rfl (sk_0 _) rfl rfl rfl ?_
        refine sL (pc' := 41) (i := .iload_n 2) rfl rfl ?_
        refine sCv (p := 44) (as := [_]) rfl rfl rfl rfl (by decide) (Nat.le_of_ble_eq_true rfl) rfl (Nat.le_of_ble_eq_true rfl) (sk_1 _) rfl (by omega) (c_siz (v := v) hvC hvv) ?_
        refine sL (pc' := 45) (i := .aload_n 0) rfl rfl ?_
        refine sGc (p := 48) rfl rfl (sk_0 _) rfl rfl rfl ?_
        refine sL (pc' := 49) (i := .iload_n 3) rfl rfl ?_
        refine sCv (p := 52) (as := [_]) rfl rfl rfl rfl (by decide) (Nat.le_of_ble_eq_true rfl) rfl (Nat.le_of_ble_eq_true rfl) (sk_1 _) rfl (by omega) (c_siz (v := k) hvC hkk) ?_
        refine sIc_eq (p := 55) rfl rfl ⟨by omega, by omega⟩ ⟨by omega, by omega⟩ (fun c4 => ?_) (fun c4 => ?_)
        · have c4 := c4
          refine sL (pc' := 59) (i := .aload_n 0) rfl rfl ?_
          refine sGc (p := 62) rfl rfl (sk_0 _) rfl rfl rfl ?_
          refine sCv (p := 65) (as := []) rfl rfl rfl rfl (by decide) (Nat.le_of_ble_eq_true rfl) rfl (Nat.le_of_ble_eq_true rfl) (sk_7 _) rfl (by omega) (c_isFull (dr := 0) hfn hdr (by omega)) ?_
          refine sBe (p := 68) rfl rfl (fun c5 => ?_) (fun c5 => ?_)
          · have c5 := c5
            have c5 := of_decide_eq_false c5
            refine sL (pc' := 72) (i := .aload_n 0) rfl rfl ?_
            refine sGc (p := 75) rfl rfl (sk_0 _) rfl rfl rfl ?_
            refine sL (pc' := 76) (i := .aload_n 0) rfl rfl ?_
            refine sGc (p := 79) rfl rfl (sk_0 _) rfl rfl rfl ?_
            refine sCv (p := 82) (as := []) rfl rfl rfl rfl (by decide) (Nat.le_of_ble_eq_true rfl) rfl (Nat.le_of_ble_eq_true rfl) (sk_7 _) rfl (by omega) (c_blank hfn (by omega)) ?_
            refine sL (pc' := 83) (i := .aload_n 0) rfl rfl ?_
            refine sGc (p := 86) rfl rfl (sk_0 _) rfl rfl rfl ?_
            refine sL (pc' := 87) (i := .iload_n 1) rfl rfl ?_
            refine sCv (p := 90) (as := [_]) rfl rfl rfl rfl (by decide) (Nat.le_of_ble_eq_true rfl) rfl (Nat.le_of_ble_eq_true rfl) (sk_7 _) rfl (by omega) (c_row (i := f0) (by omega)) ?_
            refine sL (pc' := 91) (i := .iload_n 2) rfl rfl ?_
            refine sL (pc' := 92) (i := .iload_n 3) rfl rfl ?_
            refine sCv (p := 95) (as := [_, _, _, _]) rfl rfl rfl rfl (by decide) (Nat.le_of_ble_eq_true rfl) rfl (Nat.le_of_ble_eq_true rfl) (sk_7 _) rfl (by omega) (c_markExchanged (S := (wL (wRw S (9 + fn) 0 (fun _ => false)) 49 fn (lI 0))) hvC (sk_rows _ (by omega)) (sk_rows _ (by omega)) (by omega) (rowS_wL (by omega) (rowS_wRw _ _ _ _)) (bl_row (by omega) (by omega) (hF f0 hf0)) hvv hkk (by omega)) ?_
            rw [mk_cut]
            refine sL (pc' := 96) (i := .aload_n 0) rfl rfl ?_
            refine sCvQ (p := 99) (as := []) rfl rfl rfl rfl (by decide) (Nat.le_of_ble_eq_true rfl) rfl (Nat.le_of_ble_eq_true rfl) (sk_0 _) rfl (by omega) (CI_adopt (g := cut (pr sz n) (fun r => Fn f0 (xch sz r v k))) hCI (by omega) (cut_tb _ _)) ?_
            rintro _ Sz ⟨rfl, hC1, hfX⟩
            refine sEn (i := .ireturn) rfl (rfl) ?_
            refine ⟨congrArg (fun z => some (Value.int (iI z))) ?_, fun _ => hC1, fun z => absurd (by omega) z, hfX⟩
            unfold rExch
            rw [if_neg (by omega), if_neg (by omega), if_neg (by omega)]
          · have c5 := c5
            have c5 := of_decide_eq_true c5
            refine sKb (p := 70) rfl rfl ?_
            refine sEn (i := .ireturn) rfl (rfl) ?_
            refine ⟨congrArg (fun z => some (Value.int (iI z))) ?_, fun z => absurd z (by omega), fun _ => hCI, frX_refl _⟩
            unfold rExch
            rw [if_neg (by omega), if_neg (by omega), if_pos (by omega)]
        · have c4 := c4
          refine sKb (p := 57) rfl rfl ?_
          refine sEn (i := .ireturn) rfl (rfl) ?_
          refine ⟨congrArg (fun z => some (Value.int (iI z))) ?_, fun z => absurd z (by omega), fun _ => hCI, frX_refl _⟩
          unfold rExch
          rw [if_neg (by omega), if_pos (by omega)]
      · have c3 := c3
        have c3 := of_decide_eq_false c3
        refine sKb (p := 35) rfl rfl ?_
        refine sEn (i := .ireturn) rfl (rfl) ?_
        refine ⟨congrArg (fun z => some (Value.int (iI z))) ?_, fun z => absurd z (by omega), fun _ => hCI, frX_refl _⟩
        unfold rExch
        rw [if_pos (by omega)]
theorem k_Many {x y : Int} (h : CI S n sz wt ro fn Fn nm ord sd tr tn up lo Z) (hx : rg x) (hy : rg y) : sM X 16 125 [.ref 0, .int (iI x), .int (iI y)] S (fnQ (okMany n sz fn x) (rMany n sz fn x) (fun S' => CI S' n sz wt ro fn Fn nm ord sd tr tn up lo Z) (fun S' => CI S' n sz wt ro (fn + 1) (lup Fn fn (cut (pr sz n) (manP n sz x y))) (nup nm fn (lI 0)) ord sd tr tn up lo Z) S) := by
  have hCI := h
  obtain ⟨hvC, hwC, ⟨wb, hgC⟩, ⟨hfn, hdr, h40, hF, hev, hnm, htb⟩, _, _, _, _, _⟩ := h
  have hn := hvC.1.1
  have hT0 := hvC.1.2.2
  have x1 := hx.1
  have x2 := hx.2
  have y1 := hy.1
  have y2 := hy.2
  refine sIni (ls := [some (.ref 0), some (.int (iI x)), some (.int (iI y))]) rfl ?_
  refine sL (pc' := 1) (i := .aload_n 0) rfl rfl ?_
  refine sGc (p := 4) rfl rfl (sk_0 _) rfl rfl rfl ?_
  refine sL (pc' := 5) (i := .iload_n 1) rfl rfl ?_
  refine sCv (p := 8) (as := [_]) rfl rfl rfl rfl (by decide) (Nat.le_of_ble_eq_true rfl) rfl (Nat.le_of_ble_eq_true rfl) (sk_1 _) rfl (by omega) (c_areTruths hvC hx) ?_
  refine sBn (p := 11) rfl rfl (fun c1 => ?_) (fun c1 => ?_)
  · have c1 := c1
    have htr := c1
    refine sL (pc' := 15) (i := .aload_n 0) rfl rfl ?_
    refine sGc (p := 18) rfl rfl (sk_0 _) rfl rfl rfl ?_
    refine sCv (p := 21) (as := []) rfl rfl rfl rfl (by decide) (Nat.le_of_ble_eq_true rfl) rfl (Nat.le_of_ble_eq_true rfl) (sk_7 _) rfl (by omega) (c_isFull (dr := 0) hfn hdr (by omega)) ?_
    refine sBe (p := 24) rfl rfl (fun c2 => ?_) (fun c2 => ?_)
    · have c2 := c2
      have c2 := of_decide_eq_false c2
      refine sL (pc' := 28) (i := .aload_n 0) rfl rfl ?_
      refine sGc (p := 31) rfl rfl (sk_0 _) rfl rfl rfl ?_
      refine sL (pc' := 32) (i := .aload_n 0) rfl rfl ?_
      refine sGc (p := 35) rfl rfl (sk_0 _) rfl rfl rfl ?_
      refine sCv (p := 38) (as := []) rfl rfl rfl rfl (by decide) (Nat.le_of_ble_eq_true rfl) rfl (Nat.le_of_ble_eq_true rfl) (sk_7 _) rfl (by omega) (c_blank hfn (by omega)) ?_
      refine sL (pc' := 39) (i := .iload_n 1) rfl rfl ?_
      refine sL (pc' := 40) (i := .iload_n 2) rfl rfl ?_
      refine sCv (p := 43) (as := [_, _, _]) rfl rfl rfl rfl (by decide) (Nat.le_of_ble_eq_true rfl) rfl (Nat.le_of_ble_eq_true rfl) (sk_7 _) rfl (by omega) (c_markCounted (S := (wL (wRw S (9 + fn) 0 (fun _ => false)) 49 fn (lI 0))) hvC (sk_rows _ (by omega)) (rowS_wL (by omega) (rowS_wRw _ _ _ _)) hx hy) ?_
      rw [mk_cut]
      refine sL (pc' := 44) (i := .aload_n 0) rfl rfl ?_
      refine sCvQ (p := 47) (as := []) rfl rfl rfl rfl (by decide) (Nat.le_of_ble_eq_true rfl) rfl (Nat.le_of_ble_eq_true rfl) (sk_0 _) rfl (by omega) (CI_adopt (g := cut (pr sz n) (manP n sz x y)) hCI (by omega) (cut_tb _ _)) ?_
      rintro _ Sz ⟨rfl, hC1, hfX⟩
      refine sEn (i := .ireturn) rfl (rfl) ?_
      refine ⟨congrArg (fun z => some (Value.int (iI z))) ?_, fun _ => hC1, fun z => absurd (⟨htr, by omega⟩ : _ ∧ _) z, hfX⟩
      unfold rMany
      rw [if_neg (fun z => z htr), if_neg (by omega)]
    · have c2 := c2
      have c2 := of_decide_eq_true c2
      refine sKb (p := 26) rfl rfl ?_
      refine sEn (i := .ireturn) rfl (rfl) ?_
      refine ⟨congrArg (fun z => some (Value.int (iI z))) ?_, fun z => absurd z.2 (by omega), fun _ => hCI, frX_refl _⟩
      unfold rMany
      rw [if_neg (fun z => z htr), if_pos (by omega)]
  · have c1 := c1
    have htr := c1
    refine sKb (p := 13) rfl rfl ?_
    refine sEn (i := .ireturn) rfl (rfl) ?_
    refine ⟨congrArg (fun z => some (Value.int (iI z))) ?_, fun z => absurd z.1 (by rw [htr]; decide), fun _ => hCI, frX_refl _⟩
    unfold rMany
    rw [if_pos (by rw [htr]; decide)]
/-- a change of weights, of the run told, of odds: diagram and rows do not see it -/
theorem CI_upd {S' : ST} {wt' : Nat → Int} {ro' : Nat → Bool} (h : CI S n sz wt ro fn Fn nm ord sd tr tn up lo Z) (h1 : S'.1 = S.1) (hR : SR S' = SR S) (hI : ∀ c, c ≠ 0 → c ≠ 1 → c ≠ 4 → c ≠ 5 → SI S' c = SI S c) (h16 : SI S' 1 6 = SI S 1 6) (h17 : SI S' 1 7 = SI S 1 7) (h06 : SI S' 0 6 = SI S 0 6) (hL : ∀ c, c ≠ 0 → c ≠ 6 → SL S' c = SL S c) (hw : wC S' wt' ro') (hg : ∃ wb, gC S' n sz wt' ro' wb) : CI S' n sz wt' ro' fn Fn nm ord sd (SI S' 0 7) (SI S' 0 8) (SL S' 0 9) (SL S' 0 10) Z := by
  obtain ⟨⟨v1, v2, v3, v4, v5⟩, _, _, ⟨f1, f2, f3, f4, f5, f6, f7⟩, ⟨b, R, pl, D, U, rt, ⟨⟨hG, hc, hu, hO, ho⟩, hrest⟩, hro, hsd, hz1, hz2⟩, t1, t2, t3, t4⟩ := h
  have hb := hG.1.1
  refine ⟨⟨v1, h16.trans v2, h17.trans v3, ?_, ?_⟩, hw, hg, ⟨?_, ?_, f3, fun i hi k hk => ?_, fun k hk => ?_, fun i hi => ?_, f7⟩, ⟨b, R, pl, D, U, rt, ⟨⟨dG_cg (S := S) h1 hR (hI _ (by omega) (by omega) (by omega) (by omega)) (hI _ (by omega) (by omega) (by omega) (by omega)) (hI _ (by omega) (by omega) (by omega) (by omega)) (hI _ (by omega) (by omega) (by omega) (by omega)) (hI _ (by omega) (by omega) (by omega) (by omega)) (hI _ (by omega) (by omega) (by omega) (by omega)) (hI _ (by omega) (by omega) (by omega) (by omega)) hG, hc, hu, ?_, ho⟩, hrest⟩, ?_, ?_, ?_, ?_⟩, rfl, rfl, rfl, rfl⟩
  · rw [hI 2 (by omega) (by omega) (by omega) (by omega)]
    exact v4
  · rw [hI 3 (by omega) (by omega) (by omega) (by omega)]
    exact v5
  · rw [hI 7 (by omega) (by omega) (by omega) (by omega)]
    exact f1
  · rw [hI 7 (by omega) (by omega) (by omega) (by omega)]
    exact f2
  · rw [hL (9 + i) (by omega) (by omega)]
    exact f4 i hi k hk
  · rw [hL 51 (by omega) (by omega)]
    exact f5 k hk
  · rw [hL 49 (by omega) (by omega)]
    exact f6 i hi
  · unfold oC at *
    rw [hI 53 (by omega) (by omega) (by omega) (by omega), hI 54 (by omega) (by omega) (by omega) (by omega)]
    exact hO
  · rw [hI 50 (by omega) (by omega) (by omega) (by omega)]
    exact hro
  · unfold cSd at *
    rw [h06]
    exact hsd
  · unfold tz at *
    rw [h1]
    exact hz1
  · rw [h1]
    exact hz2
theorem frX_upd {S' : ST} (h1 : S'.1 = S.1) (hR : SR S' = SR S) (hI : ∀ c, c ≠ 0 → c ≠ 1 → c ≠ 4 → c ≠ 5 → SI S' c = SI S c) (hL : ∀ c, c ≠ 0 → c ≠ 6 → SL S' c = SL S c) : frX S S' := ⟨⟨[], by rw [h1, List.append_nil]⟩, fun c h2 h3 => ⟨hI c (by omega) (by omega) (by omega) (by omega), hL c (by omega) (by omega), by rw [hR]⟩, fun c m hc => hI c (fun z => by rw [z, sk_0] at hc; cases hc) (fun z => by rw [z, sk_1] at hc; cases hc) (fun z => by rw [z, sk_4] at hc; cases hc) (fun z => by rw [z, sk_5] at hc; cases hc)⟩
def iup (f : Nat → Int) (k : Nat) (x : Int) : Nat → Int := fun i => if i = k then x else f i
def bup (f : Nat → Bool) (k : Nat) (x : Bool) : Nat → Bool := fun i => if i = k then x else f i
theorem k_Weight {x y u : Int} (h : CI S n sz wt ro fn Fn nm ord sd tr tn up lo Z) (hx : rg x) (hy : rg y) (hu : rg u) : sM X 16 121 [.ref 0, .int (iI x), .int (iI y), .int (iI u)] S (fnQ (okWeight n sz wt x y u) (rWeight n sz wt x y u) (fun S' => CI S' n sz wt ro fn Fn nm ord sd tr tn up lo Z) (fun S' => CI S' n sz (iup wt (x.toNat * 6 + y.toNat) u) ro fn Fn nm ord sd tr tn up lo Z) S) := by
  have hCI := h
  obtain ⟨hvC, hwC, ⟨wb, hgC⟩, ⟨hfn, hdr, h40, hF, hev, hnm, htb⟩, _, _, _, _, _⟩ := h
  have hn := hvC.1.1
  have hT0 := hvC.1.2.2
  have x1 := hx.1
  have x2 := hx.2
  have y1 := hy.1
  have y2 := hy.2
  have u1 := hu.1
  have u2 := hu.2
  refine sIni (ls := [some (.ref 0), some (.int (iI x)), some (.int (iI y)), some (.int (iI u))]) rfl ?_
  refine sL (pc' := 1) (i := .aload_n 0) rfl rfl ?_
  refine sGc (p := 4) rfl rfl (sk_0 _) rfl rfl rfl ?_
  refine sL (pc' := 5) (i := .iload_n 1) rfl rfl ?_
  refine sCv (p := 8) (as := [_]) rfl rfl rfl rfl (by decide) (Nat.le_of_ble_eq_true rfl) rfl (Nat.le_of_ble_eq_true rfl) (sk_1 _) rfl (by omega) (c_has hvC hx) ?_
  refine sBn (p := 11) rfl rfl (fun c1 => ?_) (fun c1 => ?_)
  · have c1 := c1
    have c1 := of_decide_eq_true c1
    obtain ⟨v, rfl⟩ : ∃ v : Nat, x = (v : Int) := ⟨x.toNat, by omega⟩
    have hxe : sz (((v : Nat) : Int).toNat) = sz v := rfl
    have hvv : v < n := by omega
    have hs := hvC.1.2.1 v hvv
    refine sL (pc' := 15) (i := .aload_n 0) rfl rfl ?_
    refine sGc (p := 18) rfl rfl (sk_0 _) rfl rfl rfl ?_
    refine sL (pc' := 19) (i := .iload_n 1) rfl rfl ?_
    refine sL (pc' := 20) (i := .iload_n 2) rfl rfl ?_
    refine sCv (p := 23) (as := [_, _]) rfl rfl rfl rfl (by decide) (Nat.le_of_ble_eq_true rfl) rfl (Nat.le_of_ble_eq_true rfl) (sk_1 _) rfl (by omega) (c_hasValue hvC (x := ((v : Nat) : Int)) (y := y) ⟨by omega, by omega⟩ hy) ?_
    refine sBe (p := 26) rfl rfl (fun c2 => ?_) (fun c2 => ?_)
    · have c2 := c2
      have c2 := of_decide_eq_false c2
      refine sKb (p := 38) rfl rfl ?_
      refine sEn (i := .ireturn) rfl (rfl) ?_
      refine ⟨congrArg (fun z => some (Value.int (iI z))) ?_, fun z => absurd z (by omega), fun _ => hCI, frX_refl _⟩
      unfold rWeight
      rw [if_neg (by omega), if_pos (by omega)]
    · have c2 := c2
      have c2 := of_decide_eq_true c2
      obtain ⟨k, rfl⟩ : ∃ k : Nat, y = (k : Int) := ⟨y.toNat, by omega⟩
      refine sL (pc' := 27) (i := .iload_n 3) rfl rfl ?_
      refine sIf_lt (p := 30) rfl rfl ⟨by omega, by omega⟩ (fun c3 => ?_) (fun c3 => ?_)
      · have c3 := c3
        refine sKb (p := 38) rfl rfl ?_
        refine sEn (i := .ireturn) rfl (rfl) ?_
        refine ⟨congrArg (fun z => some (Value.int (iI z))) ?_, fun z => absurd z (by omega), fun _ => hCI, frX_refl _⟩
        unfold rWeight
        rw [if_neg (by omega), if_pos (by omega)]
      · have c3 := c3
        refine sL (pc' := 31) (i := .iload_n 3) rfl rfl ?_
        refine sKb (p := 33) rfl rfl ?_
        refine sIc_le (p := 36) rfl rfl ⟨by omega, by omega⟩ ⟨by omega, by omega⟩ (fun c4 => ?_) (fun c4 => ?_)
        · have c4 := c4
          obtain ⟨w, rfl⟩ : ∃ w : Nat, u = (w : Int) := ⟨u.toNat, by omega⟩
          refine sL (pc' := 40) (i := .aload_n 0) rfl rfl ?_
          refine sGc (p := 43) rfl rfl (sk_0 _) rfl rfl rfl ?_
          refine sL (pc' := 44) (i := .iload_n 1) rfl rfl ?_
          refine sL (pc' := 45) (i := .iload_n 2) rfl rfl ?_
          refine sL (pc' := 46) (i := .iload_n 3) rfl rfl ?_
          refine sCv (p := 49) (as := [_, _, _]) rfl rfl rfl rfl (by decide) (Nat.le_of_ble_eq_true rfl) rfl (Nat.le_of_ble_eq_true rfl) (sk_1 _) rfl (by omega) (c_setWeight (x := w) hvC hwC hvv (by omega)) ?_
          refine sEn (i := .ireturn) rfl (rfl) ?_
          have hI9 : ∀ c, c ≠ 0 → c ≠ 1 → c ≠ 4 → c ≠ 5 → SI (wI (wI S 4 (v * 6 + k) ((w : Nat) : Int)) 1 5 (bI false)) c = SI S c := fun c _ h1 h4 _ => (u2_ne h1).trans (u2_ne h4)
          refine ⟨congrArg (fun z => some (Value.int (iI z))) ?_, fun _ => ?_, fun z => absurd (show okWeight n sz wt ((v : Nat) : Int) ((k : Nat) : Int) ((w : Nat) : Int) by omega) z, frX_upd rfl rfl hI9 (fun _ _ _ => rfl)⟩
          · unfold rWeight
            rw [if_neg (by omega), if_neg (by omega)]
            rfl
          · have hw1 : wC (wI (wI S 4 (v * 6 + k) ((w : Nat) : Int)) 1 5 (bI false)) (iup wt (v * 6 + k) ((w : Nat) : Int)) ro := fun i hi => by
              have h9 := hwC i hi
              rw [show SI (wI (wI S 4 (v * 6 + k) ((w : Nat) : Int)) 1 5 (bI false)) 4 i = SI (wI S 4 (v * 6 + k) ((w : Nat) : Int)) 4 i from rI_ne (by decide) _, show SI (wI (wI S 4 (v * 6 + k) ((w : Nat) : Int)) 1 5 (bI false)) 5 i = SI S 5 i from (rI_ne (by decide) _).trans (rI_ne (by decide) _)]
              unfold iup
              by_cases ci : i = v * 6 + k
              · rw [ci, rI_at, if_pos rfl, ← ci]
                exact ⟨rfl, h9.2.1, by omega, by omega⟩
              · rw [rI_nj ci, if_neg ci]
                exact h9
            have hC9 := CI_upd (S' := (wI (wI S 4 (v * 6 + k) ((w : Nat) : Int)) 1 5 (bI false))) hCI rfl rfl hI9 ((rI_nj (by decide)).trans (rI_ne (by decide) _)) ((rI_nj (by decide)).trans (rI_ne (by decide) _)) ((rI_ne (by decide) _).trans (rI_ne (by decide) _)) (fun _ _ _ => rfl) hw1 ⟨false, rI_at, fun z => absurd z (by decide)⟩
            obtain ⟨_, _, _, _, _, t1, t2, t3, t4⟩ := hCI
            rw [rI_ne (by decide), rI_ne (by decide), rI_ne (by decide), rI_ne (by decide), t1, t2] at hC9
            rw [show SL (wI (wI S 4 (v * 6 + k) ((w : Nat) : Int)) 1 5 (bI false)) = SL S from rfl, t3, t4] at hC9
            exact hC9
        · have c4 := c4
          refine sKb (p := 38) rfl rfl ?_
          refine sEn (i := .ireturn) rfl (rfl) ?_
          refine ⟨congrArg (fun z => some (Value.int (iI z))) ?_, fun z => absurd z (by omega), fun _ => hCI, frX_refl _⟩
          unfold rWeight
          rw [if_neg (by omega), if_pos (by omega)]
  · have c1 := c1
    have c1 := of_decide_eq_false c1
    refine sKb (p := 13) rfl rfl ?_
    refine sEn (i := .ireturn) rfl (rfl) ?_
    refine ⟨congrArg (fun z => some (Value.int (iI z))) ?_, fun z => absurd z (by omega), fun _ => hCI, frX_refl _⟩
    unfold rWeight
    rw [if_pos (by omega)]
theorem k_Rule {x y : Int} {q : Bool} (h : CI S n sz wt ro fn Fn nm ord sd tr tn up lo Z) (hx : rg x) (hy : rg y) : sM X 16 122 [.ref 0, .int (iI x), .int (iI y), .int (iI (bI q))] S (fnQ (okRule n sz ro x y q) (rRule n sz ro x y q) (fun S' => CI S' n sz wt ro fn Fn nm ord sd tr tn up lo Z) (fun S' => CI S' n sz wt (bup ro (x.toNat * 6 + y.toNat) q) fn Fn nm ord sd tr tn up lo Z) S) := by
  have hCI := h
  obtain ⟨hvC, hwC, ⟨wb, hgC⟩, ⟨hfn, hdr, h40, hF, hev, hnm, htb⟩, _, _, _, _, _⟩ := h
  have hn := hvC.1.1
  have hT0 := hvC.1.2.2
  have x1 := hx.1
  have x2 := hx.2
  have y1 := hy.1
  have y2 := hy.2
  refine sIni (ls := [some (.ref 0), some (.int (iI x)), some (.int (iI y)), some (.int (iI (bI q)))]) rfl ?_
  refine sL (pc' := 1) (i := .aload_n 0) rfl rfl ?_
  refine sGc (p := 4) rfl rfl (sk_0 _) rfl rfl rfl ?_
  refine sL (pc' := 5) (i := .iload_n 1) rfl rfl ?_
  refine sCv (p := 8) (as := [_]) rfl rfl rfl rfl (by decide) (Nat.le_of_ble_eq_true rfl) rfl (Nat.le_of_ble_eq_true rfl) (sk_1 _) rfl (by omega) (c_has hvC hx) ?_
  refine sBn (p := 11) rfl rfl (fun c1 => ?_) (fun c1 => ?_)
  · have c1 := c1
    have c1 := of_decide_eq_true c1
    obtain ⟨v, rfl⟩ : ∃ v : Nat, x = (v : Int) := ⟨x.toNat, by omega⟩
    have hxe : sz (((v : Nat) : Int).toNat) = sz v := rfl
    have hvv : v < n := by omega
    have hs := hvC.1.2.1 v hvv
    refine sL (pc' := 15) (i := .aload_n 0) rfl rfl ?_
    refine sGc (p := 18) rfl rfl (sk_0 _) rfl rfl rfl ?_
    refine sL (pc' := 19) (i := .iload_n 1) rfl rfl ?_
    refine sL (pc' := 20) (i := .iload_n 2) rfl rfl ?_
    refine sCv (p := 23) (as := [_, _]) rfl rfl rfl rfl (by decide) (Nat.le_of_ble_eq_true rfl) rfl (Nat.le_of_ble_eq_true rfl) (sk_1 _) rfl (by omega) (c_hasValue hvC (x := ((v : Nat) : Int)) (y := y) ⟨by omega, by omega⟩ hy) ?_
    refine sBn (p := 26) rfl rfl (fun c2 => ?_) (fun c2 => ?_)
    · have c2 := c2
      have c2 := of_decide_eq_true c2
      obtain ⟨k, rfl⟩ : ∃ k : Nat, y = (k : Int) := ⟨y.toNat, by omega⟩
      refine sL (pc' := 30) (i := .aload_n 0) rfl rfl ?_
      refine sGc (p := 33) rfl rfl (sk_0 _) rfl rfl rfl ?_
      refine sL (pc' := 34) (i := .iload_n 1) rfl rfl ?_
      refine sL (pc' := 35) (i := .iload_n 2) rfl rfl ?_
      refine sL (pc' := 36) (i := .iload_n 3) rfl rfl ?_
      refine sCv (p := 39) (as := [_, _, _]) rfl rfl rfl rfl (by decide) (Nat.le_of_ble_eq_true rfl) rfl (Nat.le_of_ble_eq_true rfl) (sk_1 _) rfl (by omega) (c_setRuledOut (x := q) hvC hwC hvv (by omega)) ?_
      refine sBe (p := 42) rfl rfl (fun c3 => ?_) (fun c3 => ?_)
      · have c3 := c3
        have c3 := of_decide_eq_false c3
        have hq9 : ro (v * 6 + k) = q := Classical.not_not.mp c3
        rw [if_pos hq9]
        refine sKi (p := 47) rfl rfl ?_
        refine sEn (i := .ireturn) rfl (rfl) ?_
        refine ⟨congrArg (fun z => some (Value.int (iI z))) ?_, fun _ => ?_, fun z => absurd (show okRule n sz ro ((v : Nat) : Int) ((k : Nat) : Int) q by omega) z, frX_refl _⟩
        · unfold rRule
          rw [if_neg (by omega), if_neg (by omega)]
          show _ = bI (decide (ro (v * 6 + k) ≠ q))
          rw [decide_eq_false (fun z => z hq9)]
          rfl
        · rw [show bup ro (((v : Nat) : Int).toNat * 6 + ((k : Nat) : Int).toNat) q = ro from funext fun i => by show (if i = v * 6 + k then q else ro i) = ro i; by_cases ci : i = v * 6 + k; (rw [if_pos ci, ci, hq9]); (rw [if_neg ci])]
          exact hCI
      · have c3 := c3
        have c3 := of_decide_eq_true c3
        rw [if_neg c3]
        refine sKi (p := 43) rfl rfl ?_
        refine sL (i := .goto 4) rfl rfl ?_
        refine sEn (i := .ireturn) rfl (rfl) ?_
        have hI9 : ∀ c, c ≠ 0 → c ≠ 1 → c ≠ 4 → c ≠ 5 → SI (wI (wI S 5 (v * 6 + k) (bI q)) 1 5 (bI false)) c = SI S c := fun c _ h1 _ h4 => (u2_ne h1).trans (u2_ne h4)
        refine ⟨congrArg (fun z => some (Value.int (iI z))) ?_, fun _ => ?_, fun z => absurd (show okRule n sz ro ((v : Nat) : Int) ((k : Nat) : Int) q by omega) z, frX_upd rfl rfl hI9 (fun _ _ _ => rfl)⟩
        · unfold rRule
          rw [if_neg (by omega), if_neg (by omega)]
          show _ = bI (decide (ro (v * 6 + k) ≠ q))
          rw [decide_eq_true (by assumption)]
          rfl
        · have hw1 : wC (wI (wI S 5 (v * 6 + k) (bI q)) 1 5 (bI false)) wt (bup ro (v * 6 + k) q) := fun i hi => by
            have h9 := hwC i hi
            rw [show SI (wI (wI S 5 (v * 6 + k) (bI q)) 1 5 (bI false)) 5 i = SI (wI S 5 (v * 6 + k) (bI q)) 5 i from rI_ne (by decide) _, show SI (wI (wI S 5 (v * 6 + k) (bI q)) 1 5 (bI false)) 4 i = SI S 4 i from (rI_ne (by decide) _).trans (rI_ne (by decide) _)]
            unfold bup
            by_cases ci : i = v * 6 + k
            · rw [ci, rI_at, if_pos rfl, ← ci]
              exact ⟨h9.1, rfl, h9.2.2⟩
            · rw [rI_nj ci, if_neg ci]
              exact h9
          have hC9 := CI_upd (S' := (wI (wI S 5 (v * 6 + k) (bI q)) 1 5 (bI false))) hCI rfl rfl hI9 ((rI_nj (by decide)).trans (rI_ne (by decide) _)) ((rI_nj (by decide)).trans (rI_ne (by decide) _)) ((rI_ne (by decide) _).trans (rI_ne (by decide) _)) (fun _ _ _ => rfl) hw1 ⟨false, rI_at, fun z => absurd z (by decide)⟩
          obtain ⟨_, _, _, _, _, t1, t2, t3, t4⟩ := hCI
          rw [rI_ne (by decide), rI_ne (by decide), rI_ne (by decide), rI_ne (by decide), t1, t2] at hC9
          rw [show SL (wI (wI S 5 (v * 6 + k) (bI q)) 1 5 (bI false)) = SL S from rfl, t3, t4] at hC9
          exact hC9
    · have c2 := c2
      have c2 := of_decide_eq_false c2
      refine sKb (p := 28) rfl rfl ?_
      refine sEn (i := .ireturn) rfl (rfl) ?_
      refine ⟨congrArg (fun z => some (Value.int (iI z))) ?_, fun z => absurd z (by omega), fun _ => hCI, frX_refl _⟩
      unfold rRule
      rw [if_neg (by omega), if_pos (by omega)]
  · have c1 := c1
    have c1 := of_decide_eq_false c1
    refine sKb (p := 13) rfl rfl ?_
    refine sEn (i := .ireturn) rfl (rfl) ?_
    refine ⟨congrArg (fun z => some (Value.int (iI z))) ?_, fun z => absurd z (by omega), fun _ => hCI, frX_refl _⟩
    unfold rRule
    rw [if_pos (by omega)]
end CC
