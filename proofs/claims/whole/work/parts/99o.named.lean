/-! ===== the class: named, bytes fed ===== -/
section CO
variable {X : List Int32} {S : ST} {n fn Z : Nat} {sz ord : Nat → Nat} {wt : Nat → Int} {ro : Nat → Bool} {Fn : Nat → Nat → Bool} {nm : Nat → Int64} {sd : Option (Nat → Bool)} {tr tn : Int} {up lo : Int64} {y : Nat → Nat} {s : Nat}
theorem c_readName (hY : SYM X) (ht : tp S y s) (h0 : tE0 S n sz fn Fn nm) : sM X 10 85 [.ref 69] S (fun r S' => r = some (.int (iI (if nT y s = 1 ∧ tk y s 0 = 258 ∧ tk y s 1 = 264 then fnd nm (tC y s (tA y s 0)) fn 0 else -1))) ∧ frZ fn S S' ∧ SI S' 64 4 = 0 ∧ SI S' 7 6 = 0 ∧ SI S' 69 6 = SI S 69 6) := by
  have hs := ht.1
  have hn := nT_ok y s
  have hf40 := h0.2.2.2.2.1
  have hK0 : tk y s 0 ≤ 265 := tK_lt _
  have hK1 : tk y s 1 ≤ 265 := tK_lt _
  refine sIni (ls := [some (.ref 69)]) rfl ?_
  refine sL (pc' := 1) (i := .aload_n 0) rfl rfl ?_
  refine sCvQ (p := 4) (as := []) rfl rfl rfl rfl (by decide) (Nat.le_of_ble_eq_true rfl) rfl (Nat.le_of_ble_eq_true rfl) (sk_69 _) rfl (by omega) (c_rewind hY ht) ?_
  rintro _ S3 ⟨rfl, S1, rfl, h41, h61, hk1, hf1⟩
  have hz2 : frZ fn S (wI (wI S1 69 4 0) 69 5 ((tk y s 0 : Nat) : Int)) := frZ_trans (frZ_S hf40 hf1) (frZ_trans frZ_9 frZ_9)
  have h762 : SI (wI (wI S1 69 4 0) 69 5 ((tk y s 0 : Nat) : Int)) 7 6 = ((0 : Nat) : Int) := (rI_ne (by decide) _).trans ((rI_ne (by decide) _).trans ((congrFun (hf1.2.2.1 7 (by decide) (by decide) (by decide)) 6).trans h0.2.2.2.1))
  have hE2 : rdE (wI (wI S1 69 4 0) 69 5 ((tk y s 0 : Nat) : Int)) (tk y s) (tA y s) (SL S1 68) (nT y s) n sz fn 0 Fn nm := rdE_0 h0 hz2 hs h762 ((rI_ne (by decide) _).trans ((rI_ne (by decide) _).trans h61)) (fun k hk => ⟨(rI_ne (by decide) _).trans ((rI_ne (by decide) _).trans (hk1 k hk).1), (rI_ne (by decide) _).trans ((rI_ne (by decide) _).trans (hk1 k hk).2.1), (hk1 k hk).2.2⟩)
  have hag : agC (SL S1 68) y s := fun k hk hq => (hk1 k (by omega)).2.2 hq
  have h641 : SI (wI (wI S1 69 4 0) 69 5 ((tk y s 0 : Nat) : Int)) 64 4 = 0 := (rI_ne (by decide) _).trans ((rI_ne (by decide) _).trans h41)
  have h696 : SI (wI (wI S1 69 4 0) 69 5 ((tk y s 0 : Nat) : Int)) 69 6 = SI S 69 6 := (rI_nj (by decide)).trans ((rI_nj (by decide)).trans (congrFun (hf1.2.2.1 69 (by decide) (by decide) (by decide)) 6))
  generalize SL S1 68 = C at *
  generalize wI (wI S1 69 4 0) 69 5 ((tk y s 0 : Nat) : Int) = S2 at *
  refine sL (pc' := 5) (i := .aload_n 0) rfl rfl ?_
  refine sGc (p := 8) rfl rfl (sk_69 _) rfl rfl rfl ?_
  refine sGi (p := 11) rfl rfl (sk_64 _) rfl rfl rfl hE2.2.1 ?_
  refine sKi (p := 12) rfl rfl ?_
  refine sIc_ne (p := 15) rfl rfl ⟨by omega, by omega⟩ ⟨by omega, by omega⟩ (fun c1 => ?_) (fun c1 => ?_)
  · have c1 := c1
    refine sKi (p := 46) rfl rfl ?_
    refine sEn (i := .ireturn) rfl (rfl) ?_
    exact ⟨congrArg (fun z => some (Value.int (iI z))) (by rw [if_neg (by omega)]), hz2, h641, h762, h696⟩
  · have c1 := c1
    refine sL (pc' := 16) (i := .aload_n 0) rfl rfl ?_
    refine sGc (p := 19) rfl rfl (sk_69 _) rfl rfl rfl ?_
    refine sGc (p := 22) rfl rfl (sk_64 _) rfl rfl rfl ?_
    refine sKi (p := 23) rfl rfl ?_
    refine sAi (p := 24) (i := 0) rfl rfl (sk_66 _) (by omega) ⟨by omega, by omega⟩ (hE2.2.2.1 _ (by omega)).1 ?_
    refine sKs (p := 27) rfl rfl ?_
    refine sIc_ne (p := 30) rfl rfl ⟨by omega, by omega⟩ ⟨by omega, by omega⟩ (fun c2 => ?_) (fun c2 => ?_)
    · have c2 := c2
      refine sKi (p := 46) rfl rfl ?_
      refine sEn (i := .ireturn) rfl (rfl) ?_
      exact ⟨congrArg (fun z => some (Value.int (iI z))) (by rw [if_neg (by omega)]), hz2, h641, h762, h696⟩
    · have c2 := c2
      refine sL (pc' := 31) (i := .aload_n 0) rfl rfl ?_
      refine sGc (p := 34) rfl rfl (sk_69 _) rfl rfl rfl ?_
      refine sGc (p := 37) rfl rfl (sk_64 _) rfl rfl rfl ?_
      refine sKi (p := 38) rfl rfl ?_
      refine sAi (p := 39) (i := 1) rfl rfl (sk_66 _) (by omega) ⟨by omega, by omega⟩ (hE2.2.2.1 _ (by omega)).1 ?_
      refine sKs (p := 42) rfl rfl ?_
      refine sIc_eq (p := 45) rfl rfl ⟨by omega, by omega⟩ ⟨by omega, by omega⟩ (fun c3 => ?_) (fun c3 => ?_)
      · have c3 := c3
        refine sL (pc' := 48) (i := .aload_n 0) rfl rfl ?_
        refine sGc (p := 51) rfl rfl (sk_69 _) rfl rfl rfl ?_
        refine sL (pc' := 52) (i := .aload_n 0) rfl rfl ?_
        refine sGc (p := 55) rfl rfl (sk_69 _) rfl rfl rfl ?_
        refine sGc (p := 58) rfl rfl (sk_64 _) rfl rfl rfl ?_
        refine sKi (p := 59) rfl rfl ?_
        refine sAl (p := 60) (i := 0) rfl rfl (sk_68 _) (by omega) ⟨by omega, by omega⟩ (hE2.2.2.1 _ (by omega)).2.2 ?_
        refine sCv (p := 63) (as := [_]) rfl rfl rfl rfl (by decide) (Nat.le_of_ble_eq_true rfl) rfl (Nat.le_of_ble_eq_true rfl) (sk_7 _) rfl (by omega) (c_findName (dr := 0) hE2.2.2.2.2.2.1 hE2.2.2.2.2.2.2.1 hE2.2.2.2.2.2.2.2.1 hE2.2.2.2.2.2.2.2.2.2) ?_
        refine sEn (i := .ireturn) rfl (rfl) ?_
        exact ⟨congrArg (fun z => some (Value.int (iI z))) (by rw [if_pos (by omega), hag 0 (by omega) (by omega)]; rfl), hz2, h641, h762, h696⟩
      · have c3 := c3
        refine sKi (p := 46) rfl rfl ?_
        refine sEn (i := .ireturn) rfl (rfl) ?_
        exact ⟨congrArg (fun z => some (Value.int (iI z))) (by rw [if_neg (by omega)]), hz2, h641, h762, h696⟩
theorem k_Named (h : CI S n sz wt ro fn Fn nm ord sd tr tn up lo Z) (hY : SYM X) (ht : tp S y s) : sM X 11 138 [.ref 0] S (fun r S' => r = some (.int (iI (if (if nT y s = 1 ∧ tk y s 0 = 258 ∧ tk y s 1 = 264 then fnd nm (tC y s (tA y s 0)) fn 0 else -1) = -1 then -103 else (if nT y s = 1 ∧ tk y s 0 = 258 ∧ tk y s 1 = 264 then fnd nm (tC y s (tA y s 0)) fn 0 else -1)))) ∧ CI S' n sz wt ro fn Fn nm ord sd tr tn up lo Z ∧ frV S S' ∧ SI S' 64 4 = 0 ∧ SI S' 69 6 = SI S 69 6) := by
  have hCI := h
  obtain ⟨hvC, hwC, _, ⟨f1, f2, f3, f4, f5, f6, f7⟩, _⟩ := h
  have hrn := c_readName hY ht (X := X) (n := n) (sz := sz) (fn := fn) (Fn := Fn) (nm := nm) ⟨hvC, f5, f1, f2, f3, f4, f6⟩
  have hrb : -1 ≤ (if nT y s = 1 ∧ tk y s 0 = 258 ∧ tk y s 1 = 264 then fnd nm (tC y s (tA y s 0)) fn 0 else -1) ∧ (if nT y s = 1 ∧ tk y s 0 = 258 ∧ tk y s 1 = 264 then fnd nm (tC y s (tA y s 0)) fn 0 else -1) < 40 := by
    split
    · have := fnd_b (nm := nm) (x := tC y s (tA y s 0)) fn 0
      omega
    · omega
  generalize (if nT y s = 1 ∧ tk y s 0 = 258 ∧ tk y s 1 = 264 then fnd nm (tC y s (tA y s 0)) fn 0 else -1) = rn at *
  refine sIni (ls := [some (.ref 0), none]) rfl ?_
  refine sL (pc' := 1) (i := .aload_n 0) rfl rfl ?_
  refine sGc (p := 4) rfl rfl (sk_0 _) rfl rfl rfl ?_
  refine sCvQ (p := 7) (as := []) rfl rfl rfl rfl (by decide) (Nat.le_of_ble_eq_true rfl) rfl (Nat.le_of_ble_eq_true rfl) (sk_69 _) rfl (by omega) (hrn) ?_
  rintro _ S1 ⟨rfl, hz, h4, h76, h69⟩
  have hC1 := CId_0 (CI_Z (d := 0) hCI hz h76 f3 (fun i hi k hk => by rw [hz.2.2.2.2.1 (9 + i) (by omega)]; exact f4 i hi k hk) (fun i hi => (hz.2.2.2.2.2 i hi).trans (f6 i hi)) f7 (fun _ _ => rfl))
  refine sL (pc' := 8) (i := .istore_n 1) (ls' := [some (.ref 0), some (.int (iI rn))]) rfl rfl ?_
  refine sL (pc' := 9) (i := .iload_n 1) rfl rfl ?_
  refine sKi (p := 10) rfl rfl ?_
  refine sIc_ne (p := 13) rfl rfl ⟨by omega, by omega⟩ ⟨by omega, by omega⟩ (fun c1 => ?_) (fun c1 => ?_)
  · have c1 := c1
    refine sL (pc' := 19) (i := .iload_n 1) rfl rfl ?_
    refine sEn (i := .ireturn) rfl (rfl) ?_
    exact ⟨congrArg (fun z => some (Value.int (iI z))) (by rw [if_neg (by omega)]), hC1, frV_Z hz, h4, h69⟩
  · have c1 := c1
    refine sKb (p := 15) rfl rfl ?_
    refine sL (i := .goto 4) rfl rfl ?_
    refine sEn (i := .ireturn) rfl (rfl) ?_
    exact ⟨congrArg (fun z => some (Value.int (iI z))) (by rw [if_pos (by omega)]), hC1, frV_Z hz, h4, h69⟩
end CO
