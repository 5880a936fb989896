/-! ===== the class's calls: print, printed ===== -/
def frPr (S S' : ST) : Prop := ∀ c, 64 ≤ c → c ≤ 202 → c ≠ 177 → c ≠ 178 → SI S' c = SI S c ∧ SL S' c = SL S c ∧ SR S' c = SR S c
section CC
variable {X : List Int32} {S : ST} {n fn : Nat} {sz : Nat → Nat} {wt : Nat → Int} {ro : Nat → Bool} {Fn : Nat → Nat → Bool} {nm : Nat → Int64} {ord : Nat → Nat} {sd : Option (Nat → Bool)} {tr tn : Int} {up lo : Int64} {Z Z' m : Nat} {L : List Nat}
theorem CI_g {S' : ST} (h : CI S n sz wt ro fn Fn nm ord sd tr tn up lo Z) (hq : ∀ c, c < 52 → SI S' c = SI S c) (hl : ∀ c, c < 52 → SL S' c = SL S c) (hd : cD S' n sz ord fn Fn sd Z') : CI S' n sz wt ro fn Fn nm ord sd tr tn up lo Z' := by
  obtain ⟨hvC, hwC, ⟨wb, hgC⟩, ⟨f1, f2, f3, f4, f5, f6, f7⟩, _, t1, t2, t3, t4⟩ := h
  refine ⟨?_, ?_, ⟨wb, ?_⟩, ⟨?_, ?_, f3, fun i hi k hk => ?_, fun k hk => ?_, fun i hi => ?_, f7⟩, hd, ?_, ?_, ?_, ?_⟩
  · unfold vC at *
    rw [hq 1 (by omega), hq 2 (by omega), hq 3 (by omega)]
    exact hvC
  · unfold wC at *
    rw [hq 4 (by omega), hq 5 (by omega)]
    exact hwC
  · unfold gC at *
    rw [hq 1 (by omega), hl 6 (by omega)]
    exact hgC
  · rw [hq 7 (by omega)]
    exact f1
  · rw [hq 7 (by omega)]
    exact f2
  · rw [hl (9 + i) (by omega)]
    exact f4 i hi k hk
  · rw [hl 51 (by omega)]
    exact f5 k hk
  · rw [hl 49 (by omega)]
    exact f6 i hi
  · rw [hq 0 (by omega)]
    exact t1
  · rw [hq 0 (by omega)]
    exact t2
  · rw [hl 0 (by omega)]
    exact t3
  · rw [hl 0 (by omega)]
    exact t4
theorem k_Print_u {x : Int} (h : CI S n sz wt ro fn Fn nm ord sd tr tn up lo Z) (hx : rg x) (hn : ¬ (0 ≤ x ∧ x < fn)) : sM X 16 155 [.ref 0, .int (iI x)] S (sV (some (.int (iI (-101)))) S) := by
  have x1 := hx.1
  have x2 := hx.2
  have h40 := h.2.2.2.1.2.2.1
  refine sIni (ls := [some (.ref 0), some (.int (iI x))]) rfl ?_
  refine sL (pc' := 1) (i := .aload_n 0) rfl rfl ?_
  refine sGc (p := 4) rfl rfl (sk_0 _) rfl rfl rfl ?_
  refine sL (pc' := 5) (i := .iload_n 1) rfl rfl ?_
  refine sCv (p := 8) (as := [_]) rfl rfl rfl rfl (by decide) (Nat.le_of_ble_eq_true rfl) rfl (Nat.le_of_ble_eq_true rfl) (sk_7 _) rfl (by omega) (c_fhas h.2.2.2.1.1 h40 hx) ?_
  refine sBn (p := 11) rfl rfl (fun c1 => ?_) (fun c1 => ?_)
  · have c1 := c1
    have c1 := of_decide_eq_true c1
    exact absurd (by assumption) hn
  · have c1 := c1
    have c1 := of_decide_eq_false c1
    refine sKb (p := 13) rfl rfl ?_
    refine sEn (i := .ireturn) rfl (rfl) ?_
    exact ⟨rfl, rfl⟩
theorem k_Print {f0 : Nat} (h : CI S n sz wt ro fn Fn nm ord sd tr tn up lo Z) (hs : sbB S L m) (hf0 : f0 < fn) : sM X 16 155 [.ref 0, .int (iI ((f0 : Nat) : Int))] S (fun r S' => r = some (.int (iI (((prT n sz ord (Fn f0)).length : Nat) : Int))) ∧ ∃ m', m ≤ m' ∧ sbB S' (prT n sz ord (Fn f0)) m' ∧ (prT n sz ord (Fn f0)).length ≤ 20000 ∧ CI S' n sz wt ro fn Fn nm ord sd tr tn up lo (Z + 2 * (m' - m)) ∧ frPr S S') := by
  have h0 := h
  obtain ⟨hvC, hwC, hgC, ⟨f1, f2, f3, f4, f5, f6, f7⟩, ⟨b, R, pl, D, U, rt, hR, hrt, hsd, htz, hln⟩, ht⟩ := h
  have hA := hR.1.1.1
  have hb58 := hA.1
  refine sIni (ls := [some (.ref 0), some (.int (iI ((f0 : Nat) : Int)))]) rfl ?_
  refine sL (pc' := 1) (i := .aload_n 0) rfl rfl ?_
  refine sGc (p := 4) rfl rfl (sk_0 _) rfl rfl rfl ?_
  refine sL (pc' := 5) (i := .iload_n 1) rfl rfl ?_
  refine sCv (p := 8) (as := [_]) rfl rfl rfl rfl (by decide) (Nat.le_of_ble_eq_true rfl) rfl (Nat.le_of_ble_eq_true rfl) (sk_7 _) rfl (by omega) (c_fhas (x := ((f0 : Nat) : Int)) f1 f3 ⟨by omega, by omega⟩) ?_
  refine sBn (p := 11) rfl rfl (fun c1 => ?_) (fun c1 => ?_)
  · have c1 := c1
    have c1 := of_decide_eq_true c1
    refine sL (pc' := 15) (i := .aload_n 0) rfl rfl ?_
    refine sGc (p := 18) rfl rfl (sk_0 _) rfl rfl rfl ?_
    refine sKi (p := 19) rfl rfl ?_
    refine sPi (z := 0) (p := 22) rfl rfl (sk_177 _) rfl rfl rfl rfl ?_
    have hs1 : sbB (wI S 177 1 0) [] m := ⟨hs.1, Nat.zero_le _, rI_at, fun j hj => absurd hj (Nat.not_lt_zero _)⟩
    have hu1 : frU S (wI S 177 1 0) m m := frU_w
    have hR1 := dRF_U hR hu1
    have hv1 := vC_U hvC hu1
    have k7 : SI (wI S 177 1 0) 7 5 = ((fn : Nat) : Int) := (congrFun (low_U hu1 (by decide)) _).trans f1
    have k50 : SI (wI S 177 1 0) 50 f0 = ((rt f0 : Nat) : Int) := (congrFun (low_U hu1 (by decide)) _).trans (hrt f0 hf0)
    refine sL (pc' := 23) (i := .aload_n 0) rfl rfl ?_
    refine sGc (p := 26) rfl rfl (sk_0 _) rfl rfl rfl ?_
    refine sL (pc' := 27) (i := .aload_n 0) rfl rfl ?_
    refine sGc (p := 30) rfl rfl (sk_0 _) rfl rfl rfl ?_
    refine sL (pc' := 31) (i := .iload_n 1) rfl rfl ?_
    refine sCv (p := 34) (as := [_]) rfl rfl rfl rfl (by decide) (Nat.le_of_ble_eq_true rfl) rfl (Nat.le_of_ble_eq_true rfl) (sk_7 _) rfl (by omega) (c_rootOf (rt := fun i => ((rt i : Nat) : Int)) k7 f3 hf0 k50) ?_
    refine sL (pc' := 35) (i := .aload_n 0) rfl rfl ?_
    refine sGc (p := 38) rfl rfl (sk_0 _) rfl rfl rfl ?_
    refine sCvQ (p := 41) (as := [_, _]) rfl rfl rfl rfl (by decide) (Nat.le_of_ble_eq_true rfl) rfl (Nat.le_of_ble_eq_true rfl) (sk_52 _) rfl (by omega) (sM.deeper (c_writeNodes (b := b) (R := R) (f := f0) hv1 hR1 hf0 ⟨hs1, Nat.le_refl _⟩) (d' := 15) (by decide)) ?_
    rintro _ S4 ⟨rfl, S2, S3, m4, q2, u3, q4, t4, hR4⟩
    refine sL (pc' := 42) (i := .aload_n 0) rfl rfl ?_
    refine sGc (p := 45) rfl rfl (sk_0 _) rfl rfl rfl ?_
    refine sGi (p := 48) rfl rfl (sk_177 _) rfl rfl rfl t4.1.2.2.1 ?_
    refine sEn (i := .ireturn) rfl (rfl) ?_
    have hm4 := u3.2.2.2.2
    have hl4 : S4.1 = S.1 := q4.1.trans (u3.1.trans (q2.1.trans hu1.1))
    have hz4 : tz S4 = tz S := by unfold tz; rw [hl4]
    have hl4n : S4.1.length = S.1.length := by rw [hl4]
    have gI : ∀ c, c ≠ 177 → c ≠ 178 → c ≠ b + 3 → c ≠ b + 4 → SI S4 c = SI S c := fun c h2 h3 h4 h5 => (q4.2.2.2 c h4 h5).trans ((u3.2.1 c h2 h3).trans ((q2.2.2.2 c h4 h5).trans (hu1.2.1 c h2 h3)))
    have gL : SL S4 = SL S := by rw [q4.2.2.1, u3.2.2.1, q2.2.2.1, hu1.2.2.1]
    have gR : SR S4 = SR S := by rw [q4.2.1, u3.2.2.2.1, q2.2.1, hu1.2.2.2.1]
    refine ⟨rfl, m4, by omega, t4.1, t4.2, CI_g h0 (fun c hc => gI c (by omega) (by omega) (by omega) (by omega)) (fun c hc => congrFun gL c) ⟨b, R, pl, D, U, rt, hR4, fun i hi => ?_, ?_, ?_, ?_⟩, fun c h1 h2 h3 h4 => ⟨gI c h3 h4 (by omega) (by omega), congrFun gL c, congrFun gR c⟩⟩
    · rw [gI 50 (by decide) (by decide) (by omega) (by omega)]
      exact hrt i hi
    · unfold cSd at *
      rw [gI 0 (by decide) (by decide) (by omega) (by omega)]
      exact hsd
    · omega
    · omega
  · exfalso; have c1 := of_decide_eq_false c1; omega
theorem c_pgByte {x : Int} (hs : sbB S L m) (hx : rg x) : sM X 0 344 [.ref 177, .int (iI x)] S (sV (some (.int (iI (if 0 ≤ x ∧ x < ((L.length : Nat) : Int) then ((L.getD x.toNat 0 : Nat) : Int) else -1)))) S) := by
  have x1 := hx.1
  have x2 := hx.2
  have hl := hs.2.1
  by_cases c : 0 ≤ x ∧ x < ((L.length : Nat) : Int)
  · rw [if_pos c]
    obtain ⟨i, rfl⟩ : ∃ i : Nat, x = ((i : Nat) : Int) := ⟨x.toNat, by omega⟩
    have hi : i < L.length := by omega
    refine sIni (ls := [some (.ref 177), some (.int (iI ((i : Nat) : Int)))]) rfl ?_
    refine sL (pc' := 1) (i := .iload_n 1) rfl rfl ?_
    refine sIf_lt (p := 4) rfl rfl ⟨by omega, by omega⟩ (fun c1 => ?_) (fun c1 => ?_)
    · exfalso; omega
    · have c1 := c1
      refine sL (pc' := 5) (i := .iload_n 1) rfl rfl ?_
      refine sL (pc' := 6) (i := .aload_n 0) rfl rfl ?_
      refine sGi (p := 9) rfl rfl (sk_177 _) rfl rfl rfl hs.2.2.1 ?_
      refine sIc_ge (p := 12) rfl rfl ⟨by omega, by omega⟩ ⟨by omega, by omega⟩ (fun c2 => ?_) (fun c2 => ?_)
      · exfalso; omega
      · have c2 := c2
        refine sL (pc' := 13) (i := .aload_n 0) rfl rfl ?_
        refine sGc (p := 16) rfl rfl (sk_177 _) rfl rfl rfl ?_
        refine sL (pc' := 17) (i := .iload_n 1) rfl rfl ?_
        refine sAi (p := 18) (i := i) rfl rfl (sk_178 _) (by omega) ⟨by omega, by omega⟩ (hs.2.2.2 i hi).1 ?_
        refine sL (i := .goto 4) rfl rfl ?_
        refine sEn (i := .ireturn) rfl (rfl) ?_
        exact ⟨rfl, rfl⟩
  · rw [if_neg c]
    refine sIni (ls := [some (.ref 177), some (.int (iI x))]) rfl ?_
    refine sL (pc' := 1) (i := .iload_n 1) rfl rfl ?_
    refine sIf_lt (p := 4) rfl rfl ⟨by omega, by omega⟩ (fun c1 => ?_) (fun c1 => ?_)
    · have c1 := c1
      refine sKi (p := 22) rfl rfl ?_
      refine sEn (i := .ireturn) rfl (rfl) ?_
      exact ⟨rfl, rfl⟩
    · have c1 := c1
      refine sL (pc' := 5) (i := .iload_n 1) rfl rfl ?_
      refine sL (pc' := 6) (i := .aload_n 0) rfl rfl ?_
      refine sGi (p := 9) rfl rfl (sk_177 _) rfl rfl rfl hs.2.2.1 ?_
      refine sIc_ge (p := 12) rfl rfl ⟨by omega, by omega⟩ ⟨by omega, by omega⟩ (fun c2 => ?_) (fun c2 => ?_)
      · have c2 := c2
        refine sKi (p := 22) rfl rfl ?_
        refine sEn (i := .ireturn) rfl (rfl) ?_
        exact ⟨rfl, rfl⟩
      · exfalso; omega
theorem k_Printed {x : Int} (hs : sbB S L m) (hx : rg x) : sM X 13 156 [.ref 0, .int (iI x)] S (sV (some (.int (iI (if 0 ≤ x ∧ x < ((L.length : Nat) : Int) then ((L.getD x.toNat 0 : Nat) : Int) else -1)))) S) := by
  refine sIni (ls := [some (.ref 0), some (.int (iI x))]) rfl ?_
  refine sL (pc' := 1) (i := .aload_n 0) rfl rfl ?_
  refine sGc (p := 4) rfl rfl (sk_0 _) rfl rfl rfl ?_
  refine sL (pc' := 5) (i := .iload_n 1) rfl rfl ?_
  refine sCv (p := 8) (as := [_]) rfl rfl rfl rfl (by decide) (Nat.le_of_ble_eq_true rfl) rfl (Nat.le_of_ble_eq_true rfl) (sk_177 _) rfl (by omega) (sM.deeper (c_pgByte hs hx) (d' := 12) (by decide)) ?_
  refine sEn (i := .ireturn) rfl (rfl) ?_
  exact ⟨rfl, rfl⟩
end CC
