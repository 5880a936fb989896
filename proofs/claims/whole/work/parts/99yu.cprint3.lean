/-! ===== the class's calls: print, printed ===== -/
def frPr (S S' : ST) : Prop := ∀ c, 64 ≤ c → c ≤ 202 → c ≠ 177 → c ≠ 178 → SI S' c = SI S c ∧ SL S' c = SL S c ∧ SR S' c = SR S c
section CC
variable {X : List Int32} {S : ST} {n fn : Nat} {sz : Nat → Nat} {wt : Nat → Int} {ro : Nat → Bool} {Fn : Nat → Nat → Bool} {nm : Nat → Int64} {ord : Nat → Nat} {sd : Option (Nat → Bool)} {tr tn : Int} {up lo : Int64} {Z Z' m : Nat} {L : List Nat}
theorem CI_g {S' : ST} (h : CI S n sz wt ro fn Fn nm ord sd tr tn up lo Z) (hq : ∀ c, c < 52 → SI S' c = SI S c) (hl : ∀ c, c < 52 → SL S' c = SL S c) (hd : cD S' n sz ord fn Fn sd Z') : CI S' n sz wt ro fn Fn nm ord sd tr tn up lo Z' := by
  obtain ⟨hvC, hwC, ⟨wb, hgC⟩, ⟨f1, f2, f3, f4, f5, f6, f7⟩, _, t1, t2, t3, t4⟩ := h
  refine ⟨?_, ?_, ⟨wb, ?_⟩, ⟨?_, ?_, f3, fun i hi k hk => ?_, fun k hk => ?_, fun i hi => ?_, f7⟩, hd, ?_, ?_, ?_, ?_⟩
  · unfold vC at *
    rw [hq 1 (by omega), hq 2 (by omega), hq 3 (by omega)]
    exact hvC
  · unfold wC at *
    rw [hq 4 (by omega), hq 5 (by omega)]
    exact hwC
  · unfold gC at *
    rw [hq 1 (by omega), hl 6 (by omega)]
    exact hgC
  · rw [hq 7 (by omega)]
    exact f1
  · rw [hq 7 (by omega)]
    exact f2
  · rw [hl (9 + i) (by omega)]
    exact f4 i hi k hk
  · rw [hl 51 (by omega)]
    exact f5 k hk
  · rw [hl 49 (by omega)]
    exact f6 i hi
  · rw [hq 0 (by omega)]
    exact t1
  · rw [hq 0 (by omega)]
    exact t2
  · rw [hl 0 (by omega)]
    exact t3
  · rw [hl 0 (by omega)]
    exact t4
theorem k_Print_u {x : Int} (h : CI S n sz wt ro fn Fn nm ord sd tr tn up lo Z) (hx : rg x) (hn : ¬ (0 ≤ x ∧ x < fn)) : sM X 16 155 [.ref 0, .int (iI x)] S (sV (some (.int (iI (-101)))) S) := by
  have x1 := hx.1
  have x2 := hx.2
  have h40 := h.2.2.2.1.2.2.1
  refine sIni (ls := [some (.ref 0), some (.int (iI x))]) rfl ?_
  refine sL (pc' := 1) (i := .aload_n 0) rfl rfl ?_
  refine sGc (p := 4) rfl rfl (sk_0 _) rfl rfl rfl ?_
  refine sL (pc' := 5) (i := .iload_n 1) rfl rfl ?_
  refine sCv (p := 8) (as := [_]) rfl rfl rfl rfl (by decide) (Nat.le_of_ble_eq_true rfl) rfl (Nat.le_of_ble_eq_true rfl) (sk_7 _) rfl (by omega) (c_fhas h.2.2.2.1.1 h40 hx) ?_
  refine sBn (p := 11) rfl rfl (fun c1 => ?_) (fun c1 => ?_)
  · have c1 := c1
    have c1 := of_decide_eq_true c1
    exact absurd (by assumption) hn
  · have c1 := c1
    have c1 := of_decide_eq_false c1
    refine sKb (p := 13) rfl rfl ?_
    refine sEn (i := .ireturn) rfl (rfl) ?_
    exact ⟨rfl, rfl⟩
theorem k_Print {f0 : Nat} (h : CI S n sz wt ro fn Fn nm ord sd tr tn up lo Z) (hB : SBC X) (hs : sbB S L m) (hf0 : f0 < fn) : sM X 16 155 [.ref 0, .int (iI ((f0 : Nat) : Int))] S (fun r S' => r = some (.int (iI (((prT n sz ord (Fn f0)).length : Nat) : Int))) ∧ ∃ m', m ≤ m' ∧ sbB S' (prT n sz ord (Fn f0)) m' ∧ (prT n sz ord (Fn f0)).length ≤ 20000 ∧ CI S' n sz wt ro fn Fn nm ord sd tr tn up lo (Z + 2 * (m' - m)) ∧ frPr S S') := by
  have h0 := h
  obtain ⟨hvC, hwC, hgC, ⟨f1, f2, f3, f4, f5, f6, f7⟩, ⟨b, R, pl, D, U, rt, hR, hrt, hsd, htz, hln⟩, ht⟩ := h
  have hA := hR.1.1.1
  have hb58 := hA.1
  refine sIni (ls := [some (.ref 0), some (.int (iI ((f0 : Nat) : Int)))]) rfl ?_
  refine sL (pc' := 1) (i := .aload_n 0) rfl rfl ?_
  refine sGc (p := 4) rfl rfl (sk_0 _) rfl rfl rfl ?_
  refine sL (pc' := 5) (i := .iload_n 1) rfl rfl ?_
  refine sCv (p := 8) (as := [_]) rfl rfl rfl rfl (by decide) (Nat.le_of_ble_eq_true rfl) rfl (Nat.le_of_ble_eq_true rfl) (sk_7 _) rfl (by omega) (c_fhas (x := ((f0 : Nat) : Int)) f1 f3 ⟨by omega, by omega⟩) ?_
  refine sBn (p := 11) rfl rfl (fun c1 => ?_) (fun c1 => ?_)
  · have c1 := c1
    have c1 := of_decide_eq_true c1
    refine sL (pc' := 15) (i := .aload_n 0) rfl rfl ?_
    refine sGc (p := 18) rfl rfl (sk_0 _) rfl rfl rfl ?_
    refine sKi (p := 19) rfl rfl ?_
    refine sCvQ (p := 22) (as := [_]) rfl rfl rfl rfl (by decide) (Nat.le_of_ble_eq_true rfl) rfl (Nat.le_of_ble_eq_true rfl) (sk_177 _) rfl (by omega) (sM.deeper (hB.2.2.1 S L m hs) (d' := 15) (by decide)) ?_
    rintro _ S1 ⟨rfl, hs1, hu1⟩
    have hR1 := dRF_U hs hR hu1
    have hv1 := vC_U hs hvC hu1
    have g1 := fun {c : Nat} (hc : c < 177) => low_U hs hu1 hc
    have k7 : SI S1 7 5 = ((fn : Nat) : Int) := (congrFun (g1 (by decide)) _).trans f1
    have k50 : SI S1 50 f0 = ((rt f0 : Nat) : Int) := (congrFun (g1 (by decide)) _).trans (hrt f0 hf0)
    refine sL (pc' := 23) (i := .aload_n 0) rfl rfl ?_
    refine sGc (p := 26) rfl rfl (sk_0 _) rfl rfl rfl ?_
    refine sL (pc' := 27) (i := .aload_n 0) rfl rfl ?_
    refine sGc (p := 30) rfl rfl (sk_0 _) rfl rfl rfl ?_
    refine sL (pc' := 31) (i := .iload_n 1) rfl rfl ?_
    refine sCv (p := 34) (as := [_]) rfl rfl rfl rfl (by decide) (Nat.le_of_ble_eq_true rfl) rfl (Nat.le_of_ble_eq_true rfl) (sk_7 _) rfl (by omega) (c_rootOf (rt := fun i => ((rt i : Nat) : Int)) k7 f3 hf0 k50) ?_
    refine sL (pc' := 35) (i := .aload_n 0) rfl rfl ?_
    refine sGc (p := 38) rfl rfl (sk_0 _) rfl rfl rfl ?_
    refine sCvQ (p := 41) (as := [_, _]) rfl rfl rfl rfl (by decide) (Nat.le_of_ble_eq_true rfl) rfl (Nat.le_of_ble_eq_true rfl) (sk_52 _) rfl (by omega) (sM.deeper (c_writeNodes (b := b) (R := R) (f := f0) hB hv1 hR1 hf0 ⟨hs1, Nat.le_refl _⟩) (d' := 15) (by decide)) ?_
    rintro _ S4 ⟨rfl, S2, S3, m4, q2, u3, q4, t4, hR4⟩
    refine sL (pc' := 42) (i := .aload_n 0) rfl rfl ?_
    refine sGc (p := 45) rfl rfl (sk_0 _) rfl rfl rfl ?_
    refine sCv (p := 48) (as := []) rfl rfl rfl rfl (by decide) (Nat.le_of_ble_eq_true rfl) rfl (Nat.le_of_ble_eq_true rfl) (sk_177 _) rfl (by omega) (sM.deeper (hB.2.2.2.1 S4 _ m4 t4.1) (d' := 15) (by decide)) ?_
    refine sEn (i := .ireturn) rfl (rfl) ?_
    have hA1 := dA_U hA hu1
    have hs2 : sbB S2 [] m := sbB_Q hA1 hs1 q2
    have hm4 := u3.2.2.2.2.2.1
    obtain ⟨t1, ht1⟩ := hu1.1
    obtain ⟨t3, ht3⟩ := u3.1
    have hl1 : S1.1.length = S.1.length + t1.length := by rw [ht1, List.length_append]
    have hl2 : S2.1 = S1.1 := q2.1
    have hl3 : S3.1.length = S2.1.length + t3.length := by rw [ht3, List.length_append]
    have hl4 : S4.1 = S3.1 := q4.1
    have hz2 : tz S2 = tz S1 := by unfold tz; rw [hl2]
    have hz4 : tz S4 = tz S3 := by unfold tz; rw [hl4]
    have hx1 := hu1.2.2.2.2.2.2
    have hx3 := u3.2.2.2.2.2.2
    have hl2n : S2.1.length = S1.1.length := by rw [hl2]
    have hl4n : S4.1.length = S3.1.length := by rw [hl4]
    have vc : ∀ {T : ST} {K : List Nat} {mm c : Nat}, sbB T K mm → c ≤ 202 → c ≠ 178 → c ≠ SR T 177 0 := fun hT h1 h2 => by have := hT.2.1; omega
    have gI : ∀ c, c ≤ 202 → c ≠ 177 → c ≠ 178 → c ≠ b + 3 → c ≠ b + 4 → SI S4 c = SI S c := fun c h1 h2 h3 h4 h5 => (q4.2.2.2 c h4 h5).trans ((u3.2.1 c (by omega) h2 (vc hs2 h1 h3)).trans ((q2.2.2.2 c h4 h5).trans (hu1.2.1 c (by omega) h2 (vc hs h1 h3))))
    have gL : ∀ c, c ≤ 202 → SL S4 c = SL S c := fun c h1 => by rw [q4.2.2.1, u3.2.2.1 c (by omega), q2.2.2.1, hu1.2.2.1 c (by omega)]
    have gR : ∀ c, c ≤ 202 → c ≠ 177 → SR S4 c = SR S c := fun c h1 h2 => by rw [q4.2.1, u3.2.2.2.1 c (by omega) h2, q2.2.1, hu1.2.2.2.1 c (by omega) h2]
    refine ⟨rfl, m4, hm4, t4.1, t4.2, CI_g h0 (fun c hc => gI c (by omega) (by omega) (by omega) (by omega) (by omega)) (fun c hc => gL c (by omega)) ⟨b, R, pl, D, U, rt, hR4, fun i hi => ?_, ?_, ?_, ?_⟩, fun c h1 h2 h3 h4 => ⟨gI c h2 h3 h4 (by omega) (by omega), gL c h2, gR c h2 h3⟩⟩
    · rw [gI 50 (by decide) (by decide) (by decide) (by omega) (by omega)]
      exact hrt i hi
    · unfold cSd at *
      rw [gI 0 (by decide) (by decide) (by decide) (by omega) (by omega)]
      exact hsd
    · omega
    · omega
  · exfalso; have c1 := of_decide_eq_false c1; omega
theorem k_Printed {x : Int} (hB : SBC X) (hs : sbB S L m) (hx : rg x) (hl : L.length ≤ 20000) : sM X 13 156 [.ref 0, .int (iI x)] S (sV (some (.int (iI (if 0 ≤ x ∧ x < ((L.length : Nat) : Int) then ((L.getD x.toNat 0 : Nat) : Int) else -1)))) S) := by
  have x1 := hx.1
  have x2 := hx.2
  by_cases c : 0 ≤ x ∧ x < ((L.length : Nat) : Int)
  · rw [if_pos c]
    obtain ⟨i, rfl⟩ : ∃ i : Nat, x = ((i : Nat) : Int) := ⟨x.toNat, by omega⟩
    have hi : i < L.length := by omega
    refine sIni (ls := [some (.ref 0), some (.int (iI ((i : Nat) : Int)))]) rfl ?_
    refine sL (pc' := 1) (i := .iload_n 1) rfl rfl ?_
    refine sIf_lt (p := 4) rfl rfl ⟨by omega, by omega⟩ (fun c1 => ?_) (fun c1 => ?_)
    · exfalso; omega
    · have c1 := c1
      refine sL (pc' := 5) (i := .iload_n 1) rfl rfl ?_
      refine sL (pc' := 6) (i := .aload_n 0) rfl rfl ?_
      refine sGc (p := 9) rfl rfl (sk_0 _) rfl rfl rfl ?_
      refine sCv (p := 12) (as := []) rfl rfl rfl rfl (by decide) (Nat.le_of_ble_eq_true rfl) rfl (Nat.le_of_ble_eq_true rfl) (sk_177 _) rfl (by omega) (hB.2.2.2.1 S L m hs) ?_
      refine sIc_ge (p := 15) rfl rfl ⟨by omega, by omega⟩ ⟨by omega, by omega⟩ (fun c2 => ?_) (fun c2 => ?_)
      · exfalso; omega
      · have c2 := c2
        refine sL (pc' := 16) (i := .aload_n 0) rfl rfl ?_
        refine sGc (p := 19) rfl rfl (sk_0 _) rfl rfl rfl ?_
        refine sL (pc' := 20) (i := .iload_n 1) rfl rfl ?_
        refine sCv (p := 23) (as := [_]) rfl rfl rfl rfl (by decide) (Nat.le_of_ble_eq_true rfl) rfl (Nat.le_of_ble_eq_true rfl) (sk_177 _) rfl (by omega) (hB.2.2.2.2 S L m i hs hi) ?_
        refine sL (i := .goto 4) rfl rfl ?_
        refine sEn (i := .ireturn) rfl (rfl) ?_
        exact ⟨rfl, rfl⟩
  · rw [if_neg c]
    refine sIni (ls := [some (.ref 0), some (.int (iI x))]) rfl ?_
    refine sL (pc' := 1) (i := .iload_n 1) rfl rfl ?_
    refine sIf_lt (p := 4) rfl rfl ⟨by omega, by omega⟩ (fun c1 => ?_) (fun c1 => ?_)
    · have c1 := c1
      refine sKi (p := 27) rfl rfl ?_
      refine sEn (i := .ireturn) rfl (rfl) ?_
      exact ⟨rfl, rfl⟩
    · have c1 := c1
      refine sL (pc' := 5) (i := .iload_n 1) rfl rfl ?_
      refine sL (pc' := 6) (i := .aload_n 0) rfl rfl ?_
      refine sGc (p := 9) rfl rfl (sk_0 _) rfl rfl rfl ?_
      refine sCv (p := 12) (as := []) rfl rfl rfl rfl (by decide) (Nat.le_of_ble_eq_true rfl) rfl (Nat.le_of_ble_eq_true rfl) (sk_177 _) rfl (by omega) (hB.2.2.2.1 S L m hs) ?_
      refine sIc_ge (p := 15) rfl rfl ⟨by omega, by omega⟩ ⟨by omega, by omega⟩ (fun c2 => ?_) (fun c2 => ?_)
      · have c2 := c2
        refine sKi (p := 27) rfl rfl ?_
        refine sEn (i := .ireturn) rfl (rfl) ?_
        exact ⟨rfl, rfl⟩
      · exfalso; omega
end CC
