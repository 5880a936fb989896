/-! ===== the class: read, named, fault ===== -/
/-- builder and reference are left alone -/
def frV (S S' : ST) : Prop := (∃ t, S'.1 = S.1 ++ t) ∧ (∀ c, 177 ≤ c → c ≤ 202 → SI S' c = SI S c ∧ SL S' c = SL S c ∧ SR S' c = SR S c) ∧ (∀ c m, kd S c = some (.inl (3, m)) → SI S' c = SI S c)
theorem frV_X {S S' : ST} (h : frX S S') : frV S S' := ⟨h.1, fun c h1 h2 => h.2.1 c (by omega) h2, h.2.2⟩
theorem frV_trans {A B C : ST} (h : frV A B) (k : frV B C) : frV A C := by
  obtain ⟨t, ht⟩ := h.1
  obtain ⟨u, hu⟩ := k.1
  refine ⟨⟨t ++ u, by rw [hu, ht, List.append_assoc]⟩, fun c h1 h2 => ⟨(k.2.1 c h1 h2).1.trans (h.2.1 c h1 h2).1, (k.2.1 c h1 h2).2.1.trans (h.2.1 c h1 h2).2.1, (k.2.1 c h1 h2).2.2.trans (h.2.1 c h1 h2).2.2⟩, fun c m hc => ?_⟩
  have hc2 : kd B c = some (.inl (3, m)) := by
    have hl := kd_len hc
    unfold kd at *
    rw [ht, ← List.append_assoc, List.getElem?_append_left (by rw [List.length_append]; exact hl)]
    exact hc
  exact (k.2.2 c m hc2).trans (h.2.2 c m hc)
theorem frV_Z {fn : Nat} {S S' : ST} (h : frZ fn S S') : frV S S' := ⟨⟨[], by rw [h.1, List.append_nil]⟩, fun c h1 h2 => ⟨h.2.2.1 c (by omega) (by omega) (by omega) (by omega) (by omega), h.2.2.2.2.1 c (by omega), by rw [h.2.1]⟩, fun c m hc => h.2.2.1 c (fun z => by rw [z, sk_69] at hc; cases hc) (fun z => by rw [z, sk_7] at hc; cases hc) (fun z => by rw [z, sk_64] at hc; cases hc) (fun z => by rw [z, sk_66] at hc; cases hc) (fun z => by rw [z, sk_67] at hc; cases hc)⟩
section CN
variable {X : List Int32} {S : ST} {n fn Z : Nat} {sz ord : Nat → Nat} {wt : Nat → Int} {ro : Nat → Bool} {Fn : Nat → Nat → Bool} {nm : Nat → Int64} {sd : Option (Nat → Bool)} {tr tn : Int} {up lo : Int64} {y : Nat → Nat} {s d : Nat}
theorem CI_Z {S' : ST} {Fn' : Nat → Nat → Bool} {nm' : Nat → Int64} (h : CI S n sz wt ro fn Fn nm ord sd tr tn up lo Z) (hz : frZ fn S S') (h76 : SI S' 7 6 = ((d : Nat) : Int)) (hfd : fn + d ≤ 40) (hrow : ∀ i, i < fn + d → rowS S' (9 + i) 0 (Fn' i)) (hnm : ∀ i, i < fn + d → SL S' 49 i = nm' i) (htb : ∀ i, i < fn + d → tbT (pr sz n) (Fn' i)) (hag : ∀ i, i < fn → Fn' i = Fn i) : CId S' n sz wt ro fn d Fn' nm' ord sd tr tn up lo Z := by
  obtain ⟨⟨v1, v2, v3, v4, v5⟩, hwC, ⟨wb, hgC⟩, ⟨f1, f2, f3, f4, f5, f6, f7⟩, ⟨b, R, pl, D, U, rt, ⟨⟨hG, hc, hu, hO, ho⟩, hrt, h40, htt⟩, hro, hsd, hz1, hz2⟩, t1, t2, t3, t4⟩ := h
  obtain ⟨z1, z2, z3, z4, z5, z6⟩ := hz
  have hb := hG.1.1
  have hI : ∀ c, (c < 7 ∨ (7 < c ∧ c < 64) ∨ 176 < c) → SI S' c = SI S c := fun c hc => z3 c (by omega) (by omega) (by omega) (by omega) (by omega)
  refine ⟨⟨v1, ?_, ?_, ?_, ?_⟩, ?_, ⟨wb, ?_⟩, ⟨?_, h76, hfd, hrow, fun k hk => ?_, hnm, htb⟩, ⟨b, R, pl, D, U, rt, ⟨⟨dG_cg (S := S) z1 z2 (hI _ (by omega)) (hI _ (by omega)) (hI _ (by omega)) (hI _ (by omega)) (hI _ (by omega)) (hI _ (by omega)) (hI _ (by omega)) hG, hc, hu, ?_, ho⟩, fun f hf => ⟨(hrt f hf).1, (hrt f hf).2.trans (hag f hf).symm⟩, h40, fun f hf => htb f (by omega)⟩, ?_, ?_, ?_, ?_⟩, ?_, ?_, ?_, ?_⟩
  · rw [hI 1 (by omega)]; exact v2
  · rw [hI 1 (by omega)]; exact v3
  · rw [hI 2 (by omega)]; exact v4
  · rw [hI 3 (by omega)]; exact v5
  · unfold wC at *
    rw [hI 4 (by omega), hI 5 (by omega)]
    exact hwC
  · unfold gC at *
    rw [hI 1 (by omega), z5 6 (by omega)]
    exact hgC
  · rw [z4 5 (by decide)]; exact f1
  · rw [z5 51 (by omega)]
    exact f5 k hk
  · unfold oC at *
    rw [hI 53 (by omega), hI 54 (by omega)]
    exact hO
  · rw [hI 50 (by omega)]
    exact hro
  · unfold cSd at *
    rw [hI 0 (by omega)]
    exact hsd
  · unfold tz at *
    rw [z1]
    exact hz1
  · rw [z1]
    exact hz2
  · rw [hI 0 (by omega)]; exact t1
  · rw [hI 0 (by omega)]; exact t2
  · rw [z5 0 (by omega)]; exact t3
  · rw [z5 0 (by omega)]; exact t4
theorem k_Read (h : CI S n sz wt ro fn Fn nm ord sd tr tn up lo Z) (hY : SYM X) (ht : tp S y s) : sM X 152 136 [.ref 0] S (fun r S' => ∃ C, agC C y s ∧ frV S S' ∧ SI S' 64 4 = 0 ∧ ((tx (tk y s) C n sz fn Fn nm (nTx (tk y s) C n sz fn Fn nm)).1 = 0 → r = some (.int (iI (((tx (tk y s) C n sz fn Fn nm (nTx (tk y s) C n sz fn Fn nm)).2.2.1 : Nat) : Int))) ∧ SI S' 69 6 = 0 ∧ CI S' n sz wt ro (fn + (tx (tk y s) C n sz fn Fn nm (nTx (tk y s) C n sz fn Fn nm)).2.2.1) (tx (tk y s) C n sz fn Fn nm (nTx (tk y s) C n sz fn Fn nm)).2.2.2.1 (tx (tk y s) C n sz fn Fn nm (nTx (tk y s) C n sz fn Fn nm)).2.2.2.2 ord sd tr tn up lo Z) ∧ ((tx (tk y s) C n sz fn Fn nm (nTx (tk y s) C n sz fn Fn nm)).1 ≠ 0 → r = some (.int (iI (-1000 - ((tA y s (tx (tk y s) C n sz fn Fn nm (nTx (tk y s) C n sz fn Fn nm)).2.1 : Nat) : Int)))) ∧ SI S' 69 6 = (((tx (tk y s) C n sz fn Fn nm (nTx (tk y s) C n sz fn Fn nm)).1 : Nat) : Int) ∧ CI S' n sz wt ro fn Fn nm ord sd tr tn up lo Z)) := by
  have hCI := h
  obtain ⟨hvC, hwC, _, ⟨f1, f2, f3, f4, f5, f6, f7⟩, _⟩ := h
  obtain ⟨S0, hS0⟩ : ∃ S0, S0 = S := ⟨_, rfl⟩
  refine sIni (ls := [some (.ref 0), none, none]) rfl ?_
  refine sL (pc' := 1) (i := .aload_n 0) rfl rfl ?_
  refine sGc (p := 4) rfl rfl (sk_0 _) rfl rfl rfl ?_
  refine sCvQ (p := 7) (as := []) rfl rfl rfl rfl (by decide) (Nat.le_of_ble_eq_true rfl) rfl (Nat.le_of_ble_eq_true rfl) (sk_69 _) rfl (by omega) (c_readText hY ht ⟨hvC, f5, f1, f2, f3, f4, f6⟩) ?_
  rintro r S1 ⟨C, hag, hz, h4, hy, hx⟩
  obtain ⟨g9, kf, pf, rfl, hkf, hkq, hk5, hpf, hg9, hpq⟩ : ∃ g9 kf pf : Nat, r = some (.int (iI ((g9 : Nat) : Int))) ∧ SI S1 69 6 = ((kf : Nat) : Int) ∧ kf = (tx (tk y s) C n sz fn Fn nm (nTx (tk y s) C n sz fn Fn nm)).1 ∧ kf ≤ 5 ∧ (kf ≠ 0 → SI S1 69 7 = ((pf : Nat) : Int)) ∧ (kf = 0 → g9 = (tx (tk y s) C n sz fn Fn nm (nTx (tk y s) C n sz fn Fn nm)).2.2.1) ∧ pf = tA y s (tx (tk y s) C n sz fn Fn nm (nTx (tk y s) C n sz fn Fn nm)).2.1 := by
    by_cases q : (tx (tk y s) C n sz fn Fn nm (nTx (tk y s) C n sz fn Fn nm)).1 = 0
    · exact ⟨_, 0, _, (hy q).1, (hy q).2.1, q.symm, by omega, fun z => absurd rfl z, fun _ => rfl, rfl⟩
    · exact ⟨0, _, _, (hx q).1, (hx q).2.1, rfl, (hx q).2.2.2.2, fun _ => (hx q).2.2.1, fun z => absurd z q, rfl⟩
  refine sL (pc' := 8) (i := .istore_n 1) (ls' := [some (.ref 0), some (.int (iI ((g9 : Nat) : Int))), none]) rfl rfl ?_
  refine sL (pc' := 9) (i := .aload_n 0) rfl rfl ?_
  refine sGc (p := 12) rfl rfl (sk_0 _) rfl rfl rfl ?_
  refine sGi (p := 15) rfl rfl (sk_69 _) rfl rfl rfl hkf ?_
  refine sIf_eq (p := 18) rfl rfl ⟨by omega, by omega⟩ (fun c1 => ?_) (fun c1 => ?_)
  · have c1 := c1
    have hk0 : kf = 0 := by omega
    have hq0 : (tx (tk y s) C n sz fn Fn nm (nTx (tk y s) C n sz fn Fn nm)).1 = 0 := by omega
    have hy := hy hq0
    have hg := hg9 hk0
    have hE := hy.2.2
    have hE6 := hE.2.2.2.2.2.2.2.1
    have hC1 : CId S1 n sz wt ro fn g9 (tx (tk y s) C n sz fn Fn nm (nTx (tk y s) C n sz fn Fn nm)).2.2.2.1 (tx (tk y s) C n sz fn Fn nm (nTx (tk y s) C n sz fn Fn nm)).2.2.2.2 ord sd tr tn up lo Z := by
      rw [hg]
      exact CI_Z hCI hz hE.2.2.2.2.2.2.1 hE.2.2.2.2.2.2.2.1 hE.2.2.2.2.2.2.2.2.1 hE.2.2.2.2.2.2.2.2.2 (tb_tx f7 _).1 (fun i hi => ((tb_tx f7 _).2 i hi).1)
    rw [← hg] at hE6
    have hV1 : frV S0 S1 := by rw [hS0]; exact frV_Z hz
    refine sKi (p := 31) rfl rfl ?_
    refine sL (pc' := 32) (i := .istore_n 2) (ls' := [some (.ref 0), some (.int (iI ((g9 : Nat) : Int))), some (.int (iI 0))]) rfl rfl ?_
    refine sItR (A := fun t => [some (.ref 0), some (.int (iI ((g9 : Nat) : Int))), some (.int (iI ((t : Nat) : Int)))]) (fun t S => CId S n sz wt ro (fn + t) (g9 - t) (tx (tk y s) C n sz fn Fn nm (nTx (tk y s) C n sz fn Fn nm)).2.2.2.1 (tx (tk y s) C n sz fn Fn nm (nTx (tk y s) C n sz fn Fn nm)).2.2.2.2 ord sd tr tn up lo Z ∧ frV S0 S ∧ SI S 64 4 = 0 ∧ SI S 69 6 = 0) g9 (⟨hC1, hV1, h4, hy.2.1⟩) (fun t hi32 Sa hJ32 ih32 => ?_) (fun Saf hJ32 => ?_)
    · have hi32 := hi32
      obtain ⟨hCa, hVa, h4a, h6a⟩ := hJ32
      refine sL (pc' := 33) (i := .iload_n 2) rfl rfl ?_
      refine sL (pc' := 34) (i := .iload_n 1) rfl rfl ?_
      refine sIc_ge (p := 37) rfl rfl ⟨by omega, by omega⟩ ⟨by omega, by omega⟩ (fun c2 => ?_) (fun c2 => ?_)
      · exfalso; omega
      · have c2 := c2
        refine sL (pc' := 38) (i := .aload_n 0) rfl rfl ?_
        refine sCvQ (p := 41) (as := []) rfl rfl rfl rfl (by decide) (Nat.le_of_ble_eq_true rfl) rfl (Nat.le_of_ble_eq_true rfl) (sk_0 _) rfl (by omega) (CId_adopt (d := g9 - (t + 1)) (by rw [show g9 - (t + 1) + 1 = g9 - t from by omega]; exact hCa)) ?_
        rintro _ Sb ⟨rfl, hCb, hfb⟩
        refine sL (pc' := 42) (i := .pop) rfl rfl ?_
        refine sInX (z := ((t : Nat) : Int)) (ls' := [some (.ref 0), some (.int (iI ((g9 : Nat) : Int))), some (.int (iI (((t : Nat) : Int) + 1)))]) (p := 45) rfl rfl (Nat.le_of_ble_eq_true rfl) rfl rfl ?_
        refine sL (i := .goto (-13)) rfl rfl ?_
        refine sFg (ls := [some (.ref 0), some (.int (iI ((g9 : Nat) : Int))), some (.int (iI ((t + 1 : Nat) : Int)))]) (xx_ll_le (And.intro rfl (And.intro rfl (And.intro rfl (True.intro))))) (ih32 _ ?_)
        exact ⟨hCb, frV_trans hVa (frV_X hfb), (congrFun (hfb.2.1 64 (by omega) (by omega)).1 4).trans h4a, (congrFun (hfb.2.1 69 (by omega) (by omega)).1 6).trans h6a⟩
    · have hJ32 := hJ32
      obtain ⟨hCa, hVa, h4a, h6a⟩ := hJ32
      refine sL (pc' := 33) (i := .iload_n 2) rfl rfl ?_
      refine sL (pc' := 34) (i := .iload_n 1) rfl rfl ?_
      refine sIc_ge (p := 37) rfl rfl ⟨by omega, by omega⟩ ⟨by omega, by omega⟩ (fun c3 => ?_) (fun c3 => ?_)
      · have c3 := c3
        refine sL (pc' := 49) (i := .iload_n 1) rfl rfl ?_
        refine sEn (i := .ireturn) rfl (rfl) ?_
        refine ⟨C, hag, by rw [← hS0]; exact hVa, h4a, fun q => ⟨by rw [hg], h6a, ?_⟩, fun q => absurd hq0 q⟩
        rw [Nat.sub_self] at hCa
        rw [← hg]
        exact CId_0 hCa
      · exfalso; omega
  · have c1 := c1
    have hpf := hpf (by omega)
    have hq0 : (tx (tk y s) C n sz fn Fn nm (nTx (tk y s) C n sz fn Fn nm)).1 ≠ 0 := by omega
    have hpb : pf ≤ 400 := by rw [hpq]; have := (tA_ok (y := y) (s := s) (tx (tk y s) C n sz fn Fn nm (nTx (tk y s) C n sz fn Fn nm)).2.1).2; have := ht.1; omega
    refine sKs (p := 21) rfl rfl ?_
    refine sL (pc' := 22) (i := .aload_n 0) rfl rfl ?_
    refine sGc (p := 25) rfl rfl (sk_0 _) rfl rfl rfl ?_
    refine sGi (p := 28) rfl rfl (sk_69 _) rfl rfl rfl hpf ?_
    refine sSb (p := 29) rfl rfl ?_
    refine sEn (i := .ireturn) rfl (rfl) ?_
    refine ⟨C, hag, frV_Z hz, h4, fun q => absurd q hq0, fun q => ⟨by rw [hpq], hkf.trans (by rw [hkq]), ?_⟩⟩
    exact CId_0 (CI_Z (d := 0) hCI hz (hx q).2.2.2.1 f3 (fun i hi k hk => by rw [hz.2.2.2.2.1 (9 + i) (by omega)]; exact f4 i hi k hk) (fun i hi => (hz.2.2.2.2.2 i hi).trans (f6 i hi)) f7 (fun _ _ => rfl))
theorem k_Fault {z : Int} (h : SI S 69 6 = z) : sM X 0 137 [.ref 0] S (sV (some (.int (iI z))) S) := by
  refine sIni (ls := [some (.ref 0)]) rfl ?_
  refine sL (pc' := 1) (i := .aload_n 0) rfl rfl ?_
  refine sGc (p := 4) rfl rfl (sk_0 _) rfl rfl rfl ?_
  refine sGi (p := 7) rfl rfl (sk_69 _) rfl rfl rfl h ?_
  refine sEn (i := .ireturn) rfl (rfl) ?_
  exact ⟨rfl, rfl⟩
end CN
