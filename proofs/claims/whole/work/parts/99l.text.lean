/-! ===== the class's reader: texts ===== -/
/-- a text, definition by definition: fault, token, how many, functions, names -/
def tx (K : Nat → Nat) (C : Nat → Int64) (n : Nat) (sz : Nat → Nat) (fn : Nat) (Fn : Nat → Nat → Bool) (nm : Nat → Int64) : Nat → Nat × Nat × Nat × (Nat → Nat → Bool) × (Nat → Int64)
  | 0 => (0, 0, 0, Fn, nm)
  | t + 1 => if (pDef K C n sz (fn + (tx K C n sz fn Fn nm t).2.2.1) (tx K C n sz fn Fn nm t).2.2.2.1 (tx K C n sz fn Fn nm t).2.2.2.2 (tx K C n sz fn Fn nm t).2.1).1 = 0
    then (0, (pDef K C n sz (fn + (tx K C n sz fn Fn nm t).2.2.1) (tx K C n sz fn Fn nm t).2.2.2.1 (tx K C n sz fn Fn nm t).2.2.2.2 (tx K C n sz fn Fn nm t).2.1).2.1, (tx K C n sz fn Fn nm t).2.2.1 + 1, lup (tx K C n sz fn Fn nm t).2.2.2.1 (fn + (tx K C n sz fn Fn nm t).2.2.1) (pDef K C n sz (fn + (tx K C n sz fn Fn nm t).2.2.1) (tx K C n sz fn Fn nm t).2.2.2.1 (tx K C n sz fn Fn nm t).2.2.2.2 (tx K C n sz fn Fn nm t).2.1).2.2, nup (tx K C n sz fn Fn nm t).2.2.2.2 (fn + (tx K C n sz fn Fn nm t).2.2.1) (C (tx K C n sz fn Fn nm t).2.1))
    else ((pDef K C n sz (fn + (tx K C n sz fn Fn nm t).2.2.1) (tx K C n sz fn Fn nm t).2.2.2.1 (tx K C n sz fn Fn nm t).2.2.2.2 (tx K C n sz fn Fn nm t).2.1).1, (pDef K C n sz (fn + (tx K C n sz fn Fn nm t).2.2.1) (tx K C n sz fn Fn nm t).2.2.2.1 (tx K C n sz fn Fn nm t).2.2.2.2 (tx K C n sz fn Fn nm t).2.1).2.1, (tx K C n sz fn Fn nm t).2.2.1, (tx K C n sz fn Fn nm t).2.2.2.1, (tx K C n sz fn Fn nm t).2.2.2.2)
def tgo (K : Nat → Nat) (q : Nat × Nat × Nat × (Nat → Nat → Bool) × (Nat → Int64)) : Bool := decide (q.1 = 0 ∧ K q.2.1 ≠ 264)
def nTx (K : Nat → Nat) (C : Nat → Int64) (n : Nat) (sz : Nat → Nat) (fn : Nat) (Fn : Nat → Nat → Bool) (nm : Nat → Int64) : Nat := fbF (fun t => ! (tgo K (tx K C n sz fn Fn nm t))) 400 0
def frZ (fn : Nat) (S S' : ST) : Prop := S'.1 = S.1 ∧ SR S' = SR S ∧ (∀ c, c ≠ 69 → c ≠ 7 → c ≠ 64 → c ≠ 66 → c ≠ 67 → SI S' c = SI S c) ∧ (∀ k, k ≠ 6 → SI S' 7 k = SI S 7 k) ∧ (∀ c, (c < 9 + fn ∨ (49 < c ∧ c < 68) ∨ (68 < c ∧ c < 71) ∨ 176 < c) → SL S' c = SL S c) ∧ ∀ i, i < fn → SL S' 49 i = SL S 49 i
section RT
variable {X : List Int32} {S : ST} {K A : Nat → Nat} {C : Nat → Int64} {m n fn dr : Nat} {sz : Nat → Nat} {Fn : Nat → Nat → Bool} {nm : Nat → Int64} {y : Nat → Nat} {s : Nat}
theorem frZ_refl : frZ fn S S := ⟨rfl, rfl, fun _ _ _ _ _ _ => rfl, fun _ _ => rfl, fun _ _ => rfl, fun _ _ => rfl⟩
theorem frZ_trans {T V : ST} (h : frZ fn S T) (k : frZ fn T V) : frZ fn S V := ⟨k.1.trans h.1, k.2.1.trans h.2.1, fun c h1 h2 h3 h4 h5 => (k.2.2.1 c h1 h2 h3 h4 h5).trans (h.2.2.1 c h1 h2 h3 h4 h5), fun c h1 => (k.2.2.2.1 c h1).trans (h.2.2.2.1 c h1), fun c h1 => (k.2.2.2.2.1 c h1).trans (h.2.2.2.2.1 c h1), fun c h1 => (k.2.2.2.2.2 c h1).trans (h.2.2.2.2.2 c h1)⟩
theorem frZ_Y {T : ST} (h : frY fn S T) : frZ fn S T := ⟨h.1, h.2.1, fun c h1 h2 _ _ _ => h.2.2.1 c h1 h2, h.2.2.2.1, fun c hc => h.2.2.2.2.1 c (by omega), h.2.2.2.2.2⟩
theorem frZ_S {T : ST} (hf : fn ≤ 40) (h : frS S T) : frZ fn S T := ⟨h.1, h.2.1, fun c _ _ h3 h4 h5 => h.2.2.1 c h3 h4 h5, fun k _ => by rw [h.2.2.1 7 (by decide) (by decide) (by decide)], fun c hc => h.2.2.2 c (by omega), fun i _ => by rw [h.2.2.2 49 (by decide)]⟩
theorem frZ_9 {k : Nat} {z : Int} : frZ fn S (wI S 69 k z) := ⟨rfl, rfl, fun c h1 _ _ _ _ => funext fun j => rI_ne h1 j, fun k _ => rI_ne (by decide) _, fun _ _ => rfl, fun _ _ => rfl⟩
theorem frZ_7 {z : Int} : frZ fn S (wI S 7 6 z) := ⟨rfl, rfl, fun c _ h1 _ _ _ => funext fun j => rI_ne h1 j, fun k hk => rI_nj hk, fun _ _ => rfl, fun _ _ => rfl⟩
theorem nTx_ok (K : Nat → Nat) (C : Nat → Int64) (n : Nat) (sz : Nat → Nat) (fn : Nat) (Fn : Nat → Nat → Bool) (nm : Nat → Int64) : nTx K C n sz fn Fn nm ≤ 400 ∧ (∀ t, t < nTx K C n sz fn Fn nm → (tx K C n sz fn Fn nm t).1 = 0 ∧ K (tx K C n sz fn Fn nm t).2.1 ≠ 264) ∧ (nTx K C n sz fn Fn nm < 400 → ¬ ((tx K C n sz fn Fn nm (nTx K C n sz fn Fn nm)).1 = 0 ∧ K (tx K C n sz fn Fn nm (nTx K C n sz fn Fn nm)).2.1 ≠ 264)) := by
  have h := fbF_ok (fun t => ! (tgo K (tx K C n sz fn Fn nm t))) 400 0
  rw [Nat.zero_add] at h
  refine ⟨h.1.2, fun t ht => ?_, fun hN z => ?_⟩
  · have h1 : (! (tgo K (tx K C n sz fn Fn nm t))) = false := h.2.1 t (Nat.zero_le _) ht
    cases h2 : tgo K (tx K C n sz fn Fn nm t) with
    | true => exact of_decide_eq_true h2
    | false =>
      rw [h2] at h1
      cases h1
  · have h1 : (! (tgo K (tx K C n sz fn Fn nm (nTx K C n sz fn Fn nm)))) = true := h.2.2 hN
    rw [show tgo K (tx K C n sz fn Fn nm (nTx K C n sz fn Fn nm)) = true from decide_eq_true z] at h1
    cases h1
theorem c_rewind (hY : SYM X) (ht : tp S y s) : sM X 9 86 [.ref 69] S (fun r S' => r = none ∧ ∃ S1, S' = wI (wI S1 69 4 0) 69 5 ((tk y s 0 : Nat) : Int) ∧ SI S1 64 4 = 0 ∧ SI S1 64 6 = ((nT y s + 1 : Nat) : Int) ∧ tkS S1 y s (nT y s + 1) ∧ frS S S1) := by
  refine sIni (ls := [some (.ref 69)]) rfl ?_
  refine sL (pc' := 1) (i := .aload_n 0) rfl rfl ?_
  refine sGc (p := 4) rfl rfl (sk_69 _) rfl rfl rfl ?_
  refine sCvQ (p := 7) (as := []) rfl rfl rfl rfl (by decide) (Nat.le_of_ble_eq_true rfl) rfl (Nat.le_of_ble_eq_true rfl) (sk_64 _) rfl (by omega) (c_scan hY ht) ?_
  rintro _ S1 ⟨rfl, h41, h61, hk1, hf1⟩
  refine sL (pc' := 8) (i := .aload_n 0) rfl rfl ?_
  refine sKi (p := 9) rfl rfl ?_
  refine sPi (z := 0) (p := 12) rfl rfl (sk_69 _) rfl rfl rfl rfl ?_
  refine sL (pc' := 13) (i := .aload_n 0) rfl rfl ?_
  refine sL (pc' := 14) (i := .aload_n 0) rfl rfl ?_
  refine sGc (p := 17) rfl rfl (sk_69 _) rfl rfl rfl ?_
  refine sGc (p := 20) rfl rfl (sk_64 _) rfl rfl rfl ?_
  refine sKi (p := 21) rfl rfl ?_
  refine sAi (p := 22) (i := 0) rfl rfl (sk_66 _) (by omega) ⟨by omega, by omega⟩ ((rI_ne (by decide) _).trans (hk1 0 (by omega)).1) ?_
  refine sPi (z := ((tk y s 0 : Nat) : Int)) (p := 25) rfl rfl (sk_69 _) rfl rfl rfl rfl ?_
  refine sEn (i := .return_) rfl (rfl) ?_
  exact ⟨rfl, S1, rfl, h41, h61, hk1, hf1⟩
/-- what text reading needs -/
def tE0 (S : ST) (n : Nat) (sz : Nat → Nat) (fn : Nat) (Fn : Nat → Nat → Bool) (nm : Nat → Int64) : Prop := vC S n sz ∧ rowS S 51 0 (evr (pr sz n)) ∧ SI S 7 5 = ((fn : Nat) : Int) ∧ SI S 7 6 = ((0 : Nat) : Int) ∧ fn ≤ 40 ∧ (∀ i, i < fn → rowS S (9 + i) 0 (Fn i)) ∧ ∀ i, i < fn → SL S 49 i = nm i
def agC (C : Nat → Int64) (y : Nat → Nat) (s : Nat) : Prop := ∀ k, k ≤ nT y s → (tk y s k = 258 ∨ tk y s k = 259) → C k = tC y s (tA y s k)
theorem rdE_0 {S' : ST} (h0 : tE0 S n sz fn Fn nm) (hz : frZ fn S S') (hs : s ≤ 400) (h76 : SI S' 7 6 = ((0 : Nat) : Int)) (h6 : SI S' 64 6 = ((nT y s + 1 : Nat) : Int)) (hk : tkS S' y s (nT y s + 1)) : rdE S' (tk y s) (tA y s) (SL S' 68) (nT y s) n sz fn 0 Fn nm := by
  obtain ⟨h3, h4, h5, h7, h8, h9, h10⟩ := h0
  obtain ⟨f1, f2, f3, f4, f5, f6⟩ := hz
  have hn := nT_ok y s
  refine ⟨⟨by omega, fun k => tK_lt _, hn.2.1, hn.2.2⟩, h6, fun k hk2 => ⟨(hk k (by omega)).1, (hk k (by omega)).2.1, rfl⟩, ?_, fun k hk2 => by rw [f5 51 (by omega)]; exact h4 k hk2, by rw [f4 5 (by decide)]; exact h5, h76, by omega, fun i hi k hk2 => by rw [f5 (9 + i) (by omega)]; exact h9 i (by omega) k hk2, fun i hi => by rw [f6 i (by omega)]; exact h10 i (by omega)⟩
  · obtain ⟨v1, v2, v3, v4, v5⟩ := h3
    exact ⟨v1, by rw [f3 1 (by decide) (by decide) (by decide) (by decide) (by decide)]; exact v2, by rw [f3 1 (by decide) (by decide) (by decide) (by decide) (by decide)]; exact v3, fun i hi => by rw [f3 2 (by decide) (by decide) (by decide) (by decide) (by decide)]; exact v4 i hi, fun i hi => by rw [f3 3 (by decide) (by decide) (by decide) (by decide) (by decide)]; exact v5 i hi⟩
theorem c_readText (hY : SYM X) (ht : tp S y s) (h0 : tE0 S n sz fn Fn nm) : sM X 151 84 [.ref 69] S (fun r S' => ∃ C, agC C y s ∧ frZ fn S S' ∧ SI S' 64 4 = 0 ∧ ((tx (tk y s) C n sz fn Fn nm (nTx (tk y s) C n sz fn Fn nm)).1 = 0 → r = some (.int (iI (((tx (tk y s) C n sz fn Fn nm (nTx (tk y s) C n sz fn Fn nm)).2.2.1 : Nat) : Int))) ∧ SI S' 69 6 = 0 ∧ rdE S' (tk y s) (tA y s) C (nT y s) n sz fn (tx (tk y s) C n sz fn Fn nm (nTx (tk y s) C n sz fn Fn nm)).2.2.1 (tx (tk y s) C n sz fn Fn nm (nTx (tk y s) C n sz fn Fn nm)).2.2.2.1 (tx (tk y s) C n sz fn Fn nm (nTx (tk y s) C n sz fn Fn nm)).2.2.2.2) ∧ ((tx (tk y s) C n sz fn Fn nm (nTx (tk y s) C n sz fn Fn nm)).1 ≠ 0 → r = some (.int (iI 0)) ∧ SI S' 69 6 = (((tx (tk y s) C n sz fn Fn nm (nTx (tk y s) C n sz fn Fn nm)).1 : Nat) : Int) ∧ SI S' 69 7 = ((tA y s (tx (tk y s) C n sz fn Fn nm (nTx (tk y s) C n sz fn Fn nm)).2.1 : Nat) : Int) ∧ SI S' 7 6 = 0 ∧ (tx (tk y s) C n sz fn Fn nm (nTx (tk y s) C n sz fn Fn nm)).1 ≤ 5)) := by
  have hs := ht.1
  have hf40 := h0.2.2.2.2.1
  obtain ⟨S0, hS0⟩ : ∃ S0, S0 = S := ⟨_, rfl⟩
  refine sIni (ls := [some (.ref 69), none]) rfl ?_
  refine sL (pc' := 1) (i := .aload_n 0) rfl rfl ?_
  refine sKi (p := 2) rfl rfl ?_
  refine sPi (z := 0) (p := 5) rfl rfl (sk_69 _) rfl rfl rfl rfl ?_
  refine sL (pc' := 6) (i := .aload_n 0) rfl rfl ?_
  refine sCvQ (p := 9) (as := []) rfl rfl rfl rfl (by decide) (Nat.le_of_ble_eq_true rfl) rfl (Nat.le_of_ble_eq_true rfl) (sk_69 _) rfl (by omega) (c_rewind (S := wI S 69 6 0) hY (tp_w ht (by decide))) ?_
  rintro _ S3 ⟨rfl, S1, rfl, h41, h61, hk1, hf1⟩
  have hz2 : frZ fn S (wI (wI S1 69 4 0) 69 5 ((tk y s 0 : Nat) : Int)) := frZ_trans frZ_9 (frZ_trans (frZ_S hf40 hf1) (frZ_trans frZ_9 frZ_9))
  have hE2 : rdE (wI (wI S1 69 4 0) 69 5 ((tk y s 0 : Nat) : Int)) (tk y s) (tA y s) (SL S1 68) (nT y s) n sz fn 0 Fn nm := rdE_0 h0 hz2 hs ((rI_ne (by decide) _).trans ((rI_ne (by decide) _).trans ((congrFun (hf1.2.2.1 7 (by decide) (by decide) (by decide)) 6).trans ((rI_ne (by decide) _).trans h0.2.2.2.1)))) ((rI_ne (by decide) _).trans ((rI_ne (by decide) _).trans h61)) (fun k hk => ⟨(rI_ne (by decide) _).trans ((rI_ne (by decide) _).trans (hk1 k hk).1), (rI_ne (by decide) _).trans ((rI_ne (by decide) _).trans (hk1 k hk).2.1), (hk1 k hk).2.2⟩)
  have hag : agC (SL S1 68) y s := fun k hk hq => (hk1 k (by omega)).2.2 hq
  have h641 : SI (wI (wI S1 69 4 0) 69 5 ((tk y s 0 : Nat) : Int)) 64 4 = 0 := (rI_ne (by decide) _).trans ((rI_ne (by decide) _).trans h41)
  have hA2 : rA (wI (wI S1 69 4 0) 69 5 ((tk y s 0 : Nat) : Int)) (tk y s) 0 := ⟨(rI_nj (by decide)).trans rI_at, rI_at, (rI_nj (by decide)).trans ((rI_nj (by decide)).trans ((congrFun (hf1.2.2.1 69 (by decide) (by decide) (by decide)) 6).trans rI_at))⟩
  rw [← hS0] at hz2
  generalize SL S1 68 = C at *
  generalize wI (wI S1 69 4 0) 69 5 ((tk y s 0 : Nat) : Int) = S2 at *
  have hN := nTx_ok (tk y s) C n sz fn Fn nm
  have hK : ∀ k, tk y s k ≤ 265 := fun k => tK_lt _
  refine sKi (p := 10) rfl rfl ?_
  refine sL (pc' := 11) (i := .istore_n 1) (ls' := [some (.ref 69), some (.int (iI 0))]) rfl rfl ?_
  refine sItR (A := fun t => [some (.ref 69), some (.int (iI ((t : Nat) : Int)))]) (fun t S => frZ fn S0 S ∧ SI S 64 4 = 0 ∧ rS S (tk y s) (tA y s) (nT y s) (tx (tk y s) C n sz fn Fn nm t).1 (tx (tk y s) C n sz fn Fn nm t).2.1 ∧ rdE S (tk y s) (tA y s) C (nT y s) n sz fn (tx (tk y s) C n sz fn Fn nm t).2.2.1 (tx (tk y s) C n sz fn Fn nm t).2.2.2.1 (tx (tk y s) C n sz fn Fn nm t).2.2.2.2) (nTx (tk y s) C n sz fn Fn nm) (⟨hz2, h641, Or.inl ⟨rfl, Nat.zero_le _, hA2⟩, hE2⟩) (fun t hi11 Sa hJ11 ih11 => ?_) (fun Saf hJ11 => ?_)
  · have hi11 := hi11
    obtain ⟨hza, h4a, hra, hEa⟩ := hJ11
    have hgo := hN.2.1 t hi11
    obtain ⟨hia, hAa⟩ : (tx (tk y s) C n sz fn Fn nm t).2.1 ≤ nT y s ∧ rA Sa (tk y s) (tx (tk y s) C n sz fn Fn nm t).2.1 := by
      rcases hra with ⟨_, h1, h2⟩ | ⟨h1, _⟩
      · exact ⟨h1, h2⟩
      · exact absurd hgo.1 h1
    have hKa := hK (tx (tk y s) C n sz fn Fn nm t).2.1
    refine sL (pc' := 12) (i := .iload_n 1) rfl rfl ?_
    refine sKs (p := 15) rfl rfl ?_
    refine sIc_ge (p := 18) rfl rfl ⟨by omega, by omega⟩ ⟨by omega, by omega⟩ (fun c1 => ?_) (fun c1 => ?_)
    · exfalso; omega
    · have c1 := c1
      refine sL (pc' := 19) (i := .aload_n 0) rfl rfl ?_
      refine sGi (p := 22) rfl rfl (sk_69 _) rfl rfl rfl hAa.2.1 ?_
      refine sKs (p := 25) rfl rfl ?_
      refine sIc_eq (p := 28) rfl rfl ⟨by omega, by omega⟩ ⟨by omega, by omega⟩ (fun c2 => ?_) (fun c2 => ?_)
      · exfalso; omega
      · have c2 := c2
        refine sL (pc' := 29) (i := .aload_n 0) rfl rfl ?_
        refine sGi (p := 32) rfl rfl (sk_69 _) rfl rfl rfl hAa.2.1 ?_
        refine sKs (p := 35) rfl rfl ?_
        refine sIc_eq (p := 38) rfl rfl ⟨by omega, by omega⟩ ⟨by omega, by omega⟩ (fun c3 => ?_) (fun c3 => ?_)
        · exfalso; omega
        · have c3 := c3
          refine sL (pc' := 39) (i := .aload_n 0) rfl rfl ?_
          refine sCvQ (p := 42) (as := []) rfl rfl rfl rfl (by decide) (Nat.le_of_ble_eq_true rfl) rfl (Nat.le_of_ble_eq_true rfl) (sk_69 _) rfl (by omega) (c_readDefinition hEa hAa hia _ rfl) ?_
          rintro _ Sb ⟨rfl, hfb, hyb, hxb⟩
          refine sInX (z := ((t : Nat) : Int)) (ls' := [some (.ref 69), some (.int (iI (((t : Nat) : Int) + 1)))]) (p := 45) rfl rfl (Nat.le_of_ble_eq_true rfl) rfl rfl ?_
          refine sL (i := .goto (-34)) rfl rfl ?_
          refine sFg (ls := [some (.ref 69), some (.int (iI ((t + 1 : Nat) : Int)))]) (xx_ll_le (And.intro rfl (And.intro rfl (True.intro)))) (ih11 _ ?_)
          have h4b : SI Sb 64 4 = 0 := by rw [hfb.2.2.1 64 (by decide) (by decide)]; exact h4a
          by_cases qd : (pDef (tk y s) C n sz (fn + (tx (tk y s) C n sz fn Fn nm t).2.2.1) (tx (tk y s) C n sz fn Fn nm t).2.2.2.1 (tx (tk y s) C n sz fn Fn nm t).2.2.2.2 (tx (tk y s) C n sz fn Fn nm t).2.1).1 = 0
          · have e9 : tx (tk y s) C n sz fn Fn nm (t + 1) = _ := if_pos qd
            have hy := hyb qd
            rw [e9]
            exact ⟨frZ_trans hza (frZ_Y hfb), h4b, Or.inl ⟨rfl, hy.1, hy.2.1⟩, hy.2.2.1⟩
          · have e9 : tx (tk y s) C n sz fn Fn nm (t + 1) = _ := if_neg qd
            have hy := hxb qd
            rw [e9]
            exact ⟨frZ_trans hza (frZ_Y hfb), h4b, Or.inr ⟨qd, hy.1⟩, hy.2⟩
  · have hJ11 := hJ11
    obtain ⟨hza, h4a, hra, hEa⟩ := hJ11
    obtain ⟨tkv, htk⟩ : ∃ tkv, SI Saf 69 5 = tkv := ⟨_, rfl⟩
    have htv := rS_tok hra
    rw [htk] at htv
    have hKf := hK (tx (tk y s) C n sz fn Fn nm (nTx (tk y s) C n sz fn Fn nm)).2.1
    have hrt : (0 ≤ tkv ∧ tkv ≤ 266) ∧ (nTx (tk y s) C n sz fn Fn nm < 400 → tkv = 264 ∨ tkv = 266) := by
      have hN3 := hN.2.2
      by_cases q0 : (tx (tk y s) C n sz fn Fn nm (nTx (tk y s) C n sz fn Fn nm)).1 = 0
      · rw [if_pos q0] at htv
        omega
      · rw [if_neg q0] at htv
        omega
    obtain ⟨kf, hfk, hkf5, hkf⟩ : ∃ kf : Nat, SI Saf 69 6 = ((kf : Nat) : Int) ∧ kf ≤ 5 ∧ kf = (tx (tk y s) C n sz fn Fn nm (nTx (tk y s) C n sz fn Fn nm)).1 := by
      rcases hra with ⟨h1, _, h2⟩ | ⟨h1, h2⟩
      · exact ⟨0, h2.2.2, by omega, h1.symm⟩
      · exact ⟨_, h2.2.2.1, h2.2.2.2.1.2, rfl⟩
    have h7f := hEa.2.2.2.2.2.2.1
    refine sL (pc' := 12) (i := .iload_n 1) rfl rfl ?_
    refine sKs (p := 15) rfl rfl ?_
    refine sIc_ge (p := 18) rfl rfl ⟨by omega, by omega⟩ ⟨by omega, by omega⟩ (fun c4 => ?_) (fun c4 => ?_)
    · have c4 := c4
      refine sL (pc' := 49) (i := .aload_n 0) rfl rfl ?_
      refine sGi (p := 52) rfl rfl (sk_69 _) rfl rfl rfl hfk ?_
      refine sIf_eq (p := 55) rfl rfl ⟨by omega, by omega⟩ (fun c5 => ?_) (fun c5 => ?_)
      · have c5 := c5
        refine sL (pc' := 64) (i := .aload_n 0) rfl rfl ?_
        refine sGc (p := 67) rfl rfl (sk_69 _) rfl rfl rfl ?_
        refine sGi (p := 70) rfl rfl (sk_7 _) rfl rfl rfl h7f ?_
        refine sEn (i := .ireturn) rfl (rfl) ?_
        rw [hS0] at hza
        exact ⟨C, hag, hza, h4a, fun q => ⟨rfl, hfk.trans (by rw [hkf, q]; rfl), hEa⟩, fun q => absurd hkf.symm (by omega)⟩
      · have c5 := c5
        refine sL (pc' := 56) (i := .aload_n 0) rfl rfl ?_
        refine sGc (p := 59) rfl rfl (sk_69 _) rfl rfl rfl ?_
        refine sKi (p := 60) rfl rfl ?_
        refine sPi (z := 0) (p := 63) rfl rfl (sk_7 _) rfl rfl rfl rfl ?_
        refine sL (pc' := 64) (i := .aload_n 0) rfl rfl ?_
        refine sGc (p := 67) rfl rfl (sk_69 _) rfl rfl rfl ?_
        refine sGi (p := 70) (z := 0) rfl rfl (sk_7 _) rfl rfl rfl rfl ?_
        refine sEn (i := .ireturn) rfl (rfl) ?_
        rw [hS0] at hza
        refine ⟨C, hag, frZ_trans hza frZ_7, (rI_ne (by decide) _).trans h4a, fun q => absurd q (by omega), fun q => ⟨rfl, (rI_ne (by decide) _).trans (hfk.trans (by rw [hkf])), ?_, rI_at, by omega⟩⟩
        rcases hra with ⟨h1, _⟩ | ⟨_, h2⟩
        · exact absurd h1 q
        · exact (rI_ne (by decide) _).trans h2.2.2.2.2
    · have c4 := c4
      refine sL (pc' := 19) (i := .aload_n 0) rfl rfl ?_
      refine sGi (p := 22) rfl rfl (sk_69 _) rfl rfl rfl htk ?_
      refine sKs (p := 25) rfl rfl ?_
      refine sIc_eq (p := 28) rfl rfl ⟨by omega, by omega⟩ ⟨by omega, by omega⟩ (fun c6 => ?_) (fun c6 => ?_)
      · have c6 := c6
        refine sL (pc' := 49) (i := .aload_n 0) rfl rfl ?_
        refine sGi (p := 52) rfl rfl (sk_69 _) rfl rfl rfl hfk ?_
        refine sIf_eq (p := 55) rfl rfl ⟨by omega, by omega⟩ (fun c7 => ?_) (fun c7 => ?_)
        · have c7 := c7
          refine sL (pc' := 64) (i := .aload_n 0) rfl rfl ?_
          refine sGc (p := 67) rfl rfl (sk_69 _) rfl rfl rfl ?_
          refine sGi (p := 70) rfl rfl (sk_7 _) rfl rfl rfl h7f ?_
          refine sEn (i := .ireturn) rfl (rfl) ?_
          rw [hS0] at hza
          exact ⟨C, hag, hza, h4a, fun q => ⟨rfl, hfk.trans (by rw [hkf, q]; rfl), hEa⟩, fun q => absurd hkf.symm (by omega)⟩
        · have c7 := c7
          refine sL (pc' := 56) (i := .aload_n 0) rfl rfl ?_
          refine sGc (p := 59) rfl rfl (sk_69 _) rfl rfl rfl ?_
          refine sKi (p := 60) rfl rfl ?_
          refine sPi (z := 0) (p := 63) rfl rfl (sk_7 _) rfl rfl rfl rfl ?_
          refine sL (pc' := 64) (i := .aload_n 0) rfl rfl ?_
          refine sGc (p := 67) rfl rfl (sk_69 _) rfl rfl rfl ?_
          refine sGi (p := 70) (z := 0) rfl rfl (sk_7 _) rfl rfl rfl rfl ?_
          refine sEn (i := .ireturn) rfl (rfl) ?_
          rw [hS0] at hza
          refine ⟨C, hag, frZ_trans hza frZ_7, (rI_ne (by decide) _).trans h4a, fun q => absurd q (by omega), fun q => ⟨rfl, (rI_ne (by decide) _).trans (hfk.trans (by rw [hkf])), ?_, rI_at, by omega⟩⟩
          rcases hra with ⟨h1, _⟩ | ⟨_, h2⟩
          · exact absurd h1 q
          · exact (rI_ne (by decide) _).trans h2.2.2.2.2
      · have c6 := c6
        refine sL (pc' := 29) (i := .aload_n 0) rfl rfl ?_
        refine sGi (p := 32) rfl rfl (sk_69 _) rfl rfl rfl htk ?_
        refine sKs (p := 35) rfl rfl ?_
        refine sIc_eq (p := 38) rfl rfl ⟨by omega, by omega⟩ ⟨by omega, by omega⟩ (fun c8 => ?_) (fun c8 => ?_)
        · have c8 := c8
          refine sL (pc' := 49) (i := .aload_n 0) rfl rfl ?_
          refine sGi (p := 52) rfl rfl (sk_69 _) rfl rfl rfl hfk ?_
          refine sIf_eq (p := 55) rfl rfl ⟨by omega, by omega⟩ (fun c9 => ?_) (fun c9 => ?_)
          · have c9 := c9
            refine sL (pc' := 64) (i := .aload_n 0) rfl rfl ?_
            refine sGc (p := 67) rfl rfl (sk_69 _) rfl rfl rfl ?_
            refine sGi (p := 70) rfl rfl (sk_7 _) rfl rfl rfl h7f ?_
            refine sEn (i := .ireturn) rfl (rfl) ?_
            rw [hS0] at hza
            exact ⟨C, hag, hza, h4a, fun q => ⟨rfl, hfk.trans (by rw [hkf, q]; rfl), hEa⟩, fun q => absurd hkf.symm (by omega)⟩
          · have c9 := c9
            refine sL (pc' := 56) (i := .aload_n 0) rfl rfl ?_
            refine sGc (p := 59) rfl rfl (sk_69 _) rfl rfl rfl ?_
            refine sKi (p := 60) rfl rfl ?_
            refine sPi (z := 0) (p := 63) rfl rfl (sk_7 _) rfl rfl rfl rfl ?_
            refine sL (pc' := 64) (i := .aload_n 0) rfl rfl ?_
            refine sGc (p := 67) rfl rfl (sk_69 _) rfl rfl rfl ?_
            refine sGi (p := 70) (z := 0) rfl rfl (sk_7 _) rfl rfl rfl rfl ?_
            refine sEn (i := .ireturn) rfl (rfl) ?_
            rw [hS0] at hza
            refine ⟨C, hag, frZ_trans hza frZ_7, (rI_ne (by decide) _).trans h4a, fun q => absurd q (by omega), fun q => ⟨rfl, (rI_ne (by decide) _).trans (hfk.trans (by rw [hkf])), ?_, rI_at, by omega⟩⟩
            rcases hra with ⟨h1, _⟩ | ⟨_, h2⟩
            · exact absurd h1 q
            · exact (rI_ne (by decide) _).trans h2.2.2.2.2
        · exfalso; omega
end RT
