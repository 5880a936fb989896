/-! ===== the class: printing over the builder's contracts ===== -/
/-- the builder holds a text; its room -/
def sbB (S : ST) (L : List Nat) (m : Nat) : Prop := kd S (SR S 177 0) = some (.inl (3, m)) ∧ (SR S 177 0 = 178 ∨ 203 ≤ SR S 177 0) ∧ L.length ≤ m ∧ m ≤ 60000 ∧ SI S 177 1 = 0 ∧ SI S 177 3 = ((L.length : Nat) : Int) ∧ (∀ j, j < L.length → SI S (SR S 177 0) j = ((L.getD j 0 : Nat) : Int) ∧ L.getD j 0 < 128) ∧ ∀ j, j < m → -128 ≤ SI S (SR S 177 0) j ∧ SI S (SR S 177 0) j ≤ 127
/-- the builder alone changed; it may have a new row -/
def frU (S S' : ST) (m m' : Nat) : Prop := (∃ t, S'.1 = S.1 ++ t) ∧ (∀ c, c < 203 + S.1.length → c ≠ 177 → c ≠ SR S 177 0 → SI S' c = SI S c) ∧ (∀ c, c < 203 + S.1.length → SL S' c = SL S c) ∧ (∀ c, c < 203 + S.1.length → c ≠ 177 → SR S' c = SR S c) ∧ (SR S' 177 0 = SR S 177 0 ∨ 203 + S.1.length ≤ SR S' 177 0) ∧ m ≤ m' ∧ tz S' + 2 * m ≤ tz S + 2 * m' ∧ S'.1.length + 2 * m ≤ S.1.length + 2 * m'
theorem frU_refl (S : ST) (m : Nat) : frU S S m m := ⟨⟨[], (List.append_nil _).symm⟩, fun _ _ _ _ => rfl, fun _ _ => rfl, fun _ _ _ => rfl, Or.inl rfl, Nat.le_refl _, Nat.le_refl _, Nat.le_refl _⟩
theorem frU_trans {S T V : ST} {m m1 m2 : Nat} (h : frU S T m m1) (k : frU T V m1 m2) : frU S V m m2 := by
  obtain ⟨⟨t, ht⟩, a2, a3, a4, a5, a6, a7, a8⟩ := h
  obtain ⟨⟨u, hu⟩, b2, b3, b4, b5, b6, b7, b8⟩ := k
  have hl : T.1.length = S.1.length + t.length := by rw [ht, List.length_append]
  refine ⟨⟨t ++ u, by rw [hu, ht, List.append_assoc]⟩, fun c h1 h2 h3 => (b2 c (by omega) h2 ?_).trans (a2 c h1 h2 h3), fun c h1 => (b3 c (by omega)).trans (a3 c h1), fun c h1 h2 => (b4 c (by omega) h2).trans (a4 c h1 h2), ?_, by omega, by omega, by omega⟩
  · rcases a5 with q | q
    · rw [q]
      exact h3
    · omega
  · rcases b5 with q | q
    · rw [q]
      exact a5
    · exact Or.inr (by omega)
theorem kd_app {S S' : ST} {t : List KD} (h : S'.1 = S.1 ++ t) {c : Nat} {k : KD} (hc : kd S c = some k) : kd S' c = some k := by
  unfold kd at *
  rw [h, ← List.append_assoc, List.getElem?_append_left (List.getElem?_eq_some_iff.mp hc).1]
  exact hc
theorem kd_b {S : ST} {c : Nat} {k : KD} (hc : kd S c = some k) : c < 203 + S.1.length := by
  have := kd_lt hc
  rw [sh_len] at this
  exact this
def SBC (X : List Int32) : Prop :=
  (∀ S L m c, sbB S L m → c < 128 → L.length < 20000 → sM X 12 287 [.ref 177, .int (iI ((c : Nat) : Int))] S (fun r S' => r = some (.ref 177) ∧ ∃ m', sbB S' (L ++ [c]) m' ∧ frU S S' m m'))
  ∧ (∀ S L m v, sbB S L m → v < 1000 → L.length + 3 ≤ 20000 → sM X 12 288 [.ref 177, .int (iI ((v : Nat) : Int))] S (fun r S' => r = some (.ref 177) ∧ ∃ m', sbB S' (L ++ dgt v) m' ∧ frU S S' m m'))
  ∧ (∀ S L m, sbB S L m → sM X 12 291 [.ref 177, .int (iI 0)] S (fun r S' => r = none ∧ sbB S' [] m ∧ frU S S' m m))
  ∧ (∀ S L m, sbB S L m → sM X 12 292 [.ref 177] S (sV (some (.int (iI ((L.length : Nat) : Int)))) S))
  ∧ (∀ S L m i, sbB S L m → i < L.length → sM X 12 290 [.ref 177, .int (iI ((i : Nat) : Int))] S (sV (some (.int (iI ((L.getD i 0 : Nat) : Int)))) S))
def sbT (S : ST) (L : List Nat) (b m : Nat) : Prop := sbB S L m ∧ L.length ≤ b
section CA
variable {X : List Int32} {S : ST} {L : List Nat} {m n b R : Nat} {sz : Nat → Nat}
theorem b_app {bb c : Nat} (hB : SBC X) (h : sbT S L bb m) (hc : c < 128) (hb : bb < 20000) : sM X 12 287 [.ref 177, .int (iI ((c : Nat) : Int))] S (fun r S' => r = some (.ref 177) ∧ ∃ m', sbT S' (L ++ [c]) (bb + 1) m' ∧ frU S S' m m') := by
  have hl := h.2
  refine sM.weaken (hB.1 S L m c h.1 hc (by omega)) ?_
  rintro r S' ⟨h1, m', h2, h3⟩
  exact ⟨h1, m', ⟨h2, by rw [List.length_append]; show L.length + 1 ≤ bb + 1; omega⟩, h3⟩
theorem b_num {bb v : Nat} (hB : SBC X) (h : sbT S L bb m) (hc : v < 1000) (hb : bb + 3 ≤ 20000) : sM X 12 288 [.ref 177, .int (iI ((v : Nat) : Int))] S (fun r S' => r = some (.ref 177) ∧ ∃ m', sbT S' (L ++ dgt v) (bb + 3) m' ∧ frU S S' m m') := by
  have hl := h.2
  have hd := dgt_b v
  refine sM.weaken (hB.2.1 S L m v h.1 hc (by omega)) ?_
  rintro r S' ⟨h1, m', h2, h3⟩
  exact ⟨h1, m', ⟨h2, by rw [List.length_append]; omega⟩, h3⟩
theorem U_I {S' : ST} {m' c q t : Nat} (hs : sbB S L m) (h : frU S S' m m') (hc : kd S c = some (.inl (t, q))) (ht : t ≠ 3) : SI S' c = SI S c := by
  refine h.2.1 c (kd_b hc) (fun z => ?_) (fun z => ?_)
  · rw [z, sk_177] at hc
    cases hc
  · rw [z, hs.1] at hc
    cases hc
    exact ht rfl
theorem dA_U {S' : ST} {m' : Nat} (hA : dA S b R) (h : frU S S' m m') : dA S' b R := by
  obtain ⟨⟨t, ht⟩, -, -, h4, -⟩ := h
  obtain ⟨a1, a2, a3, a4, a5, a6, a7, a8, a9, k0, k1, k2, k3, k4, k5⟩ := hA
  have e := h4 52 (by omega) (by decide)
  exact ⟨a1, a2, a3, by rw [e]; exact a4, by rw [e]; exact a5, by rw [e]; exact a6, by rw [e]; exact a7, by rw [e]; exact a8, by rw [e]; exact a9, kd_app ht k0, kd_app ht k1, kd_app ht k2, kd_app ht k3, kd_app ht k4, kd_app ht k5⟩
theorem vC_U {S' : ST} {m' : Nat} (hs : sbB S L m) (hv : vC S n sz) (h : frU S S' m m') : vC S' n sz := by
  have hq : ∀ c, c < 177 → SI S' c = SI S c := fun c hc => h.2.1 c (by omega) (by omega) (by have := hs.2.1; omega)
  unfold vC at *
  rw [hq 1 (by omega), hq 2 (by omega), hq 3 (by omega)]
  exact hv
theorem c_writeNode {x j v bb : Nat} {kk cd : Nat → Nat} (hB : SBC X) (hvC : vC S n sz) (hA : dA S b R) (hx : x < R) (hj : j + 2 < 1000) (hnu : SI S (b + 3) x = ((j + 2 : Nat) : Int)) (hv : SI S b x = ((v : Nat) : Int)) (hvn : v < n)
  (hk : ∀ k, k < sz v → SI S (b + 5) (x * 6 + k) = ((kk k : Nat) : Int) ∧ kk k < R ∧ (kk k ≤ 1 → cd k = kk k) ∧ (1 < kk k → SI S (b + 3) (kk k) = ((cd k : Nat) : Int)) ∧ cd k < 1000) (hs : sbT S L bb m) (hb : bb + 32 ≤ 20000) :
  sM X 13 52 [.ref 52, .int (iI ((x : Nat) : Int)), .ref 177] S (fun r S' => r = none ∧ ∃ m', sbT S' (L ++ dgt (j + 2) ++ [58] ++ dgt v ++ kdT cd (sz v) ++ [41]) (bb + 32) m' ∧ frU S S' m m') := by
  have hsv := hvC.1.2.1 v hvn
  have hn10 := hvC.1.1
  have hb58 := hA.1
  have hR1 := hA.2.1
  have hR2 := hA.2.2.1
  have hA0 := hA
  have hs0 := hs
  have r0 : ∀ {T : ST} {m1 : Nat}, frU S T m m1 → SI T b = SI S b := fun h => U_I hs.1 h hA.2.2.2.2.2.2.2.2.2.1 (by decide)
  have r3 : ∀ {T : ST} {m1 : Nat}, frU S T m m1 → SI T (b + 3) = SI S (b + 3) := fun h => U_I hs.1 h hA.2.2.2.2.2.2.2.2.2.2.2.2.1 (by decide)
  have r5 : ∀ {T : ST} {m1 : Nat}, frU S T m m1 → SI T (b + 5) = SI S (b + 5) := fun h => U_I hs.1 h hA.2.2.2.2.2.2.2.2.2.2.2.2.2.2 (by decide)
  obtain ⟨S0, hS0⟩ : ∃ S0, S0 = S := ⟨_, rfl⟩
  refine sIni (ls := [some (.ref 52), some (.int (iI ((x : Nat) : Int))), some (.ref 177), none, none]) rfl ?_
  refine sL (pc' := 1) (i := .aload_n 2) rfl rfl ?_
  refine sL (pc' := 2) (i := .aload_n 0) rfl rfl ?_
  refine sGr (p := 5) rfl rfl (sk_52 _) rfl rfl rfl hA.2.2.2.2.2.2.1 ?_
  refine sL (pc' := 6) (i := .iload_n 1) rfl rfl ?_
  refine sAi (p := 7) (i := x) rfl rfl hA.2.2.2.2.2.2.2.2.2.2.2.2.1 (by omega) ⟨by omega, by omega⟩ ((congrFun (r3 (frU_refl S m)) _).trans hnu) ?_
  refine sCvQ (p := 10) (as := [_]) rfl rfl rfl rfl (by decide) (Nat.le_of_ble_eq_true rfl) rfl (Nat.le_of_ble_eq_true rfl) (sk_177 _) rfl (by omega) (b_num (v := j + 2) hB hs (by omega) (by omega)) ?_
  rintro _ P1 ⟨rfl, m1, t1, f1⟩
  have u1 := frU_trans (frU_refl S m) f1
  refine sKb (p := 12) rfl rfl ?_
  refine sCvQ (p := 15) (as := [_]) rfl rfl rfl rfl (by decide) (Nat.le_of_ble_eq_true rfl) rfl (Nat.le_of_ble_eq_true rfl) (sk_177 _) rfl (by omega) (b_app (c := 58) hB t1 (by omega) (by omega)) ?_
  rintro _ P2 ⟨rfl, m2, t2, f2⟩
  have u2 := frU_trans u1 f2
  refine sL (pc' := 16) (i := .aload_n 0) rfl rfl ?_
  refine sGr (p := 19) rfl rfl (sk_52 _) rfl rfl rfl (dA_U hA u2).2.2.2.1 ?_
  refine sL (pc' := 20) (i := .iload_n 1) rfl rfl ?_
  refine sAi (p := 21) (i := x) rfl rfl (dA_U hA u2).2.2.2.2.2.2.2.2.2.1 (by omega) ⟨by omega, by omega⟩ ((congrFun (r0 u2) _).trans hv) ?_
  refine sCvQ (p := 24) (as := [_]) rfl rfl rfl rfl (by decide) (Nat.le_of_ble_eq_true rfl) rfl (Nat.le_of_ble_eq_true rfl) (sk_177 _) rfl (by omega) (b_num (v := v) hB t2 (by omega) (by omega)) ?_
  rintro _ P3 ⟨rfl, m3, t3, f3⟩
  have u3 := frU_trans u2 f3
  refine sL (pc' := 25) (i := .pop) rfl rfl ?_
  refine sKi (p := 26) rfl rfl ?_
  refine sL (pc' := 27) (i := .istore_n 3) (ls' := [some (.ref 52), some (.int (iI ((x : Nat) : Int))), some (.ref 177), some (.int (iI 0)), none]) rfl rfl ?_
  refine sItR (A := fun k => [some (.ref 52), some (.int (iI ((x : Nat) : Int))), some (.ref 177), some (.int (iI ((k : Nat) : Int))), none]) (fun k S => ∃ mk, sbT S ((L ++ dgt (j + 2) ++ [58] ++ dgt v) ++ kdT cd k) (bb + 3 + 1 + 3 + 4 * k) mk ∧ frU S0 S m mk) (sz v) (⟨_, by rw [show kdT cd 0 = [] from rfl, List.append_nil]; exact ⟨t3.1, Nat.le_trans t3.2 (by omega)⟩, by rw [hS0]; exact u3⟩) (fun k hi27 Sk hJ27 ih27 => ?_) (fun Skf hJ27 => ?_)
  · have hi27 := hi27
    obtain ⟨mk, hJ27t, hJ27u⟩ := hJ27
    rw [hS0] at hJ27u
    obtain ⟨hk1, hk2, hk3, hk4, hk5⟩ := hk k hi27
    refine sL (pc' := 28) (i := .iload_n 3) rfl rfl ?_
    refine sL (pc' := 29) (i := .aload_n 0) rfl rfl ?_
    refine sGc (p := 32) rfl rfl (sk_52 _) rfl rfl rfl ?_
    refine sL (pc' := 33) (i := .aload_n 0) rfl rfl ?_
    refine sGr (p := 36) rfl rfl (sk_52 _) rfl rfl rfl (dA_U hA hJ27u).2.2.2.1 ?_
    refine sL (pc' := 37) (i := .iload_n 1) rfl rfl ?_
    refine sAi (p := 38) (i := x) rfl rfl (dA_U hA hJ27u).2.2.2.2.2.2.2.2.2.1 (by omega) ⟨by omega, by omega⟩ ((congrFun (r0 hJ27u) _).trans hv) ?_
    refine sCv (p := 41) (as := [_]) rfl rfl rfl rfl (by decide) (Nat.le_of_ble_eq_true rfl) rfl (Nat.le_of_ble_eq_true rfl) (sk_1 _) rfl (by omega) (c_siz (vC_U hs.1 hvC hJ27u) hvn) ?_
    refine sIc_ge (p := 44) rfl rfl ⟨by omega, by omega⟩ ⟨by omega, by omega⟩ (fun c1 => ?_) (fun c1 => ?_)
    · exfalso; omega
    · have c1 := c1
      refine sL (pc' := 45) (i := .aload_n 0) rfl rfl ?_
      refine sGr (p := 48) rfl rfl (sk_52 _) rfl rfl rfl (dA_U hA hJ27u).2.2.2.2.2.2.2.2.1 ?_
      refine sL (pc' := 49) (i := .iload_n 1) rfl rfl ?_
      refine sKb (p := 51) rfl rfl ?_
      refine sMu (p := 52) rfl rfl ?_
      refine sL (pc' := 53) (i := .iload_n 3) rfl rfl ?_
      refine sAd (p := 54) rfl rfl ?_
      refine sAi (p := 55) (i := x * 6 + k) rfl rfl (dA_U hA hJ27u).2.2.2.2.2.2.2.2.2.2.2.2.2.2 (by omega) ⟨by omega, by omega⟩ ((congrFun (r5 hJ27u) _).trans hk1) ?_
      refine sL (pc' := 57) (i := .istore 4) (ls' := [some (.ref 52), some (.int (iI ((x : Nat) : Int))), some (.ref 177), some (.int (iI ((k : Nat) : Int))), some (.int (iI ((kk k : Nat) : Int)))]) rfl rfl ?_
      refine sL (pc' := 58) (i := .aload_n 2) rfl rfl ?_
      refine sL (pc' := 59) (i := .iload_n 3) rfl rfl ?_
      refine sIf_ne (p := 62) rfl rfl ⟨by omega, by omega⟩ (fun c2 => ?_) (fun c2 => ?_)
      · have c2 := c2
        refine sKb (p := 69) rfl rfl ?_
        refine sCvQ (p := 72) (as := [_]) rfl rfl rfl rfl (by decide) (Nat.le_of_ble_eq_true rfl) rfl (Nat.le_of_ble_eq_true rfl) (sk_177 _) rfl (by omega) (b_app (c := 44) hB hJ27t (by omega) (by omega)) ?_
        rintro _ P4 ⟨rfl, m4, t4, f4⟩
        have u4 := frU_trans hJ27u f4
        refine sL (pc' := 74) (i := .iload 4) rfl rfl ?_
        refine sKi (p := 75) rfl rfl ?_
        refine sIc_gt (p := 78) rfl rfl ⟨by omega, by omega⟩ ⟨by omega, by omega⟩ (fun c3 => ?_) (fun c3 => ?_)
        · have c3 := c3
          refine sL (pc' := 84) (i := .aload_n 0) rfl rfl ?_
          refine sGr (p := 87) rfl rfl (sk_52 _) rfl rfl rfl (dA_U hA u4).2.2.2.2.2.2.1 ?_
          refine sL (pc' := 89) (i := .iload 4) rfl rfl ?_
          refine sAi (p := 90) (i := kk k) rfl rfl (dA_U hA u4).2.2.2.2.2.2.2.2.2.2.2.2.1 (by omega) ⟨by omega, by omega⟩ ((congrFun (r3 u4) _).trans (hk4 (by omega))) ?_
          refine sCvQ (p := 93) (as := [_]) rfl rfl rfl rfl (by decide) (Nat.le_of_ble_eq_true rfl) rfl (Nat.le_of_ble_eq_true rfl) (sk_177 _) rfl (by omega) (b_num (v := cd k) hB t4 (by omega) (by omega)) ?_
          rintro _ P5 ⟨rfl, m5, t5, f5⟩
          have u5 := frU_trans u4 f5
          refine sL (pc' := 94) (i := .pop) rfl rfl ?_
          refine sInX (z := ((k : Nat) : Int)) (ls' := [some (.ref 52), some (.int (iI ((x : Nat) : Int))), some (.ref 177), some (.int (iI (((k : Nat) : Int) + 1))), some (.int (iI ((kk k : Nat) : Int)))]) (p := 97) rfl rfl (Nat.le_of_ble_eq_true rfl) rfl rfl ?_
          refine sL (i := .goto (-70)) rfl rfl ?_
          refine sFg (ls := [some (.ref 52), some (.int (iI ((x : Nat) : Int))), some (.ref 177), some (.int (iI ((k + 1 : Nat) : Int))), none]) (xx_ll_le (And.intro rfl (And.intro rfl (And.intro rfl (And.intro rfl (True.intro)))))) (ih27 _ ?_)
          refine ⟨_, ?_, by rw [hS0]; exact u5⟩
          have tt := t5
          rw [show kdT cd (k + 1) = kdT cd k ++ [if k = 0 then 40 else 44] ++ dgt (cd k) from rfl, if_neg (by omega), ← List.append_assoc, ← List.append_assoc]
          exact ⟨tt.1, Nat.le_trans tt.2 (by omega)⟩
        · have c3 := c3
          have e4 := hk3 (by omega)
          rw [← e4]
          refine sL (pc' := 80) (i := .iload 4) rfl rfl ?_
          refine sL (i := .goto 10) rfl rfl ?_
          refine sCvQ (p := 93) (as := [_]) rfl rfl rfl rfl (by decide) (Nat.le_of_ble_eq_true rfl) rfl (Nat.le_of_ble_eq_true rfl) (sk_177 _) rfl (by omega) (b_num (v := cd k) hB t4 (by omega) (by omega)) ?_
          rintro _ P6 ⟨rfl, m6, t6, f6⟩
          have u6 := frU_trans u4 f6
          refine sL (pc' := 94) (i := .pop) rfl rfl ?_
          refine sInX (z := ((k : Nat) : Int)) (ls' := [some (.ref 52), some (.int (iI ((x : Nat) : Int))), some (.ref 177), some (.int (iI (((k : Nat) : Int) + 1))), some (.int (iI ((cd k : Nat) : Int)))]) (p := 97) rfl rfl (Nat.le_of_ble_eq_true rfl) rfl rfl ?_
          refine sL (i := .goto (-70)) rfl rfl ?_
          refine sFg (ls := [some (.ref 52), some (.int (iI ((x : Nat) : Int))), some (.ref 177), some (.int (iI ((k + 1 : Nat) : Int))), none]) (xx_ll_le (And.intro rfl (And.intro rfl (And.intro rfl (And.intro rfl (True.intro)))))) (ih27 _ ?_)
          refine ⟨_, ?_, by rw [hS0]; exact u6⟩
          have tt := t6
          rw [show kdT cd (k + 1) = kdT cd k ++ [if k = 0 then 40 else 44] ++ dgt (cd k) from rfl, if_neg (by omega), ← List.append_assoc, ← List.append_assoc]
          exact ⟨tt.1, Nat.le_trans tt.2 (by omega)⟩
      · have c2 := c2
        refine sKb (p := 64) rfl rfl ?_
        refine sL (i := .goto 5) rfl rfl ?_
        refine sCvQ (p := 72) (as := [_]) rfl rfl rfl rfl (by decide) (Nat.le_of_ble_eq_true rfl) rfl (Nat.le_of_ble_eq_true rfl) (sk_177 _) rfl (by omega) (b_app (c := 40) hB hJ27t (by omega) (by omega)) ?_
        rintro _ P7 ⟨rfl, m7, t7, f7⟩
        have u7 := frU_trans hJ27u f7
        refine sL (pc' := 74) (i := .iload 4) rfl rfl ?_
        refine sKi (p := 75) rfl rfl ?_
        refine sIc_gt (p := 78) rfl rfl ⟨by omega, by omega⟩ ⟨by omega, by omega⟩ (fun c4 => ?_) (fun c4 => ?_)
        · have c4 := c4
          refine sL (pc' := 84) (i := .aload_n 0) rfl rfl ?_
          refine sGr (p := 87) rfl rfl (sk_52 _) rfl rfl rfl (dA_U hA u7).2.2.2.2.2.2.1 ?_
          refine sL (pc' := 89) (i := .iload 4) rfl rfl ?_
          refine sAi (p := 90) (i := kk k) rfl rfl (dA_U hA u7).2.2.2.2.2.2.2.2.2.2.2.2.1 (by omega) ⟨by omega, by omega⟩ ((congrFun (r3 u7) _).trans (hk4 (by omega))) ?_
          refine sCvQ (p := 93) (as := [_]) rfl rfl rfl rfl (by decide) (Nat.le_of_ble_eq_true rfl) rfl (Nat.le_of_ble_eq_true rfl) (sk_177 _) rfl (by omega) (b_num (v := cd k) hB t7 (by omega) (by omega)) ?_
          rintro _ P8 ⟨rfl, m8, t8, f8⟩
          have u8 := frU_trans u7 f8
          refine sL (pc' := 94) (i := .pop) rfl rfl ?_
          refine sInX (z := ((k : Nat) : Int)) (ls' := [some (.ref 52), some (.int (iI ((x : Nat) : Int))), some (.ref 177), some (.int (iI (((k : Nat) : Int) + 1))), some (.int (iI ((kk k : Nat) : Int)))]) (p := 97) rfl rfl (Nat.le_of_ble_eq_true rfl) rfl rfl ?_
          refine sL (i := .goto (-70)) rfl rfl ?_
          refine sFg (ls := [some (.ref 52), some (.int (iI ((x : Nat) : Int))), some (.ref 177), some (.int (iI ((k + 1 : Nat) : Int))), none]) (xx_ll_le (And.intro rfl (And.intro rfl (And.intro rfl (And.intro rfl (True.intro)))))) (ih27 _ ?_)
          refine ⟨_, ?_, by rw [hS0]; exact u8⟩
          have tt := t8
          rw [show kdT cd (k + 1) = kdT cd k ++ [if k = 0 then 40 else 44] ++ dgt (cd k) from rfl, if_pos (by omega), ← List.append_assoc, ← List.append_assoc]
          exact ⟨tt.1, Nat.le_trans tt.2 (by omega)⟩
        · have c4 := c4
          have e4 := hk3 (by omega)
          rw [← e4]
          refine sL (pc' := 80) (i := .iload 4) rfl rfl ?_
          refine sL (i := .goto 10) rfl rfl ?_
          refine sCvQ (p := 93) (as := [_]) rfl rfl rfl rfl (by decide) (Nat.le_of_ble_eq_true rfl) rfl (Nat.le_of_ble_eq_true rfl) (sk_177 _) rfl (by omega) (b_num (v := cd k) hB t7 (by omega) (by omega)) ?_
          rintro _ P9 ⟨rfl, m9, t9, f9⟩
          have u9 := frU_trans u7 f9
          refine sL (pc' := 94) (i := .pop) rfl rfl ?_
          refine sInX (z := ((k : Nat) : Int)) (ls' := [some (.ref 52), some (.int (iI ((x : Nat) : Int))), some (.ref 177), some (.int (iI (((k : Nat) : Int) + 1))), some (.int (iI ((cd k : Nat) : Int)))]) (p := 97) rfl rfl (Nat.le_of_ble_eq_true rfl) rfl rfl ?_
          refine sL (i := .goto (-70)) rfl rfl ?_
          refine sFg (ls := [some (.ref 52), some (.int (iI ((x : Nat) : Int))), some (.ref 177), some (.int (iI ((k + 1 : Nat) : Int))), none]) (xx_ll_le (And.intro rfl (And.intro rfl (And.intro rfl (And.intro rfl (True.intro)))))) (ih27 _ ?_)
          refine ⟨_, ?_, by rw [hS0]; exact u9⟩
          have tt := t9
          rw [show kdT cd (k + 1) = kdT cd k ++ [if k = 0 then 40 else 44] ++ dgt (cd k) from rfl, if_pos (by omega), ← List.append_assoc, ← List.append_assoc]
          exact ⟨tt.1, Nat.le_trans tt.2 (by omega)⟩
  · have hJ27 := hJ27
    obtain ⟨mk, hJ27t, hJ27u⟩ := hJ27
    rw [hS0] at hJ27u
    refine sL (pc' := 28) (i := .iload_n 3) rfl rfl ?_
    refine sL (pc' := 29) (i := .aload_n 0) rfl rfl ?_
    refine sGc (p := 32) rfl rfl (sk_52 _) rfl rfl rfl ?_
    refine sL (pc' := 33) (i := .aload_n 0) rfl rfl ?_
    refine sGr (p := 36) rfl rfl (sk_52 _) rfl rfl rfl (dA_U hA hJ27u).2.2.2.1 ?_
    refine sL (pc' := 37) (i := .iload_n 1) rfl rfl ?_
    refine sAi (p := 38) (i := x) rfl rfl (dA_U hA hJ27u).2.2.2.2.2.2.2.2.2.1 (by omega) ⟨by omega, by omega⟩ ((congrFun (r0 hJ27u) _).trans hv) ?_
    refine sCv (p := 41) (as := [_]) rfl rfl rfl rfl (by decide) (Nat.le_of_ble_eq_true rfl) rfl (Nat.le_of_ble_eq_true rfl) (sk_1 _) rfl (by omega) (c_siz (vC_U hs.1 hvC hJ27u) hvn) ?_
    refine sIc_ge (p := 44) rfl rfl ⟨by omega, by omega⟩ ⟨by omega, by omega⟩ (fun c5 => ?_) (fun c5 => ?_)
    · have c5 := c5
      refine sL (pc' := 101) (i := .aload_n 2) rfl rfl ?_
      refine sKb (p := 103) rfl rfl ?_
      refine sCvQ (p := 106) (as := [_]) rfl rfl rfl rfl (by decide) (Nat.le_of_ble_eq_true rfl) rfl (Nat.le_of_ble_eq_true rfl) (sk_177 _) rfl (by omega) (b_app (c := 41) hB hJ27t (by omega) (by omega)) ?_
      rintro _ P10 ⟨rfl, m10, t10, f10⟩
      have u10 := frU_trans hJ27u f10
      refine sL (pc' := 107) (i := .pop) rfl rfl ?_
      refine sEn (i := .return_) rfl (rfl) ?_
      have tt := t10
      exact ⟨rfl, _, ⟨tt.1, Nat.le_trans tt.2 (by omega)⟩, u10⟩
    · exfalso; omega
end CA
