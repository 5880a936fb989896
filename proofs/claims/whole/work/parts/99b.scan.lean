/-! ===== texts: the list of tokens; the class's scan ===== -/
section TL
variable {X : List Int32} {S : ST} {y : Nat → Nat} {s a : Nat}
theorem bA_lt {p : Nat} {z : Int} (h : bA y s p = z) (hz : 0 ≤ z) : p < s := Classical.byContradiction fun c => by
  unfold bA at h
  rw [if_neg c] at h
  omega
theorem rE_lt {p : Nat → Bool} (h : a < s) (hp : p (y a) = true) : a < rE p y s a := by
  have h1 := rE_ok (p := p) (y := y) (a := a) (s := s) (by omega)
  refine Classical.byContradiction fun c => ?_
  have h2 : rE p y s a = a := by omega
  have h3 := h1.2.2 (by omega)
  rw [h2, hp] at h3
  cases h3
theorem tE_ok (h : a ≤ s) : (a ≤ tE y s a ∧ tE y s a ≤ s) ∧ (a < s → a < tE y s a) := by
  unfold tE
  by_cases c : a < s
  · rw [if_neg (fun z => z c)]
    have hw := rE_ok (p := isW) (y := y) h
    have hd := rE_ok (p := isD) (y := y) h
    split
    · rename_i c2
      have := rE_lt (p := isW) (y := y) c (by unfold isW; rw [c2]; rfl)
      exact ⟨hw.1, fun _ => this⟩
    · split
      · rename_i c2 c3
        have := rE_lt (p := isD) (y := y) c c3
        exact ⟨hd.1, fun _ => this⟩
      · split
        · rename_i q
          have := bA_lt q.2 (by decide)
          omega
        · split
          · rename_i q
            have := bA_lt q.2.2 (by decide)
            omega
          · omega
  · rw [if_pos c]
    omega
def tP (y : Nat → Nat) (s : Nat) : Nat → Nat
  | 0 => 0
  | i + 1 => tE y s (rE isB y s (tP y s i))
/-- where the i-th token starts, and its kind -/
def tA (y : Nat → Nat) (s i : Nat) : Nat := rE isB y s (tP y s i)
def tk (y : Nat → Nat) (s i : Nat) : Nat := tK y s (tA y s i)
def nT (y : Nat → Nat) (s : Nat) : Nat := fbF (fun i => decide (tk y s i = 264 ∨ tk y s i = 265)) (s + 1) 0
theorem tP_s (y : Nat → Nat) (s i : Nat) : tP y s (i + 1) = tE y s (tA y s i) := rfl
theorem tP_le : ∀ i, tP y s i ≤ s
  | 0 => Nat.zero_le _
  | i + 1 => by
    have h1 := tP_le i
    have h2 := rE_ok (p := isB) (y := y) h1
    exact (tE_ok h2.1.2).1.2
theorem tA_ok (i : Nat) : tP y s i ≤ tA y s i ∧ tA y s i ≤ s := (rE_ok (p := isB) (y := y) (tP_le i)).1
theorem tA_lt {i : Nat} (h : tk y s i ≠ 264) : tA y s i < s := Classical.byContradiction fun c => h (by
  unfold tk tK
  rw [if_pos c])
theorem tP_ge : ∀ i, (∀ j, j < i → tk y s j ≠ 264) → i ≤ tP y s i
  | 0, _ => Nat.zero_le _
  | i + 1, h => by
    have h1 := tP_ge i (fun j hj => h j (by omega))
    have h2 := tA_ok (y := y) (s := s) i
    have h3 := (tE_ok (y := y) h2.2).2 (tA_lt (h i (by omega)))
    rw [tP_s]
    omega
theorem nT_ok (y : Nat → Nat) (s : Nat) : nT y s ≤ s ∧ (tk y s (nT y s) = 264 ∨ tk y s (nT y s) = 265) ∧ ∀ j, j < nT y s → tk y s j ≠ 264 ∧ tk y s j ≠ 265 := by
  have h1 := fbF_ok (fun i => decide (tk y s i = 264 ∨ tk y s i = 265)) (s + 1) 0
  have hb : ∀ j, j < nT y s → tk y s j ≠ 264 ∧ tk y s j ≠ 265 := fun j hj => by
    have := of_decide_eq_false (h1.2.1 j (Nat.zero_le _) hj)
    omega
  have h2 : nT y s < s + 1 := by
    refine Classical.byContradiction fun c => ?_
    have h3 := tP_ge (y := y) (s := s) (s + 1) (fun j hj => (hb j (by omega)).1)
    have h4 := tP_le (y := y) (s := s) (s + 1)
    omega
  exact ⟨by omega, of_decide_eq_true (h1.2.2 (by rw [Nat.zero_add]; exact h2)), hb⟩
theorem tk_c {i : Nat} (h : tk y s i = 258 ∨ tk y s i = 259) : tA y s i < s ∧ (isL (y (tA y s i)) || isD (y (tA y s i))) = true := by
  have h1 : tA y s i < s := tA_lt (by omega)
  refine ⟨h1, ?_⟩
  cases hL : isL (y (tA y s i)) with
  | true => rfl
  | false =>
    cases hD : isD (y (tA y s i)) with
    | true => rfl
    | false =>
      exfalso
      unfold tk tK at h
      rw [if_neg (fun z => z h1), hL, hD, if_neg (fun z => by cases z), if_neg (fun z => by cases z)] at h
      by_cases q1 : y (tA y s i) = 61 ∧ bA y s (tA y s i + 1) = 62
      · rw [if_pos q1] at h
        omega
      · by_cases q2 : y (tA y s i) = 60 ∧ bA y s (tA y s i + 1) = 61 ∧ bA y s (tA y s i + 2) = 62
        · rw [if_neg q1, if_pos q2] at h
          omega
        · rw [if_neg q1, if_neg q2] at h
          cases hq : isY (y (tA y s i)) with
          | true =>
            have := of_decide_eq_true hq
            rw [hq, if_pos rfl] at h
            omega
          | false =>
            rw [hq, if_neg (fun z => by cases z)] at h
            omega
/-- kinds are small -/
theorem tK_lt (a : Nat) : tK y s a ≤ 265 := by
  unfold tK wK
  repeat' split
  all_goals first | omega | (rename_i q; have := of_decide_eq_true q; omega)
theorem tS_1 {i : Nat} : (tS S y s a i).1 = S.1 ∧ SR (tS S y s a i) = SR S ∧ SI (tS S y s a i) = SI (wI S 64 5 ((tE y s a : Nat) : Int)) := by
  unfold tS
  split <;> exact ⟨rfl, rfl, rfl⟩
theorem tS_L {i c k : Nat} (h : c ≠ 68 ∨ k ≠ i) : SL (tS S y s a i) c k = SL S c k := by
  unfold tS
  split
  · rw [SL_wL, if_neg (by omega)]
    rfl
  · rfl
theorem tS_C {i : Nat} (h : a < s ∧ (isL (y a) || isD (y a)) = true) : SL (tS S y s a i) 68 i = tC y s a := by
  unfold tS
  rw [if_pos h, SL_wL, if_pos ⟨rfl, rfl⟩]
def frS (S S' : ST) : Prop := S'.1 = S.1 ∧ SR S' = SR S ∧ (∀ c, c ≠ 64 → c ≠ 66 → c ≠ 67 → SI S' c = SI S c) ∧ ∀ c, c ≠ 68 → SL S' c = SL S c
/-- what scan leaves of i tokens -/
def tkS (S' : ST) (y : Nat → Nat) (s i : Nat) : Prop := ∀ k, k < i → SI S' 66 k = ((tk y s k : Nat) : Int) ∧ SI S' 67 k = ((tA y s k : Nat) : Int) ∧ (tk y s k = 258 ∨ tk y s k = 259 → SL S' 68 k = tC y s (tA y s k))
def lt (y : Nat → Nat) (s : Nat) : Nat → Int
  | 0 => -1
  | i + 1 => ((tk y s i : Nat) : Int)
theorem lt_b : ∀ i, -1 ≤ lt y s i ∧ lt y s i ≤ 265
  | 0 => ⟨Int.le_refl _, by show (-1 : Int) ≤ 265; decide⟩
  | i + 1 => by
    have h : tk y s i ≤ 265 := tK_lt _
    have e : lt y s (i + 1) = ((tk y s i : Nat) : Int) := rfl
    omega
theorem lt_n {i : Nat} (h : i ≤ nT y s) : lt y s i ≠ 264 ∧ lt y s i ≠ 265 := by
  cases i with
  | zero => exact ⟨by show (-1 : Int) ≠ 264; decide, by show (-1 : Int) ≠ 265; decide⟩
  | succ i =>
    have h1 := (nT_ok y s).2.2 i (by omega)
    have e : lt y s (i + 1) = ((tk y s i : Nat) : Int) := rfl
    omega
def scJ (S Sa : ST) (y : Nat → Nat) (s i : Nat) : Prop := tp Sa y s ∧ SI Sa 64 5 = ((tP y s i : Nat) : Int) ∧ SI Sa 64 6 = ((i : Nat) : Int) ∧ tkS Sa y s i ∧ frS S Sa
theorem sc_step {Sa : ST} {i : Nat} (h : scJ S Sa y s i) : scJ S (wI (wI (tS (wI (wI Sa 64 5 ((tA y s i : Nat) : Int)) 67 i ((tA y s i : Nat) : Int)) y s (tA y s i) i) 66 i ((tk y s i : Nat) : Int)) 64 6 (((i : Nat) : Int) + 1)) y s (i + 1) := by
  obtain ⟨ht, h5, h6, hk, f1, f2, f3, f4⟩ := h
  have hT := tS_1 (S := wI (wI Sa 64 5 ((tA y s i : Nat) : Int)) 67 i ((tA y s i : Nat) : Int)) (y := y) (s := s) (a := tA y s i) (i := i)
  obtain ⟨T, hTd⟩ : ∃ T, T = tS (wI (wI Sa 64 5 ((tA y s i : Nat) : Int)) 67 i ((tA y s i : Nat) : Int)) y s (tA y s i) i := ⟨_, rfl⟩
  have hL : ∀ c k, (c ≠ 68 ∨ k ≠ i) → SL T c k = SL Sa c k := fun c k q => by rw [hTd]; exact tS_L q
  have hC : (tk y s i = 258 ∨ tk y s i = 259) → SL T 68 i = tC y s (tA y s i) := fun q => by rw [hTd]; exact tS_C (tk_c q)
  rw [← hTd] at hT ⊢
  have hI : SI T = _ := hT.2.2
  refine ⟨tp_w (tp_w ?_ (by omega)) (by omega), ?_, ?_, fun k hk2 => ?_, hT.1.trans f1, hT.2.1.trans f2, fun c c1 c2 c3 => ?_, fun c c1 => ?_⟩
  · have h9 : tp (wI (wI (wI Sa 64 5 ((tA y s i : Nat) : Int)) 67 i ((tA y s i : Nat) : Int)) 64 5 ((tE y s (tA y s i) : Nat) : Int)) y s := tp_w (tp_w (tp_w ht (by omega)) (by omega)) (by omega)
    unfold tp at h9 ⊢
    rw [hI]
    exact h9
  · rw [rI_nj (by decide), rI_ne (by decide), hI]
    exact rI_at
  · exact rI_at
  · rw [rI_ne (by decide), rI_ne (c := 67) (by decide), rI_ne (c := 67) (by decide)]
    show _ ∧ _ ∧ (_ → SL T 68 k = _)
    by_cases ck : k = i
    · subst ck
      refine ⟨rI_at, ?_, hC⟩
      rw [hI, rI_ne (by decide)]
      exact rI_at
    · have h9 := hk k (by omega)
      refine ⟨?_, ?_, fun q => (hL 68 k (Or.inr ck)).trans (h9.2.2 q)⟩
      · rw [rI_nj ck, hI, rI_ne (by decide), rI_ne (by decide), rI_ne (by decide)]
        exact h9.1
      · rw [hI, rI_ne (by decide), rI_nj ck, rI_ne (by decide)]
        exact h9.2.1
  · refine Eq.trans ?_ (f3 c c1 c2 c3)
    funext k
    rw [rI_ne c1, rI_ne c2, hI, rI_ne c1, rI_ne c3, rI_ne c1]
  · refine Eq.trans ?_ (f4 c c1)
    funext k
    exact hL c k (Or.inl c1)
theorem c_scan (hY : SYM X) (ht0 : tp S y s) : sM X 8 110 [.ref 64] S (fun r S' => r = none ∧ SI S' 64 4 = 0 ∧ SI S' 64 6 = ((nT y s + 1 : Nat) : Int) ∧ tkS S' y s (nT y s + 1) ∧ frS S S') := by
  have hs := ht0.1
  have hn := nT_ok y s
  obtain ⟨S0, hS0⟩ : ∃ S0, S0 = S := ⟨_, rfl⟩
  have hJ0 : scJ S0 (wI (wI S 64 5 0) 64 6 0) y s 0 := ⟨tp_w (tp_w ht0 (by decide)) (by decide), (rI_nj (by decide)).trans rI_at, rI_at, fun k hk => absurd hk (Nat.not_lt_zero _), by rw [hS0]; exact ⟨rfl, rfl, fun c c1 _ _ => funext fun k => (rI_ne c1 k).trans (rI_ne c1 k), fun c _ => rfl⟩⟩
  refine sIni (ls := [some (.ref 64), none, none]) rfl ?_
  refine sL (pc' := 1) (i := .aload_n 0) rfl rfl ?_
  refine sKi (p := 2) rfl rfl ?_
  refine sPi (z := 0) (p := 5) rfl rfl (sk_64 _) rfl rfl rfl rfl ?_
  refine sL (pc' := 6) (i := .aload_n 0) rfl rfl ?_
  refine sKi (p := 7) rfl rfl ?_
  refine sPi (z := 0) (p := 10) rfl rfl (sk_64 _) rfl rfl rfl rfl ?_
  refine sKi (p := 11) rfl rfl ?_
  refine sL (pc' := 12) (i := .istore_n 1) (ls' := [some (.ref 64), some (.int (iI (-1))), none]) rfl rfl ?_
  refine sKi (p := 13) rfl rfl ?_
  refine sL (pc' := 14) (i := .istore_n 2) (ls' := [some (.ref 64), some (.int (iI (-1))), some (.int (iI 0))]) rfl rfl ?_
  refine sItR (A := fun i => [some (.ref 64), some (.int (iI (lt y s i))), some (.int (iI ((i : Nat) : Int)))]) (fun i S => scJ S0 S y s i) (nT y s + 1) (hJ0) (fun i hi14 Sa hJ14 ih14 => ?_) (fun Saf hJ14 => ?_)
  · have hi14 := hi14
    have hJ := hJ14
    obtain ⟨ht, h5, h6, _, _⟩ := hJ14
    have hlb := lt_b (y := y) (s := s) i
    have hln := lt_n (y := y) (s := s) (i := i) (by omega)
    have hA := tA_ok (y := y) (s := s) i
    have hr := rE_ok (p := isB) (y := y) (tP_le (y := y) (s := s) i)
    obtain ⟨L, hL⟩ : ∃ L, tP y s i + L = tA y s i := ⟨tA y s i - tP y s i, by omega⟩
    refine sL (pc' := 15) (i := .iload_n 2) rfl rfl ?_
    refine sKs (p := 18) rfl rfl ?_
    refine sIc_gt (p := 21) rfl rfl ⟨by omega, by omega⟩ ⟨by omega, by omega⟩ (fun c1 => ?_) (fun c1 => ?_)
    · exfalso; omega
    · have c1 := c1
      refine sL (pc' := 22) (i := .iload_n 1) rfl rfl ?_
      refine sKs (p := 25) rfl rfl ?_
      refine sIc_eq (p := 28) rfl rfl ⟨by omega, by omega⟩ ⟨by omega, by omega⟩ (fun c2 => ?_) (fun c2 => ?_)
      · exfalso; omega
      · have c2 := c2
        refine sL (pc' := 29) (i := .iload_n 1) rfl rfl ?_
        refine sKs (p := 32) rfl rfl ?_
        refine sIc_eq (p := 35) rfl rfl ⟨by omega, by omega⟩ ⟨by omega, by omega⟩ (fun c3 => ?_) (fun c3 => ?_)
        · exfalso; omega
        · have c3 := c3
          refine sSh (T := (wI Sa 64 5 ((tP y s i + 0 : Nat) : Int))) (congrArg sH (wI_self h5).symm) ?_
          refine sIt (A := fun j => [some (.ref 64), some (.int (iI (lt y s i))), some (.int (iI ((i : Nat) : Int)))]) (B := fun j => (wI Sa 64 5 ((tP y s i + j : Nat) : Int))) (fun _ => True) L True.intro (fun j hi35 hI35 ih35 => ?_) (fun hI35 => ?_)
          · have hi35 := hi35
            have hw7 := hr.2.1 (tP y s i + j) (by omega) (by show tP y s i + j < tA y s i; omega)
            refine sL (pc' := 36) (i := .aload_n 0) rfl rfl ?_
            refine sGi (p := 39) rfl rfl (sk_64 _) rfl rfl rfl (rI_at (S := Sa) (a := 64) (i := 5) (z := ((tP y s i + j : Nat) : Int))) ?_
            refine sL (pc' := 40) (i := .aload_n 0) rfl rfl ?_
            refine sGi (p := 43) rfl rfl (sk_64 _) rfl rfl rfl (tp_w ht (by decide)).2.2.1 ?_
            refine sIc_ge (p := 46) rfl rfl ⟨by omega, by omega⟩ ⟨by omega, by omega⟩ (fun c4 => ?_) (fun c4 => ?_)
            · exfalso; omega
            · have c4 := c4
              refine sL (pc' := 47) (i := .aload_n 0) rfl rfl ?_
              refine sGc (p := 50) rfl rfl (sk_64 _) rfl rfl rfl ?_
              refine sL (pc' := 51) (i := .aload_n 0) rfl rfl ?_
              refine sGi (p := 54) rfl rfl (sk_64 _) rfl rfl rfl (rI_at (S := Sa) (a := 64) (i := 5) (z := ((tP y s i + j : Nat) : Int))) ?_
              refine sAi (p := 55) (i := tP y s i + j) rfl rfl (sk_65 _) (by omega) ⟨by omega, by omega⟩ ((tp_w ht (by decide)).2.2.2 _ (by omega)) ?_
              refine sCs (p := 58) (as := [_]) rfl rfl rfl rfl (by decide) (Nat.le_of_ble_eq_true rfl) rfl (Nat.le_of_ble_eq_true rfl) rfl (by omega) (c_isBlank (ht.2.1 _)) ?_
              refine sBe (p := 61) rfl rfl (fun c5 => ?_) (fun c5 => ?_)
              · exfalso; exact absurd hw7 (by rw [show isB (y (tP y s i + j)) = false by assumption]; decide)
              · have c5 := c5
                refine sL (pc' := 62) (i := .aload_n 0) rfl rfl ?_
                refine sL (pc' := 63) (i := .dup) rfl rfl ?_
                refine sGi (p := 66) rfl rfl (sk_64 _) rfl rfl rfl (rI_at (S := Sa) (a := 64) (i := 5) (z := ((tP y s i + j : Nat) : Int))) ?_
                refine sKi (p := 67) rfl rfl ?_
                refine sAd (p := 68) rfl rfl ?_
                refine sPi (z := (((tP y s i + j : Nat) : Int) + 1)) (p := 71) rfl rfl (sk_64 _) rfl rfl rfl rfl ?_
                refine sL (i := .goto (-36)) rfl rfl ?_
                refine sRo (ls := [some (.ref 64), some (.int (iI (lt y s i))), some (.int (iI ((i : Nat) : Int)))]) (T := (wI Sa 64 5 ((tP y s i + (j + 1) : Nat) : Int))) (And.intro rfl (And.intro rfl (And.intro rfl (True.intro)))) (congrArg sH (wI_wI.trans (congrArg (wI Sa 64 5) (by omega)))) (ih35 ?_)
                exact True.intro
          · have hI35 := hI35
            rw [hL]
            refine sL (pc' := 36) (i := .aload_n 0) rfl rfl ?_
            refine sGi (p := 39) rfl rfl (sk_64 _) rfl rfl rfl (rI_at (S := Sa) (a := 64) (i := 5) (z := ((tA y s i : Nat) : Int))) ?_
            refine sL (pc' := 40) (i := .aload_n 0) rfl rfl ?_
            refine sGi (p := 43) rfl rfl (sk_64 _) rfl rfl rfl (tp_w ht (by decide)).2.2.1 ?_
            refine sIc_ge (p := 46) rfl rfl ⟨by omega, by omega⟩ ⟨by omega, by omega⟩ (fun c6 => ?_) (fun c6 => ?_)
            · have c6 := c6
              refine sL (pc' := 75) (i := .aload_n 0) rfl rfl ?_
              refine sGc (p := 78) rfl rfl (sk_64 _) rfl rfl rfl ?_
              refine sL (pc' := 79) (i := .iload_n 2) rfl rfl ?_
              refine sL (pc' := 80) (i := .aload_n 0) rfl rfl ?_
              refine sGi (p := 83) rfl rfl (sk_64 _) rfl rfl rfl (rI_at (S := Sa) (a := 64) (i := 5) (z := ((tA y s i : Nat) : Int))) ?_
              refine sWi (p := 84) (i := i) rfl rfl (sk_67 _) (by omega) ⟨by omega, by omega⟩ ?_
              refine sL (pc' := 85) (i := .aload_n 0) rfl rfl ?_
              refine sL (pc' := 86) (i := .iload_n 2) rfl rfl ?_
              refine sCv (p := 89) (as := [_]) rfl rfl rfl rfl (by decide) (Nat.le_of_ble_eq_true rfl) rfl (Nat.le_of_ble_eq_true rfl) (sk_64 _) rfl (by omega) (c_scanToken (S := (wI (wI Sa 64 5 ((tA y s i : Nat) : Int)) 67 i ((tA y s i : Nat) : Int))) hY (tp_w (tp_w ht (by omega)) (by omega)) ((rI_ne (by decide) _).trans rI_at) (by omega) (tA_ok i).2) ?_
              refine sL (pc' := 90) (i := .istore_n 1) (ls' := [some (.ref 64), some (.int (iI ((tk y s i : Nat) : Int))), some (.int (iI ((i : Nat) : Int)))]) rfl rfl ?_
              refine sL (pc' := 91) (i := .aload_n 0) rfl rfl ?_
              refine sGc (p := 94) rfl rfl (sk_64 _) rfl rfl rfl ?_
              refine sL (pc' := 95) (i := .iload_n 2) rfl rfl ?_
              refine sL (pc' := 96) (i := .iload_n 1) rfl rfl ?_
              refine sWi (p := 97) (i := i) rfl rfl (sk_66 _) (by omega) ⟨by omega, by omega⟩ ?_
              refine sL (pc' := 98) (i := .aload_n 0) rfl rfl ?_
              refine sL (pc' := 99) (i := .dup) rfl rfl ?_
              refine sGi (p := 102) rfl rfl (sk_64 _) rfl rfl rfl (show SI (wI (tS (wI (wI Sa 64 5 ((tA y s i : Nat) : Int)) 67 i ((tA y s i : Nat) : Int)) y s (tA y s i) i) 66 i ((tk y s i : Nat) : Int)) 64 6 = ((i : Nat) : Int) from by rw [rI_ne (by decide), tS_1.2.2, rI_nj (by decide), rI_ne (by decide), rI_nj (by decide)]; exact h6) ?_
              refine sKi (p := 103) rfl rfl ?_
              refine sAd (p := 104) rfl rfl ?_
              refine sPi (z := (((i : Nat) : Int) + 1)) (p := 107) rfl rfl (sk_64 _) rfl rfl rfl rfl ?_
              refine sInX (z := ((i : Nat) : Int)) (ls' := [some (.ref 64), some (.int (iI ((tk y s i : Nat) : Int))), some (.int (iI (((i : Nat) : Int) + 1)))]) (p := 110) rfl rfl (Nat.le_of_ble_eq_true rfl) rfl rfl ?_
              refine sL (i := .goto (-96)) rfl rfl ?_
              refine sFg (ls := [some (.ref 64), some (.int (iI (lt y s (i + 1)))), some (.int (iI ((i + 1 : Nat) : Int)))]) (xx_ll_le (And.intro rfl (And.intro rfl (And.intro rfl (True.intro))))) (ih14 _ ?_)
              exact sc_step hJ
            · have c6 := c6
              refine sL (pc' := 47) (i := .aload_n 0) rfl rfl ?_
              refine sGc (p := 50) rfl rfl (sk_64 _) rfl rfl rfl ?_
              refine sL (pc' := 51) (i := .aload_n 0) rfl rfl ?_
              refine sGi (p := 54) rfl rfl (sk_64 _) rfl rfl rfl (rI_at (S := Sa) (a := 64) (i := 5) (z := ((tA y s i : Nat) : Int))) ?_
              refine sAi (p := 55) (i := tA y s i) rfl rfl (sk_65 _) (by omega) ⟨by omega, by omega⟩ ((tp_w ht (by decide)).2.2.2 _ (by omega)) ?_
              refine sCs (p := 58) (as := [_]) rfl rfl rfl rfl (by decide) (Nat.le_of_ble_eq_true rfl) rfl (Nat.le_of_ble_eq_true rfl) rfl (by omega) (c_isBlank (ht.2.1 _)) ?_
              refine sBe (p := 61) rfl rfl (fun c7 => ?_) (fun c7 => ?_)
              · have c7 := c7
                refine sL (pc' := 75) (i := .aload_n 0) rfl rfl ?_
                refine sGc (p := 78) rfl rfl (sk_64 _) rfl rfl rfl ?_
                refine sL (pc' := 79) (i := .iload_n 2) rfl rfl ?_
                refine sL (pc' := 80) (i := .aload_n 0) rfl rfl ?_
                refine sGi (p := 83) rfl rfl (sk_64 _) rfl rfl rfl (rI_at (S := Sa) (a := 64) (i := 5) (z := ((tA y s i : Nat) : Int))) ?_
                refine sWi (p := 84) (i := i) rfl rfl (sk_67 _) (by omega) ⟨by omega, by omega⟩ ?_
                refine sL (pc' := 85) (i := .aload_n 0) rfl rfl ?_
                refine sL (pc' := 86) (i := .iload_n 2) rfl rfl ?_
                refine sCv (p := 89) (as := [_]) rfl rfl rfl rfl (by decide) (Nat.le_of_ble_eq_true rfl) rfl (Nat.le_of_ble_eq_true rfl) (sk_64 _) rfl (by omega) (c_scanToken (S := (wI (wI Sa 64 5 ((tA y s i : Nat) : Int)) 67 i ((tA y s i : Nat) : Int))) hY (tp_w (tp_w ht (by omega)) (by omega)) ((rI_ne (by decide) _).trans rI_at) (by omega) (tA_ok i).2) ?_
                refine sL (pc' := 90) (i := .istore_n 1) (ls' := [some (.ref 64), some (.int (iI ((tk y s i : Nat) : Int))), some (.int (iI ((i : Nat) : Int)))]) rfl rfl ?_
                refine sL (pc' := 91) (i := .aload_n 0) rfl rfl ?_
                refine sGc (p := 94) rfl rfl (sk_64 _) rfl rfl rfl ?_
                refine sL (pc' := 95) (i := .iload_n 2) rfl rfl ?_
                refine sL (pc' := 96) (i := .iload_n 1) rfl rfl ?_
                refine sWi (p := 97) (i := i) rfl rfl (sk_66 _) (by omega) ⟨by omega, by omega⟩ ?_
                refine sL (pc' := 98) (i := .aload_n 0) rfl rfl ?_
                refine sL (pc' := 99) (i := .dup) rfl rfl ?_
                refine sGi (p := 102) rfl rfl (sk_64 _) rfl rfl rfl (show SI (wI (tS (wI (wI Sa 64 5 ((tA y s i : Nat) : Int)) 67 i ((tA y s i : Nat) : Int)) y s (tA y s i) i) 66 i ((tk y s i : Nat) : Int)) 64 6 = ((i : Nat) : Int) from by rw [rI_ne (by decide), tS_1.2.2, rI_nj (by decide), rI_ne (by decide), rI_nj (by decide)]; exact h6) ?_
                refine sKi (p := 103) rfl rfl ?_
                refine sAd (p := 104) rfl rfl ?_
                refine sPi (z := (((i : Nat) : Int) + 1)) (p := 107) rfl rfl (sk_64 _) rfl rfl rfl rfl ?_
                refine sInX (z := ((i : Nat) : Int)) (ls' := [some (.ref 64), some (.int (iI ((tk y s i : Nat) : Int))), some (.int (iI (((i : Nat) : Int) + 1)))]) (p := 110) rfl rfl (Nat.le_of_ble_eq_true rfl) rfl rfl ?_
                refine sL (i := .goto (-96)) rfl rfl ?_
                refine sFg (ls := [some (.ref 64), some (.int (iI (lt y s (i + 1)))), some (.int (iI ((i + 1 : Nat) : Int)))]) (xx_ll_le (And.intro rfl (And.intro rfl (And.intro rfl (True.intro))))) (ih14 _ ?_)
                exact sc_step hJ
              · exfalso; exact absurd (hr.2.2 (show tA y s i < s by omega)) (by rw [show isB (y (rE isB y s (tP y s i))) = true by assumption]; decide)
  · have hJ14 := hJ14
    obtain ⟨ht, h5, h6, hk, hf⟩ := hJ14
    have hlb := lt_b (y := y) (s := s) (nT y s + 1)
    have hle : lt y s (nT y s + 1) = ((tk y s (nT y s) : Nat) : Int) := rfl
    have hn2 := hn.2.1
    refine sL (pc' := 15) (i := .iload_n 2) rfl rfl ?_
    refine sKs (p := 18) rfl rfl ?_
    refine sIc_gt (p := 21) rfl rfl ⟨by omega, by omega⟩ ⟨by omega, by omega⟩ (fun c8 => ?_) (fun c8 => ?_)
    · have c8 := c8
      refine sL (pc' := 114) (i := .aload_n 0) rfl rfl ?_
      refine sKi (p := 115) rfl rfl ?_
      refine sPi (z := 0) (p := 118) rfl rfl (sk_64 _) rfl rfl rfl rfl ?_
      refine sEn (i := .return_) rfl (rfl) ?_
      rw [hS0] at hf
      refine ⟨rfl, rI_at, (rI_nj (by decide)).trans h6, fun k hk2 => ?_, hf.1, hf.2.1, fun c c1 c2 c3 => (funext fun k => rI_ne c1 k).trans (hf.2.2.1 c c1 c2 c3), fun c c1 => hf.2.2.2 c c1⟩
      have h9 := hk k hk2
      exact ⟨(rI_ne (by decide) _).trans h9.1, (rI_ne (by decide) _).trans h9.2.1, h9.2.2⟩
    · have c8 := c8
      refine sL (pc' := 22) (i := .iload_n 1) rfl rfl ?_
      refine sKs (p := 25) rfl rfl ?_
      refine sIc_eq (p := 28) rfl rfl ⟨by omega, by omega⟩ ⟨by omega, by omega⟩ (fun c9 => ?_) (fun c9 => ?_)
      · have c9 := c9
        refine sL (pc' := 114) (i := .aload_n 0) rfl rfl ?_
        refine sKi (p := 115) rfl rfl ?_
        refine sPi (z := 0) (p := 118) rfl rfl (sk_64 _) rfl rfl rfl rfl ?_
        refine sEn (i := .return_) rfl (rfl) ?_
        rw [hS0] at hf
        refine ⟨rfl, rI_at, (rI_nj (by decide)).trans h6, fun k hk2 => ?_, hf.1, hf.2.1, fun c c1 c2 c3 => (funext fun k => rI_ne c1 k).trans (hf.2.2.1 c c1 c2 c3), fun c c1 => hf.2.2.2 c c1⟩
        have h9 := hk k hk2
        exact ⟨(rI_ne (by decide) _).trans h9.1, (rI_ne (by decide) _).trans h9.2.1, h9.2.2⟩
      · have c9 := c9
        refine sL (pc' := 29) (i := .iload_n 1) rfl rfl ?_
        refine sKs (p := 32) rfl rfl ?_
        refine sIc_eq (p := 35) rfl rfl ⟨by omega, by omega⟩ ⟨by omega, by omega⟩ (fun c10 => ?_) (fun c10 => ?_)
        · have c10 := c10
          refine sL (pc' := 114) (i := .aload_n 0) rfl rfl ?_
          refine sKi (p := 115) rfl rfl ?_
          refine sPi (z := 0) (p := 118) rfl rfl (sk_64 _) rfl rfl rfl rfl ?_
          refine sEn (i := .return_) rfl (rfl) ?_
          rw [hS0] at hf
          refine ⟨rfl, rI_at, (rI_nj (by decide)).trans h6, fun k hk2 => ?_, hf.1, hf.2.1, fun c c1 c2 c3 => (funext fun k => rI_ne c1 k).trans (hf.2.2.1 c c1 c2 c3), fun c c1 => hf.2.2.2 c c1⟩
          have h9 := hk k hk2
          exact ⟨(rI_ne (by decide) _).trans h9.1, (rI_ne (by decide) _).trans h9.2.1, h9.2.2⟩
        · exfalso; omega
end TL
