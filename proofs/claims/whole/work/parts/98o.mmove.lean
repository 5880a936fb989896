/-! ===== the reference: place, bring, move, seek ===== -/
section M10
variable {X : List Int32} {S : ST} {n : Nat} {sz ord pl : Nat → Nat} {fn : Nat} {Fn : Nat → Nat → Bool}
theorem m_place_u {x : Int} (hv : vM S n sz) (hx : rg x) (hn : ¬ (0 ≤ x ∧ x < n)) : sM X 2 245 [.ref 179, .int (iI x)] S (sV (some (.int (iI (-101)))) S) := by
  have x1 := hx.1
  have x2 := hx.2
  refine sIni (ls := [some (.ref 179), some (.int (iI x)), none]) rfl ?_
  refine sL (pc' := 1) (i := .aload_n 0) rfl rfl ?_
  refine sL (pc' := 2) (i := .iload_n 1) rfl rfl ?_
  refine sCv (p := 5) (as := [_]) rfl rfl rfl rfl (by decide) (Nat.le_of_ble_eq_true rfl) rfl (Nat.le_of_ble_eq_true rfl) (sk_179 _) rfl (by omega) (m_isVariable hx hv) ?_
  refine sBn (p := 8) rfl rfl (fun c1 => ?_) (fun c1 => ?_)
  · exfalso; have c1 := of_decide_eq_true c1; omega
  · have c1 := c1
    have c1 := of_decide_eq_false c1
    refine sKb (p := 10) rfl rfl ?_
    refine sEn (i := .ireturn) rfl (rfl) ?_
    exact ⟨rfl, rfl⟩
theorem m_place {v : Nat} (hv : vM S n sz) (hoM : oM S n ord) (ho : prm n ord pl) (hvn : v < n) : sM X 2 245 [.ref 179, .int (iI ((v : Nat) : Int))] S (sV (some (.int (iI ((pl v : Nat) : Int)))) S) := by
  have hn := hv.1.1
  have hT0 := hv.1.2.2
  have hplv := ho.2 v hvn
  have h1 : SI S 184 (pl v) = ((v : Nat) : Int) := by rw [hoM _ hplv.1, hplv.2]
  refine sIni (ls := [some (.ref 179), some (.int (iI ((v : Nat) : Int))), none]) rfl ?_
  refine sL (pc' := 1) (i := .aload_n 0) rfl rfl ?_
  refine sL (pc' := 2) (i := .iload_n 1) rfl rfl ?_
  refine sCv (p := 5) (as := [_]) rfl rfl rfl rfl (by decide) (Nat.le_of_ble_eq_true rfl) rfl (Nat.le_of_ble_eq_true rfl) (sk_179 _) rfl (by omega) (m_isVariable ⟨by omega, by omega⟩ hv) ?_
  refine sBn (p := 8) rfl rfl (fun c1 => ?_) (fun c1 => ?_)
  · have c1 := c1
    have c1 := of_decide_eq_true c1
    refine sKi (p := 12) rfl rfl ?_
    refine sL (pc' := 13) (i := .istore_n 2) (ls' := [some (.ref 179), some (.int (iI ((v : Nat) : Int))), some (.int (iI 0))]) rfl rfl ?_
    refine sIt (A := fun i => [some (.ref 179), some (.int (iI ((v : Nat) : Int))), some (.int (iI ((i : Nat) : Int)))]) (B := fun _ => S) (fun _ => True) (pl v) True.intro (fun i hi13 hI13 ih13 => ?_) (fun hI13 => ?_)
    · have hi13 := hi13
      have hne : ord i ≠ v := fun z => by have := (ho.1 i (by omega)).2; rw [z] at this; omega
      have hoi := (ho.1 i (by omega)).1
      refine sL (pc' := 14) (i := .aload_n 0) rfl rfl ?_
      refine sGc (p := 17) rfl rfl (sk_179 _) rfl rfl rfl ?_
      refine sL (pc' := 18) (i := .iload_n 2) rfl rfl ?_
      refine sAi (p := 19) (i := i) rfl rfl (sk_184 _) (by omega) ⟨by omega, by omega⟩ (hoM i (by omega)) ?_
      refine sL (pc' := 20) (i := .iload_n 1) rfl rfl ?_
      refine sIc_eq (p := 23) rfl rfl ⟨by omega, by omega⟩ ⟨by omega, by omega⟩ (fun c2 => ?_) (fun c2 => ?_)
      · exfalso; omega
      · have c2 := c2
        refine sInX (z := ((i : Nat) : Int)) (ls' := [some (.ref 179), some (.int (iI ((v : Nat) : Int))), some (.int (iI (((i : Nat) : Int) + 1)))]) (p := 26) rfl rfl (Nat.le_of_ble_eq_true rfl) rfl rfl ?_
        refine sL (i := .goto (-13)) rfl rfl ?_
        refine sRo (ls := [some (.ref 179), some (.int (iI ((v : Nat) : Int))), some (.int (iI ((i + 1 : Nat) : Int)))]) (T := _) (And.intro rfl (And.intro rfl (And.intro rfl (True.intro)))) (rfl) (ih13 ?_)
        exact True.intro
    · have hI13 := hI13
      refine sL (pc' := 14) (i := .aload_n 0) rfl rfl ?_
      refine sGc (p := 17) rfl rfl (sk_179 _) rfl rfl rfl ?_
      refine sL (pc' := 18) (i := .iload_n 2) rfl rfl ?_
      refine sAi (p := 19) (i := pl v) rfl rfl (sk_184 _) (by omega) ⟨by omega, by omega⟩ h1 ?_
      refine sL (pc' := 20) (i := .iload_n 1) rfl rfl ?_
      refine sIc_eq (p := 23) rfl rfl ⟨by omega, by omega⟩ ⟨by omega, by omega⟩ (fun c3 => ?_) (fun c3 => ?_)
      · have c3 := c3
        refine sL (pc' := 30) (i := .iload_n 2) rfl rfl ?_
        refine sEn (i := .ireturn) rfl (rfl) ?_
        exact ⟨rfl, rfl⟩
      · exfalso; omega
  · exfalso; have c1 := of_decide_eq_false c1; omega
/-- the order while a variable is brought -/
def bU (S : ST) (p i : Nat) : ST := wIA S 184 (fun q => if p ≤ q ∧ q < p + i then SI S 184 (q + 1) else SI S 184 q)
def bD (S : ST) (p i : Nat) : ST := wIA S 184 (fun q => if p - i < q ∧ q ≤ p then SI S 184 (q - 1) else SI S 184 q)
theorem bU_0 (S : ST) (p : Nat) : bU S p 0 = S := wIA_0 (fun k => (if_neg (by omega)).symm)
theorem bU_s {p i : Nat} {z : Int} (hz : z = SI S 184 (p + i + 1)) : wI (bU S p i) 184 (p + i) z = bU S p (i + 1) := wI_wIA (fun k => by
  by_cases c : k = p + i
  · rw [if_pos c, if_pos (by omega), hz, c]
  · rw [if_neg c]
    by_cases c2 : p ≤ k ∧ k < p + i
    · rw [if_pos c2, if_pos (by omega)]
    · rw [if_neg c2, if_neg (by omega)])
theorem bU_o {p i q : Nat} (h : p + i ≤ q) : SI (bU S p i) 184 q = SI S 184 q := rA_at.trans (if_neg (by omega))
theorem bD_0 (S : ST) (p : Nat) : bD S p 0 = S := wIA_0 (fun k => (if_neg (by omega)).symm)
theorem bD_s {p i : Nat} {z : Int} (hi : i < p) (hz : z = SI S 184 (p - i - 1)) : wI (bD S p i) 184 (p - i) z = bD S p (i + 1) := wI_wIA (fun k => by
  by_cases c : k = p - i
  · rw [if_pos c, if_pos (by omega), hz, c]
  · rw [if_neg c]
    by_cases c2 : p - i < k ∧ k ≤ p
    · rw [if_pos c2, if_pos (by omega)]
    · rw [if_neg c2, if_neg (by omega)])
theorem bD_o {p i q : Nat} (h : q ≤ p - i) : SI (bD S p i) 184 q = SI S 184 q := rA_at.trans (if_neg (by omega))
theorem bU_n (S : ST) {p i c : Nat} (h : c ≠ 184) : SI (bU S p i) c = SI S c := funext fun j => rA_ne h j
def brS (S : ST) (v p t : Nat) : ST := wI (bD (bU S p (t - p)) (p + (t - p)) (p - t)) 184 t ((v : Nat) : Int)
theorem brS_ne {v p t c : Nat} (h : c ≠ 184) : SI (brS S v p t) c = SI S c := funext fun j => by
  unfold brS
  rw [rI_ne h]
  show SI (wIA (bU S p (t - p)) 184 _) c j = _
  rw [rA_ne h, bU_n S h]
theorem bU_o' {p i q : Nat} (h : q < p ∨ p + i ≤ q) (hoM : oM S n ord) (hq : q < n) : SI (bU S p i) 184 q = ((ord q : Nat) : Int) := (rA_at.trans (if_neg (by omega))).trans (hoM q hq)
theorem brS_o {v p t : Nat} (hoM : oM S n ord) (hp : p < n) (ht : t < n) (hv : ord p = v) : oM (brS S v p t) n (mvO ord p t) := fun q hq => by
  unfold brS
  by_cases c : q = t
  · rw [c, rI_at, mvO_t, hv]
  · rw [rI_nj c]
    show SI (wIA (bU S p (t - p)) 184 _) 184 q = _
    rw [rA_at]
    unfold mvO skp
    rw [if_neg c]
    by_cases c1 : p + (t - p) - (p - t) < q ∧ q ≤ p + (t - p)
    · rw [if_pos c1, bU_o' (by omega) hoM (by omega)]
      rw [if_neg (show ¬ q < t by omega), if_pos (show q - 1 < p by omega)]
    · rw [if_neg c1]
      show SI (wIA S 184 _) 184 q = _
      rw [rA_at]
      by_cases c2 : p ≤ q ∧ q < p + (t - p)
      · rw [if_pos c2, hoM (q + 1) (by omega), if_pos (show q < t by omega), if_neg (show ¬ q < p by omega)]
      · rw [if_neg c2, hoM q hq]
        by_cases c3 : q < t
        · rw [if_pos c3, if_pos (by omega)]
        · rw [if_neg c3, if_neg (by omega), show q - 1 + 1 = q from by omega]
theorem m_bring {v t : Nat} (hv : vM S n sz) (hoM : oM S n ord) (ho : prm n ord pl) (hvn : v < n) (ht : t < n) : sM X 3 246 [.ref 179, .int (iI ((v : Nat) : Int)), .int (iI ((t : Nat) : Int))] S (sV none (brS S v (pl v) t)) := by
  have hn := hv.1.1
  have hT0 := hv.1.2.2
  have hplv := ho.2 v hvn
  refine sIni (ls := [some (.ref 179), some (.int (iI ((v : Nat) : Int))), some (.int (iI ((t : Nat) : Int))), none]) rfl ?_
  refine sL (pc' := 1) (i := .aload_n 0) rfl rfl ?_
  refine sL (pc' := 2) (i := .iload_n 1) rfl rfl ?_
  refine sCv (p := 5) (as := [_]) rfl rfl rfl rfl (by decide) (Nat.le_of_ble_eq_true rfl) rfl (Nat.le_of_ble_eq_true rfl) (sk_179 _) rfl (by omega) (m_place hv hoM ho hvn) ?_
  refine sL (pc' := 6) (i := .istore_n 3) (ls' := [some (.ref 179), some (.int (iI ((v : Nat) : Int))), some (.int (iI ((t : Nat) : Int))), some (.int (iI ((pl v : Nat) : Int)))]) rfl rfl ?_
  refine sSh (T := bU S (pl v) 0) (congrArg sH (bU_0 _ _).symm) ?_
  refine sIt (A := fun i => [some (.ref 179), some (.int (iI ((v : Nat) : Int))), some (.int (iI ((t : Nat) : Int))), some (.int (iI ((pl v + i : Nat) : Int)))]) (B := fun i => bU S (pl v) i) (fun _ => True) (t - pl v) True.intro (fun i hi6 hI6 ih6 => ?_) (fun hI6 => ?_)
  · have hi6 := hi6
    refine sL (pc' := 7) (i := .iload_n 3) rfl rfl ?_
    refine sL (pc' := 8) (i := .iload_n 2) rfl rfl ?_
    refine sIc_ge (p := 11) rfl rfl ⟨by omega, by omega⟩ ⟨by omega, by omega⟩ (fun c1 => ?_) (fun c1 => ?_)
    · exfalso; omega
    · have c1 := c1
      refine sL (pc' := 12) (i := .aload_n 0) rfl rfl ?_
      refine sGc (p := 15) rfl rfl (sk_179 _) rfl rfl rfl ?_
      refine sL (pc' := 16) (i := .iload_n 3) rfl rfl ?_
      refine sL (pc' := 17) (i := .aload_n 0) rfl rfl ?_
      refine sGc (p := 20) rfl rfl (sk_179 _) rfl rfl rfl ?_
      refine sL (pc' := 21) (i := .iload_n 3) rfl rfl ?_
      refine sKi (p := 22) rfl rfl ?_
      refine sAd (p := 23) rfl rfl ?_
      refine sAi (p := 24) (i := pl v + i + 1) rfl rfl (sk_184 _) (by omega) ⟨by omega, by omega⟩ (bU_o (by omega)) ?_
      refine sWi (p := 25) (i := pl v + i) rfl rfl (sk_184 _) (by omega) ⟨by omega, by omega⟩ ?_
      refine sInX (z := ((pl v + i : Nat) : Int)) (ls' := [some (.ref 179), some (.int (iI ((v : Nat) : Int))), some (.int (iI ((t : Nat) : Int))), some (.int (iI (((pl v + i : Nat) : Int) + 1)))]) (p := 28) rfl rfl (Nat.le_of_ble_eq_true rfl) rfl rfl ?_
      refine sL (i := .goto (-22)) rfl rfl ?_
      refine sRo (ls := [some (.ref 179), some (.int (iI ((v : Nat) : Int))), some (.int (iI ((t : Nat) : Int))), some (.int (iI ((pl v + (i + 1) : Nat) : Int)))]) (T := bU S (pl v) (i + 1)) (And.intro rfl (And.intro rfl (And.intro rfl (And.intro rfl (True.intro))))) (congrArg sH (bU_s rfl)) (ih6 ?_)
      exact True.intro
  · have hI6 := hI6
    refine sL (pc' := 7) (i := .iload_n 3) rfl rfl ?_
    refine sL (pc' := 8) (i := .iload_n 2) rfl rfl ?_
    refine sIc_ge (p := 11) rfl rfl ⟨by omega, by omega⟩ ⟨by omega, by omega⟩ (fun c2 => ?_) (fun c2 => ?_)
    · have c2 := c2
      refine sSh (T := bD (bU S (pl v) (t - pl v)) (pl v + (t - pl v)) 0) (congrArg sH (bD_0 _ _).symm) ?_
      refine sIt (A := fun i => [some (.ref 179), some (.int (iI ((v : Nat) : Int))), some (.int (iI ((t : Nat) : Int))), some (.int (iI ((pl v + (t - pl v) - i : Nat) : Int)))]) (B := fun i => bD (bU S (pl v) (t - pl v)) (pl v + (t - pl v)) i) (fun _ => True) (pl v - t) True.intro (fun i hi31 hI31 ih31 => ?_) (fun hI31 => ?_)
      · have hi31 := hi31
        refine sL (pc' := 32) (i := .iload_n 3) rfl rfl ?_
        refine sL (pc' := 33) (i := .iload_n 2) rfl rfl ?_
        refine sIc_le (p := 36) rfl rfl ⟨by omega, by omega⟩ ⟨by omega, by omega⟩ (fun c3 => ?_) (fun c3 => ?_)
        · exfalso; omega
        · have c3 := c3
          refine sL (pc' := 37) (i := .aload_n 0) rfl rfl ?_
          refine sGc (p := 40) rfl rfl (sk_179 _) rfl rfl rfl ?_
          refine sL (pc' := 41) (i := .iload_n 3) rfl rfl ?_
          refine sL (pc' := 42) (i := .aload_n 0) rfl rfl ?_
          refine sGc (p := 45) rfl rfl (sk_179 _) rfl rfl rfl ?_
          refine sL (pc' := 46) (i := .iload_n 3) rfl rfl ?_
          refine sKi (p := 47) rfl rfl ?_
          refine sSb (p := 48) rfl rfl ?_
          refine sAi (p := 49) (i := pl v + (t - pl v) - i - 1) rfl rfl (sk_184 _) (by omega) ⟨by omega, by omega⟩ (bD_o (by omega)) ?_
          refine sWi (p := 50) (i := pl v + (t - pl v) - i) rfl rfl (sk_184 _) (by omega) ⟨by omega, by omega⟩ ?_
          refine sInX (z := ((pl v + (t - pl v) - i : Nat) : Int)) (ls' := [some (.ref 179), some (.int (iI ((v : Nat) : Int))), some (.int (iI ((t : Nat) : Int))), some (.int (iI (((pl v + (t - pl v) - i : Nat) : Int) + (-1))))]) (p := 53) rfl rfl (Nat.le_of_ble_eq_true rfl) rfl rfl ?_
          refine sL (i := .goto (-22)) rfl rfl ?_
          refine sRo (ls := [some (.ref 179), some (.int (iI ((v : Nat) : Int))), some (.int (iI ((t : Nat) : Int))), some (.int (iI ((pl v + (t - pl v) - (i + 1) : Nat) : Int)))]) (T := bD (bU S (pl v) (t - pl v)) (pl v + (t - pl v)) (i + 1)) (And.intro rfl (And.intro rfl (And.intro rfl (And.intro (congrArg (fun z => some (Value.int z)) (congrArg iI (by omega))) (True.intro))))) (congrArg sH (bD_s (by omega) rfl)) (ih31 ?_)
          exact True.intro
      · have hI31 := hI31
        have hz9 : pl v + (t - pl v) - (pl v - t) = t := by omega
        refine sL (pc' := 32) (i := .iload_n 3) rfl rfl ?_
        refine sL (pc' := 33) (i := .iload_n 2) rfl rfl ?_
        refine sIc_le (p := 36) rfl rfl ⟨by omega, by omega⟩ ⟨by omega, by omega⟩ (fun c4 => ?_) (fun c4 => ?_)
        · have c4 := c4
          refine sL (pc' := 57) (i := .aload_n 0) rfl rfl ?_
          refine sGc (p := 60) rfl rfl (sk_179 _) rfl rfl rfl ?_
          refine sL (pc' := 61) (i := .iload_n 3) rfl rfl ?_
          refine sL (pc' := 62) (i := .iload_n 1) rfl rfl ?_
          refine sWi (p := 63) (i := t) rfl rfl (sk_184 _) (by omega) ⟨by omega, by omega⟩ ?_
          refine sEn (i := .return_) rfl (rfl) ?_
          unfold brS
          exact ⟨rfl, rfl⟩
        · exfalso; omega
    · exfalso; omega
theorem brS_vM {v p t : Nat} (h : vM S n sz) : vM (brS S v p t) n sz := by
  obtain ⟨h1, h2, h3, h4, h5⟩ := h
  refine ⟨h1, ?_, ?_, ?_, ?_⟩
  · rw [brS_ne (by decide)]
    exact h2
  · rw [brS_ne (by decide)]
    exact h3
  · rw [brS_ne (by decide)]
    exact h4
  · rw [brS_ne (by decide)]
    exact h5
/-- what the reference's calls that look at the diagram leave alone -/
def frM (S S' : ST) : Prop := S'.1 = S.1 ∧ SR S' = SR S ∧ (∀ b, b ≠ 195 → b ≠ 187 → SL S' b = SL S b) ∧ (∀ b, b ≠ 198 → b ≠ 179 → b ≠ 196 → b ≠ 197 → b ≠ 184 → SI S' b = SI S b) ∧ (∀ f, f ≠ 38 → f ≠ 42 → SI S' 179 f = SI S 179 f)
theorem frM_refl (S : ST) : frM S S := ⟨rfl, rfl, fun _ _ _ => rfl, fun _ _ _ _ _ _ => rfl, fun _ _ _ => rfl⟩
theorem frM_trans {A B C : ST} (h : frM A B) (k : frM B C) : frM A C := ⟨k.1.trans h.1, k.2.1.trans h.2.1, fun b h1 h2 => (k.2.2.1 b h1 h2).trans (h.2.2.1 b h1 h2), fun b h1 h2 h3 h4 h5 => (k.2.2.2.1 b h1 h2 h3 h4 h5).trans (h.2.2.2.1 b h1 h2 h3 h4 h5), fun f h1 h2 => (k.2.2.2.2 f h1 h2).trans (h.2.2.2.2 f h1 h2)⟩
theorem frM_G {A B : ST} (h : frG A B) : frM A B := ⟨h.1, h.2.1, h.2.2.1, fun b h1 h2 h3 h4 _ => h.2.2.2.1 b h1 h2 h3 h4, fun f h1 _ => h.2.2.2.2 f h1⟩
theorem frM_br {v p t : Nat} : frM S (brS S v p t) := ⟨rfl, rfl, fun _ _ _ => rfl, fun b _ _ _ _ h => brS_ne h, fun f _ _ => congrFun (brS_ne (by decide)) f⟩
theorem frM_42 {z : Int} : frM S (wI S 179 42 z) := ⟨rfl, rfl, fun _ _ _ => rfl, fun b _ h _ _ _ => u2_ne h, fun f _ h => rI_nj h⟩
theorem frM_vM {A B : ST} (h : frM A B) (hv : vM A n sz) : vM B n sz := by
  obtain ⟨h1, h2, h3, h4, h5⟩ := hv
  refine ⟨h1, ?_, ?_, ?_, ?_⟩
  · rw [h.2.2.2.2 1 (by decide) (by decide)]
    exact h2
  · rw [h.2.2.2.2 4 (by decide) (by decide)]
    exact h3
  · rw [h.2.2.2.1 180 (by decide) (by decide) (by decide) (by decide) (by decide)]
    exact h4
  · rw [h.2.2.2.1 181 (by decide) (by decide) (by decide) (by decide) (by decide)]
    exact h5
theorem frM_row {A B : ST} {b o : Nat} {f : Nat → Bool} (h : frM A B) (h1 : b ≠ 195) (h2 : b ≠ 187) (hr : rowS A b o f) : rowS B b o f := fun k hk => by
  rw [h.2.2.1 b h1 h2]
  exact hr k hk
theorem m_sizeAll (hv : vM S n sz) (hoM : oM S n ord) (ho : prm n ord pl) (hfn : SI S 179 9 = (fn : Nat)) (h40 : fn ≤ 40) (hF : ∀ i, i < fn → rowS S 185 (16 * i) (Fn i)) (htb : ∀ i, i < fn → tbT (pr sz n) (Fn i)) : sM X 5 233 [.ref 179] S (fun v S' => v = some (.int (iI ((NN n sz ord fn Fn : Nat) : Int))) ∧ frG S S') := sM.weaken (m_sizeOfAll hv hoM ho hfn h40 hF htb (NN_ok hv.1 ho h40 htb).1) (fun v S' h => ⟨h.1, h.2.1⟩)
theorem mv_prm {pl' : Nat → Nat} {p t : Nat} (ho : prm n ord pl) (hp : p < n) (ht : t < n) : ∃ pl', prm n (mvO ord p t) pl' := by
  have key : ∀ k, k ≤ t → (t - k ≤ p → ∃ pl', prm n (mvO ord p (t - k)) pl') := fun k hk h => by
    have hd : ∀ d, d ≤ p → ∃ pl', prm n (mvO ord p (p - d)) pl' := by
      intro d
      induction d with
      | zero => intro _; exact ⟨pl, by rw [Nat.sub_zero, mvO_p]; exact ho⟩
      | succ d ih =>
        intro hd
        obtain ⟨pl1, h1⟩ := ih (by omega)
        have h2 := swp_prm h1 (p := p - (d + 1)) (by omega)
        rw [show p - d = (p - (d + 1)) + 1 from by omega, mv_dn] at h2
        exact ⟨_, h2⟩
    obtain ⟨pl1, h1⟩ := hd (p - (t - k)) (by omega)
    rw [show p - (p - (t - k)) = t - k from by omega] at h1
    exact ⟨pl1, h1⟩
  by_cases c : t ≤ p
  · exact key 0 (by omega) (by omega)
  · have hu : ∀ d, p + d < n → ∃ pl', prm n (mvO ord p (p + d)) pl' := by
      intro d
      induction d with
      | zero => intro _; exact ⟨pl, by rw [Nat.add_zero, mvO_p]; exact ho⟩
      | succ d ih =>
        intro hd
        obtain ⟨pl1, h1⟩ := ih (by omega)
        have h2 := swp_prm h1 (p := p + d) (by omega)
        rw [mv_up] at h2
        exact ⟨_, h2⟩
    obtain ⟨pl1, h1⟩ := hu (t - p) (by omega)
    rw [show p + (t - p) = t from by omega] at h1
    exact ⟨pl1, h1⟩
theorem m_move_u {x y : Int} (hv : vM S n sz) (hx : rg x) (hy : rg y) (hn : ¬ ((0 ≤ x ∧ x < n) ∧ (0 ≤ y ∧ y < n))) : sM X 6 247 [.ref 179, .int (iI x), .int (iI y)] S (sV (some (.int (iI (if ¬ (0 ≤ x ∧ x < n) then -101 else -102)))) S) := by
  have hn := hv.1.1
  have hT0 := hv.1.2.2
  have x1 := hx.1
  have x2 := hx.2
  have y1 := hy.1
  have y2 := hy.2
  refine sIni (ls := [some (.ref 179), some (.int (iI x)), some (.int (iI y))]) rfl ?_
  refine sL (pc' := 1) (i := .aload_n 0) rfl rfl ?_
  refine sL (pc' := 2) (i := .iload_n 1) rfl rfl ?_
  refine sCv (p := 5) (as := [_]) rfl rfl rfl rfl (by decide) (Nat.le_of_ble_eq_true rfl) rfl (Nat.le_of_ble_eq_true rfl) (sk_179 _) rfl (by omega) (m_isVariable hx hv) ?_
  refine sBn (p := 8) rfl rfl (fun c1 => ?_) (fun c1 => ?_)
  · have c1 := c1
    have c1 := of_decide_eq_true c1
    refine sL (pc' := 12) (i := .iload_n 2) rfl rfl ?_
    refine sI2l (p := 13) rfl rfl ⟨by omega, by omega⟩ ?_
    refine sKj0 (p := 14) rfl rfl rfl ?_
    refine sL (pc' := 15) (i := .aload_n 0) rfl rfl ?_
    refine sGi (p := 18) rfl rfl (sk_179 _) rfl rfl rfl hv.2.1 ?_
    refine sKi (p := 19) rfl rfl ?_
    refine sSb (p := 20) rfl rfl ?_
    refine sI2l (p := 21) rfl rfl ⟨by omega, by omega⟩ ?_
    refine sCs (p := 24) (as := [_, _, _]) rfl rfl rfl rfl (by decide) (Nat.le_of_ble_eq_true rfl) rfl (Nat.le_of_ble_eq_true rfl) rfl (by omega) (m_in (x := y) (y := 0) (z := (((n : Nat) : Int) - 1)) ⟨by omega, by omega⟩ ⟨by omega, by omega⟩ ⟨by omega, by omega⟩) ?_
    refine sBn (p := 27) rfl rfl (fun c2 => ?_) (fun c2 => ?_)
    · exfalso; have c2 := of_decide_eq_true c2; omega
    · have c2 := c2
      have c2 := of_decide_eq_false c2
      refine sKb (p := 29) rfl rfl ?_
      refine sEn (i := .ireturn) rfl (rfl) ?_
      exact ⟨by rw [if_neg (by omega)], rfl⟩
  · have c1 := c1
    have c1 := of_decide_eq_false c1
    refine sKb (p := 10) rfl rfl ?_
    refine sEn (i := .ireturn) rfl (rfl) ?_
    exact ⟨by rw [if_pos (by omega)], rfl⟩
theorem m_move {v t : Nat} (hv : vM S n sz) (hoM : oM S n ord) (ho : prm n ord pl) (hfn : SI S 179 9 = (fn : Nat)) (h40 : fn ≤ 40) (hF : ∀ i, i < fn → rowS S 185 (16 * i) (Fn i)) (htb : ∀ i, i < fn → tbT (pr sz n) (Fn i)) (hvn : v < n) (ht : t < n) : sM X 6 247 [.ref 179, .int (iI ((v : Nat) : Int)), .int (iI ((t : Nat) : Int))] S (fun r S' => r = some (.int (iI ((NN n sz (mvO ord (pl v) t) fn Fn : Nat) : Int))) ∧ frM S S' ∧ oM S' n (mvO ord (pl v) t) ∧ SI S' 179 42 = -1) := by
  have hn := hv.1.1
  have hT0 := hv.1.2.2
  have hplv := ho.2 v hvn
  obtain ⟨pl1, ho1⟩ := mv_prm (pl' := pl) ho hplv.1 ht
  have h42 : vM (wI S 179 42 (-1)) n sz := frM_vM frM_42 hv
  have ho42 : oM (wI S 179 42 (-1)) n ord := fun q hq => (rI_ne (by decide) _).trans (hoM q hq)
  have hfm := frM_trans (frM_42 (S := S) (z := -1)) (frM_br (v := v) (p := pl v) (t := t))
  refine sIni (ls := [some (.ref 179), some (.int (iI ((v : Nat) : Int))), some (.int (iI ((t : Nat) : Int)))]) rfl ?_
  refine sL (pc' := 1) (i := .aload_n 0) rfl rfl ?_
  refine sL (pc' := 2) (i := .iload_n 1) rfl rfl ?_
  refine sCv (p := 5) (as := [_]) rfl rfl rfl rfl (by decide) (Nat.le_of_ble_eq_true rfl) rfl (Nat.le_of_ble_eq_true rfl) (sk_179 _) rfl (by omega) (m_isVariable ⟨by omega, by omega⟩ hv) ?_
  refine sBn (p := 8) rfl rfl (fun c1 => ?_) (fun c1 => ?_)
  · have c1 := c1
    have c1 := of_decide_eq_true c1
    refine sL (pc' := 12) (i := .iload_n 2) rfl rfl ?_
    refine sI2l (p := 13) rfl rfl ⟨by omega, by omega⟩ ?_
    refine sKj0 (p := 14) rfl rfl rfl ?_
    refine sL (pc' := 15) (i := .aload_n 0) rfl rfl ?_
    refine sGi (p := 18) rfl rfl (sk_179 _) rfl rfl rfl hv.2.1 ?_
    refine sKi (p := 19) rfl rfl ?_
    refine sSb (p := 20) rfl rfl ?_
    refine sI2l (p := 21) rfl rfl ⟨by omega, by omega⟩ ?_
    refine sCs (p := 24) (as := [_, _, _]) rfl rfl rfl rfl (by decide) (Nat.le_of_ble_eq_true rfl) rfl (Nat.le_of_ble_eq_true rfl) rfl (by omega) (m_in (x := ((t : Nat) : Int)) (y := 0) (z := (((n : Nat) : Int) - 1)) ⟨by omega, by omega⟩ ⟨by omega, by omega⟩ ⟨by omega, by omega⟩) ?_
    refine sBn (p := 27) rfl rfl (fun c2 => ?_) (fun c2 => ?_)
    · have c2 := c2
      have c2 := of_decide_eq_true c2
      refine sL (pc' := 31) (i := .aload_n 0) rfl rfl ?_
      refine sKi (p := 32) rfl rfl ?_
      refine sPi (z := (-1)) (p := 35) rfl rfl (sk_179 _) rfl rfl rfl rfl ?_
      refine sL (pc' := 36) (i := .aload_n 0) rfl rfl ?_
      refine sL (pc' := 37) (i := .iload_n 1) rfl rfl ?_
      refine sL (pc' := 38) (i := .iload_n 2) rfl rfl ?_
      refine sCv (p := 41) (as := [_, _]) rfl rfl rfl rfl (by decide) (Nat.le_of_ble_eq_true rfl) rfl (Nat.le_of_ble_eq_true rfl) (sk_179 _) rfl (by omega) (m_bring h42 ho42 ho hvn ht) ?_
      refine sL (pc' := 42) (i := .aload_n 0) rfl rfl ?_
      refine sCvQ (p := 45) (as := []) rfl rfl rfl rfl (by decide) (Nat.le_of_ble_eq_true rfl) rfl (Nat.le_of_ble_eq_true rfl) (sk_179 _) rfl (by omega) (m_sizeAll (frM_vM hfm hv) (brS_o ho42 hplv.1 ht hplv.2) ho1 ((hfm.2.2.2.2 9 (by decide) (by decide)).trans hfn) h40 (fun i hi => frM_row hfm (by decide) (by decide) (hF i hi)) htb) ?_
      rintro _ Sz ⟨rfl, hfz⟩
      refine sEn (i := .ireturn) rfl (rfl) ?_
      refine ⟨rfl, frM_trans hfm (frM_G hfz), frG_oM hfz (brS_o ho42 hplv.1 ht hplv.2), ?_⟩
      rw [hfz.2.2.2.2 42 (by decide), brS_ne (by decide), rI_at]
    · exfalso; have c2 := of_decide_eq_false c2; omega
  · exfalso; have c1 := of_decide_eq_false c1; omega
end M10
