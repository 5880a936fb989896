/-! ===== the reference's reading: value ===== -/
theorem tK_61 {y : Nat → Nat} {s a : Nat} : tK y s a = 61 ↔ (bA y s a = 61 ∧ bA y s (a + 1) ≠ 62) := by
  have e0 : bA y s a = if a < s then ((y a : Nat) : Int) else -1 := rfl
  by_cases c : a < s
  · rw [e0, if_pos c]
    by_cases c1 : y a = 61
    · unfold tK
      rw [if_neg (fun z => z c), c1, if_neg (show ¬ isL 61 = true by decide), if_neg (show ¬ isD 61 = true by decide)]
      by_cases c2 : bA y s (a + 1) = 62
      · rw [if_pos ⟨rfl, c2⟩]
        constructor
        · intro z
          cases z
        · intro z
          exact absurd c2 z.2
      · rw [if_neg (fun z => c2 z.2), if_neg (fun z => absurd z.1 (by decide)), if_pos (show isY 61 = true by decide)]
        exact ⟨fun _ => ⟨rfl, c2⟩, fun _ => rfl⟩
    · constructor
      · intro h
        exfalso
        revert h
        unfold tK wK
        repeat' split
        all_goals first | omega | (intro z; omega)
      · intro z
        omega
  · rw [e0, if_neg c]
    constructor
    · intro h
      exfalso
      unfold tK at h
      rw [if_pos c] at h
      cases h
    · intro z
      omega
theorem tK_D3 {y : Nat → Nat} {s a : Nat} (h : tK y s a = 259) : 0 ≤ cI (tC y s a) := by
  unfold tK at h
  by_cases c : a < s
  · rw [if_neg (fun z => z c)] at h
    by_cases c1 : isL (y a) = true
    · exfalso
      rw [if_pos c1] at h
      revert h
      unfold wK
      repeat' split
      all_goals omega
    · rw [if_neg c1] at h
      by_cases c2 : isD (y a) = true
      · rw [if_pos c2] at h
        have hL : rE isD y s a - a ≤ 3 := Classical.byContradiction fun q => by
          rw [if_neg (fun z => q z.1)] at h
          cases h
        obtain ⟨_, e2⟩ := tK_D2 c c2
        have hr := rE_ok (p := isD) (y := y) (s := s) (a := a) (by omega)
        have hn := nv_1 (y := y) (a := a) (k := rE isD y s a - a) (fun j hj => hr.2.1 _ (by omega) (by omega))
        have hk : (10 ^ (rE isD y s a - a) : Nat) ≤ 1000 := by
          have : rE isD y s a - a = 0 ∨ rE isD y s a - a = 1 ∨ rE isD y s a - a = 2 ∨ rE isD y s a - a = 3 := by omega
          rcases this with q | q | q | q <;> rw [q] <;> decide
        rw [e2, cI_i ⟨by omega, by omega⟩]
        exact hn.1
      · exfalso
        rw [if_neg c2] at h
        have : y a < 256 ∨ True := Or.inr True.intro
        revert h
        by_cases q1 : y a = 61 ∧ bA y s (a + 1) = 62
        · rw [if_pos q1]
          omega
        · rw [if_neg q1]
          by_cases q2 : y a = 60 ∧ bA y s (a + 1) = 61 ∧ bA y s (a + 2) = 62
          · rw [if_pos q2]
            omega
          · rw [if_neg q2]
            by_cases q3 : isY (y a) = true
            · rw [if_pos q3]
              have := of_decide_eq_true q3
              omega
            · rw [if_neg q3]
              omega
  · rw [if_pos c] at h
    cases h
/-- about to load token j -/
def mG (S : ST) (y : Nat → Nat) (s j : Nat) : Prop := mt S y s ∧ SI S 179 14 = 0 ∧ ∃ p : Nat, p ≤ s ∧ SI S 179 23 = ((p : Nat) : Int) ∧ rE isB y s p = tA y s j
def frK (S S' : ST) : Prop := S'.1 = S.1 ∧ SR S' = SR S ∧ (∀ c, c ≠ 179 → c ≠ 193 → c ≠ 194 → SI S' c = SI S c) ∧ (∀ j, (j < 14 ∨ (14 < j ∧ j < 23) ∨ (34 < j)) → SI S' 179 j = SI S 179 j) ∧ (∀ c, c ≠ 179 → c ≠ 186 → c ≠ 192 → SL S' c = SL S c) ∧ (∀ j, j ≠ 26 → SL S' 179 j = SL S 179 j)
theorem frK_refl (S : ST) : frK S S := ⟨rfl, rfl, fun _ _ _ _ => rfl, fun _ _ => rfl, fun _ _ _ _ => rfl, fun _ _ => rfl⟩
theorem frK_trans {S T V : ST} (h : frK S T) (k : frK T V) : frK S V := ⟨k.1.trans h.1, k.2.1.trans h.2.1, fun c a b d => (k.2.2.1 c a b d).trans (h.2.2.1 c a b d), fun c a => (k.2.2.2.1 c a).trans (h.2.2.2.1 c a), fun c a b d => (k.2.2.2.2.1 c a b d).trans (h.2.2.2.2.1 c a b d), fun c a => (k.2.2.2.2.2 c a).trans (h.2.2.2.2.2 c a)⟩
theorem frK_J {S S' : ST} (h : frJ S S') : frK S S' := ⟨h.1, h.2.1, fun c a _ _ => h.2.2.1 c a, fun j hj => h.2.2.2.1 j (by omega) (by omega) (by omega) (by omega) (by omega) (by omega), fun c a _ _ => h.2.2.2.2.1 c a, h.2.2.2.2.2⟩
theorem frK_P {S S' : ST} (h : frP S S') : frK S S' := ⟨h.1, h.2.1, h.2.2.1, fun j hj => h.2.2.2.1 j (by omega) (by omega) (by omega), fun c _ a b => h.2.2.2.2 c a b, fun j _ => congrFun (h.2.2.2.2 179 (by decide) (by decide)) j⟩
section MB
variable {X : List Int32} {S : ST} {y : Nat → Nat} {s i n : Nat} {sz : Nat → Nat} {W : List (Int × Int)} {V : List (Nat → Bool)}
theorem vM_K {S' : ST} (h : vM S n sz) (f : frK S S') : vM S' n sz := by
  unfold vM at *
  rw [f.2.2.1 180 (by decide) (by decide) (by decide), f.2.2.1 181 (by decide) (by decide) (by decide), f.2.2.2.1 1 (by decide), f.2.2.2.1 4 (by decide)]
  exact h
theorem mS_J {S' : ST} (h : mS n S W V) (f : frJ S S') : mS n S' W V := by
  have j := fun k => f.2.2.2.1 k
  refine ⟨⟨(j 33 (by decide) (by decide) (by decide) (by decide) (by decide) (by decide)).trans h.1.1, (j 30 (by decide) (by decide) (by decide) (by decide) (by decide) (by decide)).trans h.1.2.1, (j 34 (by decide) (by decide) (by decide) (by decide) (by decide) (by decide)).trans h.1.2.2⟩, wS_fr W (fun k _ => ?_) h.2.1, pS_fr V (fun k _ => ?_) h.2.2.1, h.2.2.2⟩
  · rw [f.2.2.1 193 (by decide), f.2.2.1 194 (by decide)]
    exact ⟨rfl, rfl⟩
  · rw [f.2.2.2.2.1 192 (by decide)]
theorem mG_P {S' : ST} {j : Nat} (h : mG S y s j) (f : frP S S') : mG S' y s j := by
  refine ⟨mt_P h.1 f, ?_⟩
  have h2 := h.2
  rw [f.2.2.2.1 14 (by decide) (by decide) (by decide), f.2.2.2.1 23 (by decide) (by decide) (by decide)]
  exact h2
theorem mG_A (h : mA S y s i) : mG S y s (i + 1) := ⟨h.1, h.2.1, _, tP_le _, h.2.2.1, rfl⟩
theorem m_nextG {j : Nat} (h : mG S y s j) : sM X 2 197 [.ref 179] S (fun r S' => r = none ∧ frJ S S' ∧ mN S' y s j) := by
  obtain ⟨ht, h14, p, hp, h23, hr⟩ := h
  refine sM.weaken (m_next ht h23 hp h14 ⟨by decide, by decide⟩ rfl) ?_
  rintro r S' ⟨h1, h2⟩
  refine ⟨h1, h2.1, ?_⟩
  rw [hr] at h2
  exact nx_N2 ht h2 rfl
theorem rE_idem {p : Nat} (hp : p ≤ s) : rE isB y s (rE isB y s p) = rE isB y s p := by
  have h1 := rE_ok (p := isB) (y := y) (s := s) (a := p) hp
  have h2 := rE_ok (p := isB) (y := y) (s := s) (a := rE isB y s p) h1.1.2
  refine Classical.byContradiction fun c => ?_
  have h3 := h2.2.1 (rE isB y s p) (by omega) (by omega)
  rw [h1.2.2 (by omega)] at h3
  cases h3
theorem m_skipA (h : mA S y s i) : sM X 1 195 [.ref 179] S (sV none (wI S 179 23 ((tA y s (i + 1) : Nat) : Int))) := by
  have h1 := rE_ok (p := isB) (y := y) (s := s) (a := tP y s (i + 1)) (tP_le _)
  have e : tP y s (i + 1) + (tA y s (i + 1) - tP y s (i + 1)) = tA y s (i + 1) := by
    have := (tA_ok (y := y) (s := s) (i + 1)).1
    omega
  have h2 := m_skip (X := X) (L := tA y s (i + 1) - tP y s (i + 1)) h.1 h.2.2.1 (by rw [e]; exact (tA_ok _).2) (fun j hj => h1.2.1 _ (by omega) (by show _ < tA y s (i + 1); omega)) (by rw [e]; exact h1.2.2)
  rw [e] at h2
  exact h2
/-- the row of a variable's value, laid on the pile -/
theorem vl_tl {Q : Option Value → ST → Prop} {v : Nat} {z : Int} {a b : Value} (hv : vM S n sz) (hvn : v < n) (hm : mS n S W V) (hb : V.length + 1 ≤ 220) (hz : rg z) (hq : ∀ S', frP S S' → mS n S' W (atm n sz ((v : Nat) : Int) z :: V) → Q none S') : sT X 1 207 139 [some (.ref 179), some (.int (iI ((v : Nat) : Int))), some a, some b, some (.int (iI z)), none] [] S (sE X 207 Q) := by
  have hT0 := hv.1.2.2
  have z1 := hz.1
  have z2 := hz.2
  have h30 : SI S 179 30 = ((V.length : Nat) : Int) := hm.1.2.1
  refine sFg (ls := [some (.ref 179), some (.int (iI ((v : Nat) : Int))), none, none, some (.int (iI z)), none]) (xx_ll_le (And.intro rfl (And.intro rfl (And.intro rfl True.intro)))) ?_
  refine sL (pc' := 140) (i := .aload_n 0) rfl rfl ?_
  refine sL (pc' := 141) (i := .aload_n 0) rfl rfl ?_
  refine sGc (p := 144) rfl rfl (sk_179 _) rfl rfl rfl ?_
  refine sKb (p := 146) rfl rfl ?_
  refine sL (pc' := 147) (i := .aload_n 0) rfl rfl ?_
  refine sGi (p := 150) rfl rfl (sk_179 _) rfl rfl rfl h30 ?_
  refine sMu (p := 151) rfl rfl ?_
  refine sCv (p := 154) (as := [_, _]) rfl rfl rfl rfl (by decide) (Nat.le_of_ble_eq_true rfl) rfl (Nat.le_of_ble_eq_true rfl) (sk_179 _) rfl (by omega) (m_clear (sk_192 _) (o := 16 * V.length) ⟨by omega, by omega⟩) ?_
  refine sKi (p := 155) rfl rfl ?_
  refine sL (pc' := 157) (i := .istore 5) (ls' := [some (.ref 179), some (.int (iI ((v : Nat) : Int))), none, none, some (.int (iI z)), some (.int (iI 0))]) rfl rfl ?_
  refine sSh (T := wRw S 192 (16 * V.length) (mk (fun _ => false) (fun r => decide (vlI n sz ((v : Nat) : Int) r = z)) 0)) (congrArg sH (by rw [mk_0])) ?_
  refine sIt (A := fun i => [some (.ref 179), some (.int (iI ((v : Nat) : Int))), none, none, some (.int (iI z)), some (.int (iI ((i : Nat) : Int)))]) (B := fun i => wRw S 192 (16 * V.length) (mk (fun _ => false) (fun r => decide (vlI n sz ((v : Nat) : Int) r = z)) i)) (fun _ => True) (pr sz n) True.intro (fun i hi157 hI157 ih157 => ?_) (fun hI157 => ?_)
  · have hi157 := hi157
    have hvl : 0 ≤ ((val sz i v : Nat) : Int) ∧ ((val sz i v : Nat) : Int) ≤ 2147483647 := by
      have h1 := hv.1.val hvn i
      have h2 := hv.1.2.1 v hvn
      omega
    refine sL (pc' := 159) (i := .iload 5) rfl rfl ?_
    refine sL (pc' := 160) (i := .aload_n 0) rfl rfl ?_
    refine sGi (p := 163) rfl rfl (sk_179 _) rfl rfl rfl hv.2.2.1 ?_
    refine sIc_ge (p := 166) rfl rfl ⟨by omega, by omega⟩ ⟨by omega, by omega⟩ (fun c1 => ?_) (fun c1 => ?_)
    · exfalso; omega
    · have c1 := c1
      refine sL (pc' := 167) (i := .aload_n 0) rfl rfl ?_
      refine sL (pc' := 169) (i := .iload 5) rfl rfl ?_
      refine sL (pc' := 170) (i := .iload_n 1) rfl rfl ?_
      refine sCv (p := 173) (as := [_, _]) rfl rfl rfl rfl (by decide) (Nat.le_of_ble_eq_true rfl) rfl (Nat.le_of_ble_eq_true rfl) (sk_179 _) rfl (by omega) (m_val (S := wRw S 192 (16 * V.length) (mk (fun _ => false) (fun r => decide (vlI n sz ((v : Nat) : Int) r = z)) i)) hv (r := i) (v := v) (by omega) hvn) ?_
      refine sL (pc' := 175) (i := .iload 4) rfl rfl ?_
      refine sIc_ne (p := 178) rfl rfl ⟨by omega, by omega⟩ ⟨by omega, by omega⟩ (fun c2 => ?_) (fun c2 => ?_)
      · have c2 := c2
        refine sInX (z := ((i : Nat) : Int)) (ls' := [some (.ref 179), some (.int (iI ((v : Nat) : Int))), none, none, some (.int (iI z)), some (.int (iI (((i : Nat) : Int) + 1)))]) (p := 197) rfl rfl (Nat.le_of_ble_eq_true rfl) rfl rfl ?_
        refine sL (i := .goto (-40)) rfl rfl ?_
        refine sRo (ls := [some (.ref 179), some (.int (iI ((v : Nat) : Int))), none, none, some (.int (iI z)), some (.int (iI ((i + 1 : Nat) : Int)))]) (T := wRw S 192 (16 * V.length) (mk (fun _ => false) (fun r => decide (vlI n sz ((v : Nat) : Int) r = z)) (i + 1))) (And.intro rfl (And.intro rfl (And.intro rfl (And.intro rfl (True.intro))))) (congrArg sH (mk_f (decide_eq_false (by rw [vlI_v hvn]; omega)))) (ih157 ?_)
        exact True.intro
      · have c2 := c2
        refine sL (pc' := 179) (i := .aload_n 0) rfl rfl ?_
        refine sGc (p := 182) rfl rfl (sk_179 _) rfl rfl rfl ?_
        refine sKb (p := 184) rfl rfl ?_
        refine sL (pc' := 185) (i := .aload_n 0) rfl rfl ?_
        refine sGi (p := 188) rfl rfl (sk_179 _) rfl rfl rfl h30 ?_
        refine sMu (p := 189) rfl rfl ?_
        refine sL (pc' := 191) (i := .iload 5) rfl rfl ?_
        refine sCs (p := 194) (as := [_, _, _]) rfl rfl rfl rfl (by decide) (Nat.le_of_ble_eq_true rfl) rfl (Nat.le_of_ble_eq_true rfl) rfl (by omega) (c_set (S := wRw S 192 (16 * V.length) (mk (fun _ => false) (fun r => decide (vlI n sz ((v : Nat) : Int) r = z)) i)) (o := 16 * V.length) (r := i) (sk_192 _) ⟨by omega, by omega⟩ (rowS_wRw _ _ _ _) (by omega)) ?_
        refine sInX (z := ((i : Nat) : Int)) (ls' := [some (.ref 179), some (.int (iI ((v : Nat) : Int))), none, none, some (.int (iI z)), some (.int (iI (((i : Nat) : Int) + 1)))]) (p := 197) rfl rfl (Nat.le_of_ble_eq_true rfl) rfl rfl ?_
        refine sL (i := .goto (-40)) rfl rfl ?_
        refine sRo (ls := [some (.ref 179), some (.int (iI ((v : Nat) : Int))), none, none, some (.int (iI z)), some (.int (iI ((i + 1 : Nat) : Int)))]) (T := wRw S 192 (16 * V.length) (mk (fun _ => false) (fun r => decide (vlI n sz ((v : Nat) : Int) r = z)) (i + 1))) (And.intro rfl (And.intro rfl (And.intro rfl (And.intro rfl (True.intro))))) (congrArg sH (mk_t (decide_eq_true (by rw [vlI_v hvn]; omega)))) (ih157 ?_)
        exact True.intro
  · have hI157 := hI157
    refine sL (pc' := 159) (i := .iload 5) rfl rfl ?_
    refine sL (pc' := 160) (i := .aload_n 0) rfl rfl ?_
    refine sGi (p := 163) rfl rfl (sk_179 _) rfl rfl rfl hv.2.2.1 ?_
    refine sIc_ge (p := 166) rfl rfl ⟨by omega, by omega⟩ ⟨by omega, by omega⟩ (fun c3 => ?_) (fun c3 => ?_)
    · have c3 := c3
      refine sL (pc' := 201) (i := .aload_n 0) rfl rfl ?_
      refine sL (pc' := 202) (i := .dup) rfl rfl ?_
      refine sGi (p := 205) rfl rfl (sk_179 _) rfl rfl rfl h30 ?_
      refine sKi (p := 206) rfl rfl ?_
      refine sAd (p := 207) rfl rfl ?_
      refine sPi (z := (((V.length : Nat) : Int) + 1)) (p := 210) rfl rfl (sk_179 _) rfl rfl rfl rfl ?_
      refine sEn (i := .return_) rfl (rfl) ?_
      refine hq _ (frP_trans (frP_r (Or.inr rfl)) (frP_w (Or.inl rfl))) ?_
      exact mS_top hm hm.2.1 hm.2.2.1 hm.2.2.2.1 (Nat.le_refl _) hb ((rI_nj (by decide)).trans hm.1.1) rI_at ((rI_nj (by decide)).trans hm.1.2.2) rfl rfl (rowS_wRw _ _ _ _) (fun k hk => (SL_wRw _ _ _ _ _ _).trans (if_neg (by omega)))
    · exfalso; omega
end MB
