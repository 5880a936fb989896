/-! ===== the class: questions ===== -/
section PW
variable {n : Nat} {sz : Nat → Nat} {f : Nat → Bool} {q : Nat → Int}
/-- class's way to ask for dependence is the reference's -/
theorem hg_dp (hw : wf n sz) {v : Nat} (hv : v < n) : anyB (hgB sz f v) (pr sz n) = anyB (dpB sz f v) (pr sz n) := by
  have hs := hw.2.1 v hv
  have hsub : ∀ r j, j + 1 < sz v → chg sz r v (j + 1) - pr sz v = chg sz r v j := fun r j _ => by
    unfold chg
    rw [Nat.add_mul, Nat.one_mul]
    omega
  cases hd : anyB (dpB sz f v) (pr sz n) with
  | false =>
    cases hb : anyB (hgB sz f v) (pr sz n) with
    | false => rfl
    | true =>
      exfalso
      obtain ⟨r, h1, h2⟩ := anyB_iff.mp hb
      have h3 := Bool.and_eq_true_iff.mp h2
      have h4 := of_decide_eq_true h3.1
      have hvl := hw.val hv r
      have h5 : f (chg sz r v (val sz r v - 1)) = f r := dpT_chg hw hv (by omega) hd h1
      have h6 := hsub r (val sz r v - 1) (by omega)
      rw [show val sz r v - 1 + 1 = val sz r v from by omega, chg_val] at h6
      rw [h6, h5] at h3
      have h7 := h3.2
      rw [show (f r != f r) = false from by cases f r <;> rfl] at h7
      exact absurd h7 (by decide)
  | true =>
    refine anyB_iff.mpr (Classical.byContradiction fun c => ?_)
    obtain ⟨r, h1, h2⟩ := dpT_iff.mp hd
    have hvl := hw.val hv r
    have key : ∀ j, j ≤ val sz r v → f (chg sz r v j) = f (chg sz r v 0) := by
      intro j
      induction j with
      | zero => intro _; rfl
      | succ j ih =>
        intro hj
        rw [← ih (by omega)]
        refine Classical.byContradiction fun c2 => c ⟨chg sz r v (j + 1), chg_lt hw hv (by omega) h1, ?_⟩
        unfold hgB
        rw [chg_at hw hv (by omega), decide_eq_true (by omega), hsub r j (by omega)]
        cases hx : f (chg sz r v (j + 1)) <;> cases hy : f (chg sz r v j) <;> first | rfl | (rw [hx, hy] at c2; exact absurd rfl c2)
    have h3 := key (val sz r v) (Nat.le_refl _)
    rw [chg_val] at h3
    exact h2 h3
/-- the least run -/
def isLs (n : Nat) (sz : Nat → Nat) (f : Nat → Bool) (z : Int) : Prop := (z = -1 ∧ ∀ r, r < pr sz n → f r = false) ∨ ∃ r : Nat, r < pr sz n ∧ z = (r : Int) ∧ f r = true ∧ ∀ s, s < pr sz n → f s = true → rk sz n r ≤ rk sz n s
theorem isLs_u (hw : wf n sz) {y z : Int} (h : isLs n sz f y) (k : isLs n sz f z) : y = z := by
  rcases h with ⟨h1, h2⟩ | ⟨r, h1, h2, h3, h4⟩
  · rcases k with ⟨k1, k2⟩ | ⟨s, k1, k2, k3, k4⟩
    · rw [h1, k1]
    · rw [h2 s k1] at k3
      exact absurd k3 (by decide)
  · rcases k with ⟨k1, k2⟩ | ⟨s, k1, k2, k3, k4⟩
    · rw [k2 r h1] at h3
      exact absurd h3 (by decide)
    · have := rk_eq hw h1 k1 (Nat.le_antisymm (h4 s k1 k3) (k4 r h1 h3))
      rw [h2, k2, this]
theorem fsr_ls (hw : wf n sz) : ∀ k i, i + k = pr sz n → (∀ j, j < i → f (sq sz n j) = false) → isLs n sz f (fsr sz n f k i)
  | 0, i, hi, h => Or.inl ⟨rfl, fun r hr => by
    have h1 := h (rk sz n r) (by have := rk_lt hw r (Nat.le_refl n); omega)
    rw [sq_of hw hr] at h1
    exact h1⟩
  | k + 1, i, hi, h => by
    show isLs n sz f (if f (sq sz n i) then ((sq sz n i : Nat) : Int) else fsr sz n f k (i + 1))
    cases c : f (sq sz n i) with
    | true =>
      rw [if_pos rfl]
      refine Or.inr ⟨sq sz n i, sq_lt hw i, rfl, c, fun s hs hf => ?_⟩
      rw [sq_rk hw (by omega)]
      refine Classical.byContradiction fun z => ?_
      have h1 := h (rk sz n s) (by omega)
      rw [sq_of hw hs, hf] at h1
      exact absurd h1 (by decide)
    | false =>
      rw [if_neg (by decide)]
      refine fsr_ls hw k (i + 1) (by omega) (fun j hj => ?_)
      by_cases cj : j = i
      · rw [cj]
        exact c
      · exact h j (by omega)
theorem lsM_ls : ∀ i, (lsM sz n f i = -1 ∧ ∀ r, r < i → f r = false) ∨ ∃ r : Nat, r < i ∧ lsM sz n f i = (r : Int) ∧ f r = true ∧ ∀ s, s < i → f s = true → rk sz n r ≤ rk sz n s
  | 0 => Or.inl ⟨rfl, fun r hr => absurd hr (Nat.not_lt_zero r)⟩
  | i + 1 => by
    have ih := lsM_ls i
    show (((if f i = true ∧ (lsM sz n f i = -1 ∨ rk sz n i < rk sz n (lsM sz n f i).toNat) then ((i : Nat) : Int) else lsM sz n f i) = -1) ∧ _) ∨ ∃ r : Nat, r < i + 1 ∧ (if f i = true ∧ (lsM sz n f i = -1 ∨ rk sz n i < rk sz n (lsM sz n f i).toNat) then ((i : Nat) : Int) else lsM sz n f i) = (r : Int) ∧ _
    by_cases c : f i = true ∧ (lsM sz n f i = -1 ∨ rk sz n i < rk sz n (lsM sz n f i).toNat)
    · rw [if_pos c]
      refine Or.inr ⟨i, by omega, rfl, c.1, fun s hs hf => ?_⟩
      by_cases cs : s = i
      · rw [cs]
        exact Nat.le_refl _
      · rcases ih with ⟨h1, h2⟩ | ⟨r, h1, h2, h3, h4⟩
        · rw [h2 s (by omega)] at hf
          exact absurd hf (by decide)
        · have h5 := h4 s (by omega) hf
          rcases c.2 with c2 | c2
          · omega
          · rw [h2] at c2
            have c2 : rk sz n i < rk sz n r := c2
            omega
    · rw [if_neg c]
      rcases ih with ⟨h1, h2⟩ | ⟨r, h1, h2, h3, h4⟩
      · refine Or.inl ⟨h1, fun r hr => ?_⟩
        by_cases cr : r = i
        · rw [cr]
          cases hf : f i with
          | false => rfl
          | true => exact absurd ⟨hf, Or.inl h1⟩ c
        · exact h2 r (by omega)
      · refine Or.inr ⟨r, by omega, h2, h3, fun s hs hf => ?_⟩
        by_cases cs : s = i
        · rw [cs] at hf ⊢
          refine Classical.byContradiction fun z => c ⟨hf, Or.inr ?_⟩
          rw [h2]
          show rk sz n i < rk sz n r
          omega
        · exact h4 s (by omega) hf
theorem fsr_lsM (hw : wf n sz) : fsr sz n f (pr sz n) 0 = lsM sz n f (pr sz n) := isLs_u hw (fsr_ls hw (pr sz n) 0 (by omega) (fun j hj => absurd hj (Nat.not_lt_zero j))) (lsM_ls (pr sz n))
/-- the heaviest run -/
def isBs (n : Nat) (sz : Nat → Nat) (f : Nat → Bool) (q : Nat → Int) (M : Nat → Prop) (z : Int × Int) : Prop := (z = (-1, 0) ∧ ∀ r, r < pr sz n → M r → f r = true → q r ≤ 0) ∨ ∃ r : Nat, r < pr sz n ∧ M r ∧ z = ((r : Int), q r) ∧ f r = true ∧ 0 < q r ∧ ∀ s, s < pr sz n → M s → f s = true → q s < q r ∨ (q s = q r ∧ rk sz n r ≤ rk sz n s)
theorem isBs_u (hw : wf n sz) {M : Nat → Prop} {y z : Int × Int} (h : isBs n sz f q M y) (k : isBs n sz f q M z) : y = z := by
  rcases h with ⟨h1, h2⟩ | ⟨r, h1, h2, h3, h4, h5, h6⟩
  · rcases k with ⟨k1, k2⟩ | ⟨s, k1, k2, k3, k4, k5, k6⟩
    · rw [h1, k1]
    · have := h2 s k1 k2 k4
      omega
  · rcases k with ⟨k1, k2⟩ | ⟨s, k1, k2, k3, k4, k5, k6⟩
    · have := k2 r h1 h2 h4
      omega
    · have a1 := h6 s k1 k2 k4
      have a2 := k6 r h1 h2 h4
      have : r = s := rk_eq hw h1 k1 (by omega)
      rw [h3, k3, this]
theorem hvr_bs (hw : wf n sz) (hq : ∀ r, 0 ≤ q r) : ∀ i, i ≤ pr sz n → isBs n sz f q (fun r => rk sz n r < i) (hvr sz n f q i)
  | 0, _ => Or.inl ⟨rfl, fun r _ h => absurd h (Nat.not_lt_zero _)⟩
  | i + 1, hi => by
    have ih := hvr_bs hw hq i (by omega)
    have hsq := sq_rk hw (show i < pr sz n by omega)
    have hsl := sq_lt hw i
    have hun : ∀ s, s < pr sz n → rk sz n s < i + 1 → rk sz n s < i ∨ s = sq sz n i := fun s hs h => by
      by_cases c : rk sz n s = i
      · exact Or.inr (rk_eq hw hs hsl (by omega))
      · exact Or.inl (by omega)
    by_cases c : f (sq sz n i) = true ∧ (hvr sz n f q i).2 < q (sq sz n i)
    · rw [hvr_t c.1 c.2]
      refine Or.inr ⟨sq sz n i, hsl, by omega, rfl, c.1, ?_, fun s hs hm hf => ?_⟩
      · rcases ih with ⟨h1, _⟩ | ⟨r, _, _, h3, _, h5, _⟩
        · have c2 := c.2
          rw [h1] at c2
          exact c2
        · have c2 := c.2
          rw [h3] at c2
          have c2 : q r < q (sq sz n i) := c2
          omega
      · rcases hun s hs hm with h | h
        · rcases ih with ⟨h1, h2⟩ | ⟨r, h1, h2, h3, h4, h5, h6⟩
          · have a1 := h2 s hs h hf
            have c2 := c.2
            rw [h1] at c2
            have c2 : 0 < q (sq sz n i) := c2
            exact Or.inl (by omega)
          · have a1 := h6 s hs h hf
            have c2 := c.2
            rw [h3] at c2
            have c2 : q r < q (sq sz n i) := c2
            exact Or.inl (by omega)
        · rw [h]
          exact Or.inr ⟨rfl, Nat.le_refl _⟩
    · rw [hvr_f c]
      rcases ih with ⟨h1, h2⟩ | ⟨r, h1, h2, h3, h4, h5, h6⟩
      · refine Or.inl ⟨h1, fun r hr hm hf => ?_⟩
        rcases hun r hr hm with h | h
        · exact h2 r hr h hf
        · rw [h] at hf ⊢
          rw [h1] at c
          refine Classical.byContradiction fun z => c ⟨hf, ?_⟩
          show (0 : Int) < _
          omega
      · refine Or.inr ⟨r, h1, by omega, h3, h4, h5, fun s hs hm hf => ?_⟩
        rcases hun s hs hm with h | h
        · exact h6 s hs h hf
        · rw [h] at hf ⊢
          rw [h3] at c
          have c2 : ¬ q r < q (sq sz n i) := fun z => c ⟨hf, z⟩
          by_cases c3 : q (sq sz n i) = q r
          · exact Or.inr ⟨c3, by omega⟩
          · exact Or.inl (by omega)
theorem bsM_bs (hq : ∀ r, 0 ≤ q r) : ∀ i, i ≤ pr sz n → isBs n sz f q (fun r => r < i) (bsM sz n f q i)
  | 0, _ => Or.inl ⟨rfl, fun r _ h => absurd h (Nat.not_lt_zero _)⟩
  | i + 1, hi => by
    have ih := bsM_bs hq i (by omega)
    have hqi := hq i
    have hst : bsM sz n f q (i + 1) = if (bsM sz n f q i).2 < (if f i then q i else 0) ∨ ((if f i then q i else 0) = (bsM sz n f q i).2 ∧ 0 < (if f i then q i else 0) ∧ rk sz n i < rk sz n (bsM sz n f q i).1.toNat) then (((i : Nat) : Int), (if f i then q i else 0)) else bsM sz n f q i := rfl
    rw [hst]
    cases hfi : f i with
    | false =>
      have hneg : ¬ ((bsM sz n f q i).2 < (if false = true then q i else 0) ∨ ((if false = true then q i else 0) = (bsM sz n f q i).2 ∧ 0 < (if false = true then q i else 0) ∧ rk sz n i < rk sz n (bsM sz n f q i).1.toNat)) := by
        rw [if_neg (by decide)]
        rcases ih with ⟨h1, _⟩ | ⟨r, _, _, h3, _, h5, _⟩
        · rw [h1]
          show ¬ ((0 : Int) < 0 ∨ _)
          omega
        · rw [h3]
          show ¬ (q r < 0 ∨ _)
          omega
      rw [if_neg hneg]
      rcases ih with ⟨h1, h2⟩ | ⟨r, h1, h2, h3, h4, h5, h6⟩
      · refine Or.inl ⟨h1, fun r hr hm hf => ?_⟩
        have : r ≠ i := fun z => by rw [z, hfi] at hf; exact absurd hf (by decide)
        exact h2 r hr (by omega) hf
      · refine Or.inr ⟨r, h1, by omega, h3, h4, h5, fun s hs hm hf => ?_⟩
        have : s ≠ i := fun z => by rw [z, hfi] at hf; exact absurd hf (by decide)
        exact h6 s hs (by omega) hf
    | true =>
      rw [if_pos rfl]
      rcases ih with ⟨h1, h2⟩ | ⟨r, h1, h2, h3, h4, h5, h6⟩
      · rw [h1]
        by_cases c : 0 < q i
        · rw [if_pos (Or.inl c)]
          refine Or.inr ⟨i, by omega, by omega, rfl, hfi, c, fun s hs hm hf => ?_⟩
          by_cases cs : s = i
          · rw [cs]
            exact Or.inr ⟨rfl, Nat.le_refl _⟩
          · have := h2 s hs (by omega) hf
            exact Or.inl (by omega)
        · rw [if_neg (fun z => by rcases z with z | z; exact c z; exact c z.2.1)]
          refine Or.inl ⟨rfl, fun r hr hm hf => ?_⟩
          by_cases cr : r = i
          · rw [cr]
            omega
          · exact h2 r hr (by omega) hf
      · rw [h3]
        show isBs n sz f q (fun r => r < i + 1) (if q r < q i ∨ (q i = q r ∧ 0 < q i ∧ rk sz n i < rk sz n r) then (((i : Nat) : Int), q i) else (((r : Nat) : Int), q r))
        by_cases c : q r < q i ∨ (q i = q r ∧ 0 < q i ∧ rk sz n i < rk sz n r)
        · rw [if_pos c]
          refine Or.inr ⟨i, by omega, by omega, rfl, hfi, by omega, fun s hs hm hf => ?_⟩
          by_cases cs : s = i
          · rw [cs]
            exact Or.inr ⟨rfl, Nat.le_refl _⟩
          · have := h6 s hs (by omega) hf
            omega
        · rw [if_neg c]
          refine Or.inr ⟨r, h1, by omega, rfl, h4, h5, fun s hs hm hf => ?_⟩
          by_cases cs : s = i
          · rw [cs]
            omega
          · exact h6 s hs (by omega) hf
theorem hvr_bsM (hw : wf n sz) (hq : ∀ r, 0 ≤ q r) : hvr sz n f q (pr sz n) = bsM sz n f q (pr sz n) := by
  refine isBs_u (f := f) (q := q) (M := fun _ => True) hw ?_ ?_
  · rcases hvr_bs (f := f) hw hq (pr sz n) (Nat.le_refl _) with ⟨h1, h2⟩ | ⟨r, h1, h2, h3, h4, h5, h6⟩
    · exact Or.inl ⟨h1, fun r hr _ hf => h2 r hr (rk_lt hw r (Nat.le_refl n)) hf⟩
    · exact Or.inr ⟨r, h1, True.intro, h3, h4, h5, fun s hs _ hf => h6 s hs (rk_lt hw s (Nat.le_refl n)) hf⟩
  · rcases bsM_bs (n := n) (sz := sz) (f := f) hq (pr sz n) (Nat.le_refl _) with ⟨h1, h2⟩ | ⟨r, h1, h2, h3, h4, h5, h6⟩
    · exact Or.inl ⟨h1, fun r hr _ hf => h2 r hr hr hf⟩
    · exact Or.inr ⟨r, h1, True.intro, h3, h4, h5, fun s hs _ hf => h6 s hs hs hf⟩
theorem swt_c {p p' : Nat → Bool} : ∀ {i : Nat}, (∀ r, r < i → p r = p' r) → swt p q i = swt p' q i
  | 0, _ => rfl
  | i + 1, h => by
    show swt p q i + _ = swt p' q i + _
    rw [swt_c (fun r hr => h r (by omega)), h i (by omega)]
end PW
def qQ (res : Value) (C : ST → Prop) (S : ST) (r : Option Value) (S' : ST) : Prop := r = some res ∧ C S' ∧ frX S S'
section CW
variable {X : List Int32} {S : ST} {n fn Z : Nat} {sz ord : Nat → Nat} {wt : Nat → Int} {ro : Nat → Bool} {Fn : Nat → Nat → Bool} {nm : Nat → Int64} {sd : Option (Nat → Bool)} {tr tn : Int} {up lo : Int64}
theorem k_Runs {x : Int} (h : CI S n sz wt ro fn Fn nm ord sd tr tn up lo Z) (hx : rg x) : sM X 18 139 [.ref 0, .int (iI x)] S (qQ (.int (iI (rRuns fn (Fn x.toNat) x))) (fun S' => CI S' n sz wt ro fn Fn nm ord sd tr tn up lo Z) S) := by
  have hCI := h
  obtain ⟨hvC, hwC, ⟨wb, hgC⟩, ⟨hfn, hdr, h40, hF, hev, hnm, htb⟩, ⟨b, R, pl, D, U, rt, hR, hro, hsd, hz1, hz2⟩, t1, t2, t3, t4⟩ := h
  have hn := hvC.1.1
  have hT0 := hvC.1.2.2
  have x1 := hx.1
  have x2 := hx.2
  refine sIni (ls := [some (.ref 0), some (.int (iI x))]) rfl ?_
  refine sL (pc' := 1) (i := .aload_n 0) rfl rfl ?_
  refine sGc (p := 4) rfl rfl (sk_0 _) rfl rfl rfl ?_
  refine sL (pc' := 5) (i := .iload_n 1) rfl rfl ?_
  refine sCv (p := 8) (as := [_]) rfl rfl rfl rfl (by decide) (Nat.le_of_ble_eq_true rfl) rfl (Nat.le_of_ble_eq_true rfl) (sk_7 _) rfl (by omega) (c_fhas hfn h40 hx) ?_
  refine sBn (p := 11) rfl rfl (fun c1 => ?_) (fun c1 => ?_)
  · have c1 := c1
    have c1 := of_decide_eq_true c1
    obtain ⟨f0, rfl⟩ : ∃ f0 : Nat, x = (f0 : Int) := ⟨x.toNat, by omega⟩
    have hf0 : f0 < fn := by omega
    refine sL (pc' := 15) (i := .aload_n 0) rfl rfl ?_
    refine sGc (p := 18) rfl rfl (sk_0 _) rfl rfl rfl ?_
    refine sL (pc' := 19) (i := .iload_n 1) rfl rfl ?_
    refine sCv (p := 22) (as := [_]) rfl rfl rfl rfl (by decide) (Nat.le_of_ble_eq_true rfl) rfl (Nat.le_of_ble_eq_true rfl) (sk_7 _) rfl (by omega) (c_countRuns (by omega) (hF f0 hf0)) ?_
    refine sEn (i := .ireturn) rfl (rfl) ?_
    exact ⟨congrArg (fun z => some (Value.int (iI z))) (by unfold rRuns; rw [if_neg (by omega)]; rfl), hCI, frX_refl _⟩
  · have c1 := c1
    have c1 := of_decide_eq_false c1
    refine sKb (p := 13) rfl rfl ?_
    refine sEn (i := .ireturn) rfl (rfl) ?_
    exact ⟨congrArg (fun z => some (Value.int (iI z))) (by unfold rRuns; rw [if_pos (by omega)]), hCI, frX_refl _⟩
theorem k_Alike {x y : Int} (h : CI S n sz wt ro fn Fn nm ord sd tr tn up lo Z) (hx : rg x) (hy : rg y) : sM X 18 140 [.ref 0, .int (iI x), .int (iI y)] S (qQ (.int (iI (rAlike fn (Fn x.toNat) (Fn y.toNat) x y))) (fun S' => CI S' n sz wt ro fn Fn nm ord sd tr tn up lo Z) S) := by
  have hCI := h
  obtain ⟨hvC, hwC, ⟨wb, hgC⟩, ⟨hfn, hdr, h40, hF, hev, hnm, htb⟩, ⟨b, R, pl, D, U, rt, hR, hro, hsd, hz1, hz2⟩, t1, t2, t3, t4⟩ := h
  have hn := hvC.1.1
  have hT0 := hvC.1.2.2
  have x1 := hx.1
  have x2 := hx.2
  have y1 := hy.1
  have y2 := hy.2
  have hrt := hR.2.1
  have hUb := hR.1.1.2.2.2.2.2.2.2.1
  have hRb := hR.1.1.1.2.2.1
  have hPd := hR.1.1.2.1
  have hU2 := hR.1.1.2.2.2.2.2.2.2.2.1
  refine sIni (ls := [some (.ref 0), some (.int (iI x)), some (.int (iI y))]) rfl ?_
  refine sL (pc' := 1) (i := .aload_n 0) rfl rfl ?_
  refine sGc (p := 4) rfl rfl (sk_0 _) rfl rfl rfl ?_
  refine sL (pc' := 5) (i := .iload_n 1) rfl rfl ?_
  refine sCv (p := 8) (as := [_]) rfl rfl rfl rfl (by decide) (Nat.le_of_ble_eq_true rfl) rfl (Nat.le_of_ble_eq_true rfl) (sk_7 _) rfl (by omega) (c_fhas hfn h40 hx) ?_
  refine sBe (p := 11) rfl rfl (fun c1 => ?_) (fun c1 => ?_)
  · have c1 := c1
    have c1 := of_decide_eq_false c1
    refine sKb (p := 24) rfl rfl ?_
    refine sEn (i := .ireturn) rfl (rfl) ?_
    exact ⟨congrArg (fun z => some (Value.int (iI z))) (by unfold rAlike; rw [if_pos (by omega)]), hCI, frX_refl _⟩
  · have c1 := c1
    have c1 := of_decide_eq_true c1
    refine sL (pc' := 12) (i := .aload_n 0) rfl rfl ?_
    refine sGc (p := 15) rfl rfl (sk_0 _) rfl rfl rfl ?_
    refine sL (pc' := 16) (i := .iload_n 2) rfl rfl ?_
    refine sCv (p := 19) (as := [_]) rfl rfl rfl rfl (by decide) (Nat.le_of_ble_eq_true rfl) rfl (Nat.le_of_ble_eq_true rfl) (sk_7 _) rfl (by omega) (c_fhas hfn h40 hy) ?_
    refine sBn (p := 22) rfl rfl (fun c2 => ?_) (fun c2 => ?_)
    · have c2 := c2
      have c2 := of_decide_eq_true c2
      obtain ⟨f0, rfl⟩ : ∃ f0 : Nat, x = (f0 : Int) := ⟨x.toNat, by omega⟩
      obtain ⟨f1, rfl⟩ : ∃ f1 : Nat, y = (f1 : Int) := ⟨y.toNat, by omega⟩
      have hf0 : f0 < fn := by omega
      have hf1 : f1 < fn := by omega
      have hr0 := dok_lt hPd hU2 (hrt f0 hf0).1
      have hr1 := dok_lt hPd hU2 (hrt f1 hf1).1
      refine sL (pc' := 26) (i := .aload_n 0) rfl rfl ?_
      refine sGc (p := 29) rfl rfl (sk_0 _) rfl rfl rfl ?_
      refine sL (pc' := 30) (i := .iload_n 1) rfl rfl ?_
      refine sCv (p := 33) (as := [_]) rfl rfl rfl rfl (by decide) (Nat.le_of_ble_eq_true rfl) rfl (Nat.le_of_ble_eq_true rfl) (sk_7 _) rfl (by omega) (c_rootOf (rt := fun i => ((rt i : Nat) : Int)) hfn h40 hf0 (hro _ hf0)) ?_
      refine sL (pc' := 34) (i := .aload_n 0) rfl rfl ?_
      refine sGc (p := 37) rfl rfl (sk_0 _) rfl rfl rfl ?_
      refine sL (pc' := 38) (i := .iload_n 2) rfl rfl ?_
      refine sCv (p := 41) (as := [_]) rfl rfl rfl rfl (by decide) (Nat.le_of_ble_eq_true rfl) rfl (Nat.le_of_ble_eq_true rfl) (sk_7 _) rfl (by omega) (c_rootOf (rt := fun i => ((rt i : Nat) : Int)) hfn h40 hf1 (hro _ hf1)) ?_
      refine sIc_ne (p := 44) rfl rfl ⟨by omega, by omega⟩ ⟨by omega, by omega⟩ (fun c3 => ?_) (fun c3 => ?_)
      · have c3 := c3
        refine sKi (p := 49) rfl rfl ?_
        refine sEn (i := .ireturn) rfl (rfl) ?_
        have hne : eqW (Fn f0) (Fn f1) = false := by
          cases e : eqW (Fn f0) (Fn f1) with
          | false => rfl
          | true =>
            have h9 := (eqW_tb hT0 (htb f0 hf0) (htb f1 hf1)).mp e
            rw [← (hrt f0 hf0).2, ← (hrt f1 hf1).2] at h9
            have := hPd.2.2.2.2.2.2 _ _ (hrt f0 hf0).1 (hrt f1 hf1).1 h9
            omega
        exact ⟨congrArg (fun z => some (Value.int (iI z))) (by unfold rAlike; rw [if_neg (by omega), show allB (fun k => decide (pkw (Fn ((f0 : Nat) : Int).toNat) k = pkw (Fn ((f1 : Nat) : Int).toNat) k)) 16 = false from hne]; rfl), hCI, frX_refl _⟩
      · have c3 := c3
        refine sKi (p := 45) rfl rfl ?_
        refine sL (i := .goto 4) rfl rfl ?_
        refine sEn (i := .ireturn) rfl (rfl) ?_
        exact ⟨congrArg (fun z => some (Value.int (iI z))) (by unfold rAlike; rw [if_neg (by omega), show allB (fun k => decide (pkw (Fn ((f0 : Nat) : Int).toNat) k = pkw (Fn ((f1 : Nat) : Int).toNat) k)) 16 = true from (show eqW (Fn f0) (Fn f1) = true from by rw [← (hrt f0 hf0).2, ← (hrt f1 hf1).2, show rt f0 = rt f1 from by omega]; exact eqW_refl _)]; rfl), hCI, frX_refl _⟩
    · have c2 := c2
      have c2 := of_decide_eq_false c2
      refine sKb (p := 24) rfl rfl ?_
      refine sEn (i := .ireturn) rfl (rfl) ?_
      exact ⟨congrArg (fun z => some (Value.int (iI z))) (by unfold rAlike; rw [if_pos (by omega)]), hCI, frX_refl _⟩
theorem k_Dep {x y : Int} (h : CI S n sz wt ro fn Fn nm ord sd tr tn up lo Z) (hx : rg x) (hy : rg y) : sM X 18 141 [.ref 0, .int (iI x), .int (iI y)] S (qQ (.int (iI (rDep n fn sz (Fn x.toNat) x y))) (fun S' => CI S' n sz wt ro fn Fn nm ord sd tr tn up lo Z) S) := by
  have hCI := h
  obtain ⟨hvC, hwC, ⟨wb, hgC⟩, ⟨hfn, hdr, h40, hF, hev, hnm, htb⟩, ⟨b, R, pl, D, U, rt, hR, hro, hsd, hz1, hz2⟩, t1, t2, t3, t4⟩ := h
  have hn := hvC.1.1
  have hT0 := hvC.1.2.2
  have x1 := hx.1
  have x2 := hx.2
  have y1 := hy.1
  have y2 := hy.2
  refine sIni (ls := [some (.ref 0), some (.int (iI x)), some (.int (iI y))]) rfl ?_
  refine sL (pc' := 1) (i := .aload_n 0) rfl rfl ?_
  refine sGc (p := 4) rfl rfl (sk_0 _) rfl rfl rfl ?_
  refine sL (pc' := 5) (i := .iload_n 1) rfl rfl ?_
  refine sCv (p := 8) (as := [_]) rfl rfl rfl rfl (by decide) (Nat.le_of_ble_eq_true rfl) rfl (Nat.le_of_ble_eq_true rfl) (sk_7 _) rfl (by omega) (c_fhas hfn h40 hx) ?_
  refine sBe (p := 11) rfl rfl (fun c1 => ?_) (fun c1 => ?_)
  · have c1 := c1
    have c1 := of_decide_eq_false c1
    refine sKb (p := 24) rfl rfl ?_
    refine sEn (i := .ireturn) rfl (rfl) ?_
    exact ⟨congrArg (fun z => some (Value.int (iI z))) (by unfold rDep; rw [if_pos (by omega)]), hCI, frX_refl _⟩
  · have c1 := c1
    have c1 := of_decide_eq_true c1
    refine sL (pc' := 12) (i := .aload_n 0) rfl rfl ?_
    refine sGc (p := 15) rfl rfl (sk_0 _) rfl rfl rfl ?_
    refine sL (pc' := 16) (i := .iload_n 2) rfl rfl ?_
    refine sCv (p := 19) (as := [_]) rfl rfl rfl rfl (by decide) (Nat.le_of_ble_eq_true rfl) rfl (Nat.le_of_ble_eq_true rfl) (sk_1 _) rfl (by omega) (c_has hvC hy) ?_
    refine sBn (p := 22) rfl rfl (fun c2 => ?_) (fun c2 => ?_)
    · have c2 := c2
      have c2 := of_decide_eq_true c2
      obtain ⟨f0, rfl⟩ : ∃ f0 : Nat, x = (f0 : Int) := ⟨x.toNat, by omega⟩
      obtain ⟨v, rfl⟩ : ∃ v : Nat, y = (v : Int) := ⟨y.toNat, by omega⟩
      have hf0 : f0 < fn := by omega
      have hvv : v < n := by omega
      refine sL (pc' := 26) (i := .aload_n 0) rfl rfl ?_
      refine sGc (p := 29) rfl rfl (sk_0 _) rfl rfl rfl ?_
      refine sL (pc' := 30) (i := .iload_n 1) rfl rfl ?_
      refine sL (pc' := 31) (i := .iload_n 2) rfl rfl ?_
      refine sCv (p := 34) (as := [_, _]) rfl rfl rfl rfl (by decide) (Nat.le_of_ble_eq_true rfl) rfl (Nat.le_of_ble_eq_true rfl) (sk_7 _) rfl (by omega) (c_hangsOn hvC (by omega) (hF f0 hf0) hvv) ?_
      refine sBe (p := 37) rfl rfl (fun c3 => ?_) (fun c3 => ?_)
      · have c3 := c3
        have hd9 := c3
        refine sKi (p := 42) rfl rfl ?_
        refine sEn (i := .ireturn) rfl (rfl) ?_
        exact ⟨congrArg (fun z => some (Value.int (iI z))) (by unfold rDep; rw [if_neg (by omega), show anyB (dpB sz (Fn ((f0 : Nat) : Int).toNat) ((v : Nat) : Int).toNat) (pr sz n) = anyB (hgB sz (Fn f0) v) (pr sz n) from (hg_dp hvC.1 hvv).symm, hd9]; rfl), hCI, frX_refl _⟩
      · have c3 := c3
        have hd9 := c3
        refine sKi (p := 38) rfl rfl ?_
        refine sL (i := .goto 4) rfl rfl ?_
        refine sEn (i := .ireturn) rfl (rfl) ?_
        exact ⟨congrArg (fun z => some (Value.int (iI z))) (by unfold rDep; rw [if_neg (by omega), show anyB (dpB sz (Fn ((f0 : Nat) : Int).toNat) ((v : Nat) : Int).toNat) (pr sz n) = anyB (hgB sz (Fn f0) v) (pr sz n) from (hg_dp hvC.1 hvv).symm, hd9]; rfl), hCI, frX_refl _⟩
    · have c2 := c2
      have c2 := of_decide_eq_false c2
      refine sKb (p := 24) rfl rfl ?_
      refine sEn (i := .ireturn) rfl (rfl) ?_
      exact ⟨congrArg (fun z => some (Value.int (iI z))) (by unfold rDep; rw [if_pos (by omega)]), hCI, frX_refl _⟩
theorem k_Part {q : Bool} (h : CI S n sz wt ro fn Fn nm ord sd tr tn up lo Z) : sM X 18 150 [.ref 0, .int (iI (bI q))] S (qQ (.long (if q then lo else up)) (fun S' => CI S' n sz wt ro fn Fn nm ord sd tr tn up lo Z) S) := by
  have hCI := h
  obtain ⟨hvC, hwC, ⟨wb, hgC⟩, ⟨hfn, hdr, h40, hF, hev, hnm, htb⟩, ⟨b, R, pl, D, U, rt, hR, hro, hsd, hz1, hz2⟩, t1, t2, t3, t4⟩ := h
  have hn := hvC.1.1
  have hT0 := hvC.1.2.2
  refine sIni (ls := [some (.ref 0), some (.int (iI (bI q)))]) rfl ?_
  refine sL (pc' := 1) (i := .iload_n 1) rfl rfl ?_
  refine sBe (p := 4) rfl rfl (fun c1 => ?_) (fun c1 => ?_)
  · have c1 := c1
    rw [c1]
    refine sL (pc' := 12) (i := .aload_n 0) rfl rfl ?_
    refine sGl (p := 15) rfl rfl (sk_0 _) rfl rfl rfl t3 ?_
    refine sEn (i := .lreturn) rfl (rfl) ?_
    exact ⟨rfl, hCI, frX_refl _⟩
  · have c1 := c1
    rw [c1]
    refine sL (pc' := 5) (i := .aload_n 0) rfl rfl ?_
    refine sGl (p := 8) rfl rfl (sk_0 _) rfl rfl rfl t4 ?_
    refine sL (i := .goto 7) rfl rfl ?_
    refine sEn (i := .lreturn) rfl (rfl) ?_
    exact ⟨rfl, hCI, frX_refl _⟩
theorem k_Ways {x : Int} (h : CI S n sz wt ro fn Fn nm ord sd tr tn up lo Z) (hx : rg x) : sM X 18 143 [.ref 0, .int (iI x)] S (qQ (.int (iI (if ¬ (0 ≤ x ∧ x < fn) then -101 else ((wys n sz ord 10 (Fn x.toNat) : Nat) : Int)))) (fun S' => CI S' n sz wt ro fn Fn nm ord sd tr tn up lo Z) S) := by
  have hCI := h
  obtain ⟨hvC, hwC, ⟨wb, hgC⟩, ⟨hfn, hdr, h40, hF, hev, hnm, htb⟩, ⟨b, R, pl, D, U, rt, hR, hro, hsd, hz1, hz2⟩, t1, t2, t3, t4⟩ := h
  have hn := hvC.1.1
  have hT0 := hvC.1.2.2
  have x1 := hx.1
  have x2 := hx.2
  have hrt := hR.2.1
  have hRd := hR.1
  refine sIni (ls := [some (.ref 0), some (.int (iI x))]) rfl ?_
  refine sL (pc' := 1) (i := .aload_n 0) rfl rfl ?_
  refine sGc (p := 4) rfl rfl (sk_0 _) rfl rfl rfl ?_
  refine sL (pc' := 5) (i := .iload_n 1) rfl rfl ?_
  refine sCv (p := 8) (as := [_]) rfl rfl rfl rfl (by decide) (Nat.le_of_ble_eq_true rfl) rfl (Nat.le_of_ble_eq_true rfl) (sk_7 _) rfl (by omega) (c_fhas hfn h40 hx) ?_
  refine sBn (p := 11) rfl rfl (fun c1 => ?_) (fun c1 => ?_)
  · have c1 := c1
    have c1 := of_decide_eq_true c1
    obtain ⟨f0, rfl⟩ : ∃ f0 : Nat, x = (f0 : Int) := ⟨x.toNat, by omega⟩
    have hf0 : f0 < fn := by omega
    refine sL (pc' := 15) (i := .aload_n 0) rfl rfl ?_
    refine sGc (p := 18) rfl rfl (sk_0 _) rfl rfl rfl ?_
    refine sL (pc' := 19) (i := .aload_n 0) rfl rfl ?_
    refine sGc (p := 22) rfl rfl (sk_0 _) rfl rfl rfl ?_
    refine sL (pc' := 23) (i := .iload_n 1) rfl rfl ?_
    refine sCv (p := 26) (as := [_]) rfl rfl rfl rfl (by decide) (Nat.le_of_ble_eq_true rfl) rfl (Nat.le_of_ble_eq_true rfl) (sk_7 _) rfl (by omega) (c_rootOf (rt := fun i => ((rt i : Nat) : Int)) hfn h40 hf0 (hro _ hf0)) ?_
    refine sKi (p := 27) rfl rfl ?_
    refine sCv (p := 30) (as := [_, _]) rfl rfl rfl rfl (by decide) (Nat.le_of_ble_eq_true rfl) rfl (Nat.le_of_ble_eq_true rfl) (sk_52 _) rfl (by omega) ((c_waysFrom hvC hRd.1 hRd.2.1 hRd.2.2.2.2 10 (d := 0) (by omega) (hrt f0 hf0).1 (fun _ => Nat.zero_le _))) ?_
    refine sEn (i := .ireturn) rfl (rfl) ?_
    exact ⟨congrArg (fun z => some (Value.int (iI z))) (by rw [if_neg (by omega), (hrt f0 hf0).2]; rfl), hCI, frX_refl _⟩
  · have c1 := c1
    have c1 := of_decide_eq_false c1
    refine sKb (p := 13) rfl rfl ?_
    refine sEn (i := .ireturn) rfl (rfl) ?_
    exact ⟨congrArg (fun z => some (Value.int (iI z))) (by rw [if_pos (by omega)]), hCI, frX_refl _⟩
theorem k_Place {x : Int} (h : CI S n sz wt ro fn Fn nm ord sd tr tn up lo Z) (hx : rg x) : sM X 18 157 [.ref 0, .int (iI x)] S (qQ (.int (iI (if ¬ (0 ≤ x ∧ x < n) then -101 else ((plc n ord x.toNat : Nat) : Int)))) (fun S' => CI S' n sz wt ro fn Fn nm ord sd tr tn up lo Z) S) := by
  have hCI := h
  obtain ⟨hvC, hwC, ⟨wb, hgC⟩, ⟨hfn, hdr, h40, hF, hev, hnm, htb⟩, ⟨b, R, pl, D, U, rt, hR, hro, hsd, hz1, hz2⟩, t1, t2, t3, t4⟩ := h
  have hn := hvC.1.1
  have hT0 := hvC.1.2.2
  have x1 := hx.1
  have x2 := hx.2
  refine sIni (ls := [some (.ref 0), some (.int (iI x))]) rfl ?_
  refine sL (pc' := 1) (i := .aload_n 0) rfl rfl ?_
  refine sGc (p := 4) rfl rfl (sk_0 _) rfl rfl rfl ?_
  refine sL (pc' := 5) (i := .iload_n 1) rfl rfl ?_
  refine sCv (p := 8) (as := [_]) rfl rfl rfl rfl (by decide) (Nat.le_of_ble_eq_true rfl) rfl (Nat.le_of_ble_eq_true rfl) (sk_1 _) rfl (by omega) (c_has hvC hx) ?_
  refine sBn (p := 11) rfl rfl (fun c1 => ?_) (fun c1 => ?_)
  · have c1 := c1
    have c1 := of_decide_eq_true c1
    obtain ⟨v, rfl⟩ : ∃ v : Nat, x = (v : Int) := ⟨x.toNat, by omega⟩
    have hvv : v < n := by omega
    refine sL (pc' := 15) (i := .aload_n 0) rfl rfl ?_
    refine sGc (p := 18) rfl rfl (sk_0 _) rfl rfl rfl ?_
    refine sL (pc' := 19) (i := .iload_n 1) rfl rfl ?_
    refine sCv (p := 22) (as := [_]) rfl rfl rfl rfl (by decide) (Nat.le_of_ble_eq_true rfl) rfl (Nat.le_of_ble_eq_true rfl) (sk_52 _) rfl (by omega) (c_placeOf (z := ((pl v : Nat) : Int)) (by omega) (hR.1.2.2.2.1.2 v hvv)) ?_
    refine sEn (i := .ireturn) rfl (rfl) ?_
    exact ⟨congrArg (fun z => some (Value.int (iI z))) (by rw [if_neg (by omega), show plc n ord ((v : Nat) : Int).toNat = pl v from plc_eq hR.1.2.2.2.2 hvv]), hCI, frX_refl _⟩
  · have c1 := c1
    have c1 := of_decide_eq_false c1
    refine sKb (p := 13) rfl rfl ?_
    refine sEn (i := .ireturn) rfl (rfl) ?_
    exact ⟨congrArg (fun z => some (Value.int (iI z))) (by rw [if_pos (by omega)]), hCI, frX_refl _⟩
end CW
