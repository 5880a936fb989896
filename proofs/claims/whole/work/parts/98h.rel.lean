/-! ===== the diagram: nodes released, taken out, put in ===== -/
def exS (ex : Nat → Nat) (y : Nat) : Nat → Nat := fun z => ex z - if z = y then 1 else 0
def uK (S : ST) (b : Nat) (w : Nat → Nat) (i : Nat) : ST := wIA S (b + 1) (fun z => SI S (b + 1) z - ((cntB (fun k => decide (w k = z)) i : Nat) : Int))
theorem uK_1 {S : ST} {b i : Nat} {w : Nat → Nat} (z : Nat) : SI (uK S b w i) (b + 1) z = SI S (b + 1) z - ((cntB (fun k => decide (w k = z)) i : Nat) : Int) := rA_at
theorem uK_ne {S : ST} {b i c : Nat} {w : Nat → Nat} (h : c ≠ b + 1) (j : Nat) : SI (uK S b w i) c j = SI S c j := rA_ne h j
theorem uK_0 (S : ST) (b : Nat) (w : Nat → Nat) : uK S b w 0 = S := SI_ext rfl (fun c j => by
  by_cases c1 : c = b + 1
  · subst c1
    rw [uK_1]
    show _ - ((0 : Nat) : Int) = _
    omega
  · exact uK_ne c1 j) rfl rfl
theorem uK_s {S : ST} {b i : Nat} {w : Nat → Nat} : wI (uK S b w i) (b + 1) (w i) (SI (uK S b w i) (b + 1) (w i) - 1) = uK S b w (i + 1) := SI_ext rfl (fun c j => by
  by_cases c1 : c = b + 1
  · subst c1
    rw [uK_1 (i := i + 1)]
    have hcs : cntB (fun k => decide (w k = j)) (i + 1) = cntB (fun k => decide (w k = j)) i + (if decide (w i = j) then 1 else 0) := rfl
    by_cases cj : j = w i
    · subst cj
      rw [rI_at, uK_1, hcs, if_pos (decide_eq_true rfl)]
      omega
    · rw [rI_nj cj, uK_1, hcs, if_neg (fun z => cj (of_decide_eq_true z).symm)]
      omega
  · rw [rI_ne c1, uK_ne c1, uK_ne c1]) rfl rfl
theorem ulk_ne {S : ST} {b c e j : Nat} {q : CQ} (h1 : e ≠ 55) (h2 : e ≠ b + 2) (i : Nat) : SI (ulk S b c q j) e i = SI S e i := by
  unfold ulk
  by_cases c0 : j = 0
  · rw [if_pos c0, rI_ne h1]
  · rw [if_neg c0, rI_ne h2]
theorem ulk_2 {S : ST} {b c j : Nat} {q : CQ} {x : Nat} (hb : b + 2 ≠ 55) (hx : ∀ i, i < q.1 → x ≠ q.2 i) (hj : j < q.1) : SI (ulk S b c q j) (b + 2) x = SI S (b + 2) x := by
  unfold ulk
  by_cases c0 : j = 0
  · rw [if_pos c0, rI_ne hb]
  · rw [if_neg c0, rI_nj (hx (j - 1) (by omega))]
theorem ulk_fr {S : ST} {b c j : Nat} {q : CQ} : frO b S (ulk S b c q j) := by
  unfold ulk
  by_cases c0 : j = 0
  · rw [if_pos c0]
    exact frO_wI (Or.inr (Or.inl rfl))
  · rw [if_neg c0]
    exact frO_wI (Or.inr (Or.inr (Or.inr (Or.inr (Or.inl rfl)))))
theorem dC_cg {S S' : ST} {b n : Nat} {sz : Nat → Nat} {D : DT} {ch : Nat → CQ} (h55 : SI S' 55 = SI S 55) (h2 : ∀ x, dl D x = true → SI S' (b + 2) x = SI S (b + 2) x) (h : dC S b n sz D ch) : dC S' b n sz D ch := by
  refine ⟨fun c hc => ⟨lk_cg (h.1 c hc).1 (by rw [h55]) (fun i hi => h2 _ (((h.1 c hc).2 _).mp ⟨i, hi, rfl⟩).1), (h.1 c hc).2⟩, fun c h3 h4 => ?_⟩
  rw [h55]
  exact h.2 c h3 h4
def rlS (S : ST) (b y c : Nat) (q : CQ) (j : Nat) (w : Nat → Nat) (s : Nat) (fz L : Int) : ST := wI (wI (wI (uK (ulk (wI S (b + 1) y (SI S (b + 1) y - 1)) b c q j) b w s) (b + 2) y fz) 52 14 ((y : Nat) : Int)) 52 12 (L - 1)
section DR
variable {X : List Int32} {S : ST} {b R n U out : Nat} {sz : Nat → Nat} {D : DT} {ex : Nat → Nat} {ch : Nat → CQ} {fr : CQ} {y : Nat}
theorem c_release_0 (hA : dA S b R) (hy : y < R) (h : y < 2 ∨ 1 < SI S (b + 1) y) (hu : 2 ≤ y → rg (SI S (b + 1) y - 1)) : sM X 2 46 [.ref 52, .int (iI ((y : Nat) : Int))] S (sV none (wI S (b + 1) y (SI S (b + 1) y - 1))) := by
  have hb58 := hA.1
  have hR1 := hA.2.1
  have hR2 := hA.2.2.1
  refine sIni (ls := [some (.ref 52), some (.int (iI ((y : Nat) : Int))), none, none]) rfl ?_
  refine sL (pc' := 1) (i := .aload_n 0) rfl rfl ?_
  refine sGr (p := 4) rfl rfl (sk_52 _) rfl rfl rfl hA.2.2.2.2.1 ?_
  refine sL (pc' := 5) (i := .iload_n 1) rfl rfl ?_
  refine sL (pc' := 6) (i := .dup2) rfl rfl ?_
  refine sAi (p := 7) (i := y) rfl rfl hA.2.2.2.2.2.2.2.2.2.2.1 (by omega) ⟨by omega, by omega⟩ rfl ?_
  refine sKi (p := 8) rfl rfl ?_
  refine sSb (p := 9) rfl rfl ?_
  refine sWi (p := 10) (i := y) rfl rfl hA.2.2.2.2.2.2.2.2.2.2.1 (by omega) ⟨by omega, by omega⟩ ?_
  refine sL (pc' := 11) (i := .iload_n 1) rfl rfl ?_
  refine sKi (p := 12) rfl rfl ?_
  refine sIc_le (p := 15) rfl rfl ⟨by omega, by omega⟩ ⟨by omega, by omega⟩ (fun c1 => ?_) (fun c1 => ?_)
  · have c1 := c1
    refine sEn (i := .return_) rfl (rfl) ?_
    exact ⟨rfl, rfl⟩
  · have c1 := c1
    refine sL (pc' := 16) (i := .aload_n 0) rfl rfl ?_
    refine sGr (p := 19) rfl rfl (sk_52 _) rfl rfl rfl hA.2.2.2.2.1 ?_
    refine sL (pc' := 20) (i := .iload_n 1) rfl rfl ?_
    refine sAi (p := 21) (i := y) rfl rfl hA.2.2.2.2.2.2.2.2.2.2.1 (by omega) ⟨by omega, by omega⟩ rI_at ?_
    refine sIf_le (p := 24) rfl rfl (hu (by omega)) (fun c2 => ?_) (fun c2 => ?_)
    · exfalso; omega
    · have c2 := c2
      refine sEn (i := .return_) rfl (rfl) ?_
      exact ⟨rfl, rfl⟩
theorem vC_1 {i : Nat} {z : Int} (hb : b = 58 ∨ 203 ≤ b) (h : vC S n sz) : vC (wI S (b + 1) i z) n sz := by
  obtain ⟨h1, h2, h3, h4, h5⟩ := h
  exact ⟨h1, (rI_ne (by omega) _).trans h2, (rI_ne (by omega) _).trans h3, fun k hk => (rI_ne (by omega) _).trans (h4 k hk), fun k hk => (rI_ne (by omega) _).trans (h5 k hk)⟩
theorem c_release_1 {v c j : Nat} {w : Nat → Nat} {q : CQ} (hvC : vC S n sz) (hA : dA S b R) (hy : y < R) (hy2 : 2 ≤ y) (h : SI S (b + 1) y = 1) (hv : v < n) (hvy : SI S b y = ((v : Nat) : Int)) (hk : ∀ k, k < sz v → SI S (b + 5) (y * 6 + k) = ((w k : Nat) : Int)) (hkR : ∀ k, k < sz v → w k < R) (hc : c = v * 64 + hcI (hsI (fun k => ((w k : Nat) : Int)) (sz v))) (hlk : lk (SI S (b + 2)) (SI S 55 c) q) (hqb : ∀ i, i < q.1 → 2 ≤ q.2 i ∧ q.2 i < R) (hq1 : q.1 ≤ 131072) (hj : j < q.1) (hx : q.2 j = y) {fz L : Int} (hfz : SI S 52 14 = fz) (hL : SI S 52 12 = L) : sM X 2 46 [.ref 52, .int (iI ((y : Nat) : Int))] S (sV none (rlS S b y c q j w (sz v) fz L)) := by
  have hb58 := hA.1
  have hR1 := hA.2.1
  have hR2 := hA.2.2.1
  have hwf := hvC.1
  have hsv := hwf.2.1 v hv
  have hn10 := hwf.1
  refine sIni (ls := [some (.ref 52), some (.int (iI ((y : Nat) : Int))), none, none]) rfl ?_
  refine sL (pc' := 1) (i := .aload_n 0) rfl rfl ?_
  refine sGr (p := 4) rfl rfl (sk_52 _) rfl rfl rfl hA.2.2.2.2.1 ?_
  refine sL (pc' := 5) (i := .iload_n 1) rfl rfl ?_
  refine sL (pc' := 6) (i := .dup2) rfl rfl ?_
  refine sAi (p := 7) (i := y) rfl rfl hA.2.2.2.2.2.2.2.2.2.2.1 (by omega) ⟨by omega, by omega⟩ rfl ?_
  refine sKi (p := 8) rfl rfl ?_
  refine sSb (p := 9) rfl rfl ?_
  refine sWi (p := 10) (i := y) rfl rfl hA.2.2.2.2.2.2.2.2.2.2.1 (by omega) ⟨by omega, by omega⟩ ?_
  refine sL (pc' := 11) (i := .iload_n 1) rfl rfl ?_
  refine sKi (p := 12) rfl rfl ?_
  refine sIc_le (p := 15) rfl rfl ⟨by omega, by omega⟩ ⟨by omega, by omega⟩ (fun c1 => ?_) (fun c1 => ?_)
  · exfalso; omega
  · have c1 := c1
    refine sL (pc' := 16) (i := .aload_n 0) rfl rfl ?_
    refine sGr (p := 19) rfl rfl (sk_52 _) rfl rfl rfl hA.2.2.2.2.1 ?_
    refine sL (pc' := 20) (i := .iload_n 1) rfl rfl ?_
    refine sAi (p := 21) (i := y) rfl rfl hA.2.2.2.2.2.2.2.2.2.2.1 (by omega) ⟨by omega, by omega⟩ rI_at ?_
    refine sIf_le (p := 24) rfl rfl ⟨by omega, by omega⟩ (fun c2 => ?_) (fun c2 => ?_)
    · have c2 := c2
      refine sL (pc' := 26) (i := .aload_n 0) rfl rfl ?_
      refine sGc (p := 29) rfl rfl (sk_52 _) rfl rfl rfl ?_
      refine sL (pc' := 30) (i := .aload_n 0) rfl rfl ?_
      refine sGr (p := 33) rfl rfl (sk_52 _) rfl rfl rfl hA.2.2.2.1 ?_
      refine sL (pc' := 34) (i := .iload_n 1) rfl rfl ?_
      refine sAi (p := 35) (i := y) rfl rfl hA.2.2.2.2.2.2.2.2.2.1 (by omega) ⟨by omega, by omega⟩ ((rI_ne (by omega) _).trans hvy) ?_
      refine sCv (p := 38) (as := [_]) rfl rfl rfl rfl (by decide) (Nat.le_of_ble_eq_true rfl) rfl (Nat.le_of_ble_eq_true rfl) (sk_1 _) rfl (by omega) (c_siz (S := (wI S (b + 1) y ((SI S (b + 1) y) - 1))) (vC_1 (by omega) hvC) hv) ?_
      refine sL (pc' := 39) (i := .istore_n 2) (ls' := [some (.ref 52), some (.int (iI ((y : Nat) : Int))), some (.int (iI ((sz v : Nat) : Int))), none]) rfl rfl ?_
      refine sL (pc' := 40) (i := .aload_n 0) rfl rfl ?_
      refine sL (pc' := 41) (i := .iload_n 1) rfl rfl ?_
      refine sL (pc' := 42) (i := .aload_n 0) rfl rfl ?_
      refine sGr (p := 45) rfl rfl (sk_52 _) rfl rfl rfl hA.2.2.2.1 ?_
      refine sL (pc' := 46) (i := .iload_n 1) rfl rfl ?_
      refine sAi (p := 47) (i := y) rfl rfl hA.2.2.2.2.2.2.2.2.2.1 (by omega) ⟨by omega, by omega⟩ ((rI_ne (by omega) _).trans hvy) ?_
      refine sL (pc' := 48) (i := .iload_n 2) rfl rfl ?_
      refine sCv (p := 51) (as := [_, _, _]) rfl rfl rfl rfl (by decide) (Nat.le_of_ble_eq_true rfl) rfl (Nat.le_of_ble_eq_true rfl) (sk_52 _) rfl (by omega) (c_unlink (q := q) (j := j) (dA_cg (S := S) rfl rfl hA) (by omega) (by omega) (fun k hkk => (rI_ne (by omega) _).trans (hk k hkk)) (lk_cg (by rw [← hc]; exact hlk) (rI_ne (by omega) _) (fun i hi => rI_ne (by omega) _)) hqb hq1 hj hx) ?_
      rw [← hc]
      have hA : dA (ulk (wI S (b + 1) y (SI S (b + 1) y - 1)) b c q j) b R := dA_cg (S := S) (ulk_fr (b := b)).1 (ulk_fr (b := b)).2.1 hA
      refine sKi (p := 52) rfl rfl ?_
      refine sL (pc' := 53) (i := .istore_n 3) (ls' := [some (.ref 52), some (.int (iI ((y : Nat) : Int))), some (.int (iI ((sz v : Nat) : Int))), some (.int (iI 0))]) rfl rfl ?_
      refine sSh (T := uK (ulk (wI S (b + 1) y (SI S (b + 1) y - 1)) b c q j) b w 0) (congrArg sH (uK_0 _ _ _).symm) ?_
      refine sIt (A := fun i => [some (.ref 52), some (.int (iI ((y : Nat) : Int))), some (.int (iI ((sz v : Nat) : Int))), some (.int (iI ((i : Nat) : Int)))]) (B := fun i => uK (ulk (wI S (b + 1) y (SI S (b + 1) y - 1)) b c q j) b w i) (fun _ => True) (sz v) True.intro (fun i hi53 hI53 ih53 => ?_) (fun hI53 => ?_)
      · have hi53 := hi53
        have hwi := hkR i hi53
        refine sL (pc' := 54) (i := .iload_n 3) rfl rfl ?_
        refine sL (pc' := 55) (i := .iload_n 2) rfl rfl ?_
        refine sIc_ge (p := 58) rfl rfl ⟨by omega, by omega⟩ ⟨by omega, by omega⟩ (fun c3 => ?_) (fun c3 => ?_)
        · exfalso; omega
        · have c3 := c3
          refine sL (pc' := 59) (i := .aload_n 0) rfl rfl ?_
          refine sGr (p := 62) rfl rfl (sk_52 _) rfl rfl rfl hA.2.2.2.2.1 ?_
          refine sL (pc' := 63) (i := .aload_n 0) rfl rfl ?_
          refine sGr (p := 66) rfl rfl (sk_52 _) rfl rfl rfl hA.2.2.2.2.2.2.2.2.1 ?_
          refine sL (pc' := 67) (i := .iload_n 1) rfl rfl ?_
          refine sKb (p := 69) rfl rfl ?_
          refine sMu (p := 70) rfl rfl ?_
          refine sL (pc' := 71) (i := .iload_n 3) rfl rfl ?_
          refine sAd (p := 72) rfl rfl ?_
          refine sAi (p := 73) (i := (y * 6) + i) rfl rfl hA.2.2.2.2.2.2.2.2.2.2.2.2.2.2 (by omega) ⟨by omega, by omega⟩ ((uK_ne (by omega) _).trans ((ulk_ne (by omega) (by omega) _).trans ((rI_ne (by omega) _).trans (hk i (by omega))))) ?_
          refine sL (pc' := 74) (i := .dup2) rfl rfl ?_
          refine sAi (p := 75) (i := w i) rfl rfl hA.2.2.2.2.2.2.2.2.2.2.1 (by omega) ⟨by omega, by omega⟩ rfl ?_
          refine sKi (p := 76) rfl rfl ?_
          refine sSb (p := 77) rfl rfl ?_
          refine sWi (p := 78) (i := w i) rfl rfl hA.2.2.2.2.2.2.2.2.2.2.1 (by omega) ⟨by omega, by omega⟩ ?_
          refine sInX (z := ((i : Nat) : Int)) (ls' := [some (.ref 52), some (.int (iI ((y : Nat) : Int))), some (.int (iI ((sz v : Nat) : Int))), some (.int (iI (((i : Nat) : Int) + 1)))]) (p := 81) rfl rfl (Nat.le_of_ble_eq_true rfl) rfl rfl ?_
          refine sL (i := .goto (-28)) rfl rfl ?_
          refine sRo (ls := [some (.ref 52), some (.int (iI ((y : Nat) : Int))), some (.int (iI ((sz v : Nat) : Int))), some (.int (iI ((i + 1 : Nat) : Int)))]) (T := uK (ulk (wI S (b + 1) y (SI S (b + 1) y - 1)) b c q j) b w (i + 1)) (And.intro rfl (And.intro rfl (And.intro rfl (And.intro rfl (True.intro))))) (congrArg sH uK_s) (ih53 ?_)
          exact True.intro
      · have hI53 := hI53
        refine sL (pc' := 54) (i := .iload_n 3) rfl rfl ?_
        refine sL (pc' := 55) (i := .iload_n 2) rfl rfl ?_
        refine sIc_ge (p := 58) rfl rfl ⟨by omega, by omega⟩ ⟨by omega, by omega⟩ (fun c4 => ?_) (fun c4 => ?_)
        · have c4 := c4
          refine sL (pc' := 85) (i := .aload_n 0) rfl rfl ?_
          refine sGr (p := 88) rfl rfl (sk_52 _) rfl rfl rfl hA.2.2.2.2.2.1 ?_
          refine sL (pc' := 89) (i := .iload_n 1) rfl rfl ?_
          refine sL (pc' := 90) (i := .aload_n 0) rfl rfl ?_
          refine sGi (p := 93) rfl rfl (sk_52 _) rfl rfl rfl ((uK_ne (by omega) _).trans ((ulk_ne (by omega) (by omega) _).trans ((rI_ne (by omega) _).trans hfz))) ?_
          refine sWi (p := 94) (i := y) rfl rfl hA.2.2.2.2.2.2.2.2.2.2.2.1 (by omega) ⟨by omega, by omega⟩ ?_
          refine sL (pc' := 95) (i := .aload_n 0) rfl rfl ?_
          refine sL (pc' := 96) (i := .iload_n 1) rfl rfl ?_
          refine sPi (z := ((y : Nat) : Int)) (p := 99) rfl rfl (sk_52 _) rfl rfl rfl rfl ?_
          refine sL (pc' := 100) (i := .aload_n 0) rfl rfl ?_
          refine sL (pc' := 101) (i := .dup) rfl rfl ?_
          refine sGi (p := 104) rfl rfl (sk_52 _) rfl rfl rfl ((rI_nj (by decide)).trans ((rI_ne (by omega) _).trans ((uK_ne (by omega) _).trans ((ulk_ne (by omega) (by omega) _).trans ((rI_ne (by omega) _).trans hL))))) ?_
          refine sKi (p := 105) rfl rfl ?_
          refine sSb (p := 106) rfl rfl ?_
          refine sPi (z := (L - 1)) (p := 109) rfl rfl (sk_52 _) rfl rfl rfl rfl ?_
          refine sEn (i := .return_) rfl (rfl) ?_
          exact ⟨rfl, rfl⟩
        · exfalso; omega
    · exfalso; omega
theorem exS_y : exS ex y y = ex y - 1 := by
  unfold exS
  rw [if_pos rfl]
theorem exS_n {x : Nat} (h : x ≠ y) : exS ex y x = ex x := by
  unfold exS
  rw [if_neg h]
  rfl
theorem dG_dec (hy : y < 2 ∨ 0 < ex y) (h : dG S b R n sz D ex out U) : dG (wI S (b + 1) y (SI S (b + 1) y - 1)) b R n sz D (exS ex y) out U := by
  have hb := h.1.1
  refine dG_ex (S := S) rfl rfl (u2_ne (by omega)) (u2_ne (by omega)) (u2_ne (by omega)) (u2_ne (by omega)) (u2_ne (by omega)) (u2_ne (by omega)) (fun x h2 hx => ?_) (fun x hx => ?_) h
  · by_cases c : x = y
    · rw [c, rI_at, exS_y]
      omega
    · rw [rI_nj c, exS_n c]
      omega
  · unfold exS at hx
    exact h.2.2.1.2.2.2.2.2 x (by omega)
/-- a node without users goes -/
theorem dG_rem (hwf : wf n sz) (hA : dA S b R) (hP : dP n sz D out U) (hM : dM S b sz D ex out U) (hC : dC S b n sz D ch) (hF : dF S b D out U fr) (hL : SI S 52 12 = ((cntB (dl D) U + o1 out : Nat) : Int)) (hU : SI S 52 13 = (U : Nat)) (hUR : U ≤ R) (hU2 : 2 ≤ U) (hz : ∀ x, x < R → SI S (b + 3) x = 0) (hd : dl D y = true) (hex : ex y = 1) (he0 : edg sz D U y = 0) {j : Nat} (hj : j < (ch (dch sz D y)).1) (hjy : (ch (dch sz D y)).2 j = y) : dG (rlS S b y (dch sz D y) (ch (dch sz D y)) j (dk D y) (sz (dv D y)) (SI S 52 14) ((cntB (dl D) U + o1 out : Nat) : Int)) b R n sz (delD D y) (exS ex y) out U := by
  have hb58 := hA.1
  have hyU := hP.1 y hd
  have hcl := dch_lt hP hd
  have hn10 := hwf.1
  have hqm : ∀ i, i < (ch (dch sz D y)).1 → dl D ((ch (dch sz D y)).2 i) = true := fun i hi => (((hC.1 _ hcl).2 _).mp ⟨i, hi, rfl⟩).1
  have hne : ∀ x k, dl D x = true → k < sz (dv D x) → dk D x k ≠ y := fun x k hx hk => edg_0 he0 (hP.1 x hx).2.1 hx hk
  have hokd : ∀ x, dok D out x → x ≠ y → dok (delD D y) out x := fun x hx hxy => by
    rcases hx with h | h | h
    · exact Or.inl h
    · exact Or.inr (Or.inl (delD_i.mpr ⟨h, hxy⟩))
    · exact Or.inr (Or.inr h)
  have hokb : ∀ x, dok (delD D y) out x → dok D out x := fun x hx => by
    rcases hx with h | h | h
    · exact Or.inl h
    · exact Or.inr (Or.inl (delD_i.mp h).1)
    · exact Or.inr (Or.inr h)
  have r_1 : ∀ x, x ≠ y → SI (rlS S b y (dch sz D y) (ch (dch sz D y)) j (dk D y) (sz (dv D y)) (SI S 52 14) ((cntB (dl D) U + o1 out : Nat) : Int)) (b + 1) x = SI S (b + 1) x - ((cntB (fun k => decide (dk D y k = x)) (sz (dv D y)) : Nat) : Int) := fun x hx => by
    unfold rlS
    rw [rI_ne (by omega), rI_ne (by omega), rI_ne (by omega), uK_1, ulk_ne (by omega) (by omega), rI_nj hx]
  have r_c : ∀ c i, c ≠ b + 1 → c ≠ b + 2 → c ≠ 52 → c ≠ 55 → SI (rlS S b y (dch sz D y) (ch (dch sz D y)) j (dk D y) (sz (dv D y)) (SI S 52 14) ((cntB (dl D) U + o1 out : Nat) : Int)) c i = SI S c i := fun c i h1 h2 h3 h4 => by
    unfold rlS
    rw [rI_ne h3, rI_ne h3, rI_ne h2, uK_ne h1, ulk_ne h4 h2, rI_ne h1]
  have r_u : ∀ c i, c ≠ b + 1 → SI (uK (ulk (wI S (b + 1) y (SI S (b + 1) y - 1)) b (dch sz D y) (ch (dch sz D y)) j) b (dk D y) (sz (dv D y))) c i = SI (ulk S b (dch sz D y) (ch (dch sz D y)) j) c i := fun c i h1 => by
    rw [uK_ne h1]
    unfold ulk
    by_cases c0 : j = 0
    · rw [if_pos c0, if_pos c0, SI_wI (wI S (b + 1) y (SI S (b + 1) y - 1)) 55, SI_wI S 55, rI_ne h1]
    · rw [if_neg c0, if_neg c0, SI_wI (wI S (b + 1) y (SI S (b + 1) y - 1)) (b + 2), SI_wI S (b + 2), rI_ne h1]
  have r_2 : ∀ x, x ≠ y → SI (rlS S b y (dch sz D y) (ch (dch sz D y)) j (dk D y) (sz (dv D y)) (SI S 52 14) ((cntB (dl D) U + o1 out : Nat) : Int)) (b + 2) x = SI (ulk S b (dch sz D y) (ch (dch sz D y)) j) (b + 2) x := fun x hx => by
    unfold rlS
    rw [rI_ne (by omega), rI_ne (by omega), rI_nj hx, r_u _ _ (by omega)]
  refine ⟨dA_cg ?_ ?_ hA, ?_, ?_, ⟨fun e => if e = dch sz D y then delQ (ch e) j else ch e, ?_⟩, ⟨addQ fr y, ?_, fun x => ?_⟩, ?_, ?_, hUR, hU2, fun x hx => ?_⟩
  · unfold rlS ulk uK
    by_cases c0 : j = 0
    · rw [if_pos c0]
      rfl
    · rw [if_neg c0]
      rfl
  · unfold rlS ulk uK
    by_cases c0 : j = 0
    · rw [if_pos c0]
      rfl
    · rw [if_neg c0]
      rfl
  · exact dP_del hP hd hokb hP.2.1 (fun x hx _ => (hP.1 x hx).2.2) (fun x k hx _ hk => hokd _ (hP.2.2.2.1 x hx k hk).1 (hne x k hx hk))
  · refine ⟨fun x hx => ?_, ?_, ?_, fun x hx k hk => ?_, fun x h2 hx => ?_, fun x hx => ?_⟩
    · rw [r_c b x (by omega) (by omega) (by omega) (by omega)]
      exact hM.1 x (delD_i.mp hx).1
    · rw [r_c b 0 (by omega) (by omega) (by omega) (by omega)]
      exact hM.2.1
    · rw [r_c b 1 (by omega) (by omega) (by omega) (by omega)]
      exact hM.2.2.1
    · rw [r_c (b + 5) _ (by omega) (by omega) (by omega) (by omega)]
      exact hM.2.2.2.1 x (delD_i.mp hx).1 k hk
    · have hxy : x ≠ y := fun z => by
        rcases hx with h | h | h
        · omega
        · exact (delD_i.mp h).2 z
        · exact hyU.2.2 (z.symm.trans h)
      rw [r_1 x hxy, hM.2.2.2.2.1 x h2 (hokb x hx), edg_del (sz := sz) hyU.2.1 hd x, exS_n hxy]
      omega
    · have hxy : x ≠ y := fun z => by
        rw [z, exS_y, hex] at hx
        omega
      rw [exS_n hxy] at hx
      exact hokd x (hM.2.2.2.2.2 x hx) hxy
  · refine dC_cg (S := ulk S b (dch sz D y) (ch (dch sz D y)) j) (funext fun e => ?_) (fun x hx => r_2 x (delD_i.mp hx).2) (dC_del hC hP hd hj hjy rfl rfl (by omega))
    unfold rlS
    rw [rI_ne (by omega), rI_ne (by omega), rI_ne (by omega), r_u _ _ (by omega)]
  · refine (fun h => by
      have e : SI (rlS S b y (dch sz D y) (ch (dch sz D y)) j (dk D y) (sz (dv D y)) (SI S 52 14) ((cntB (dl D) U + o1 out : Nat) : Int)) 52 14 = ((y : Nat) : Int) := by
        unfold rlS
        rw [rI_nj (by decide), rI_at]
      rw [e]
      exact h) (lk_add hF.1 (fun i hi z => ?_) ?_ (fun i hi => ?_))
    · have := ((hF.2 _).mp ⟨i, hi, rfl⟩).2.2.1
      rw [z, hd] at this
      exact absurd this (by decide)
    · unfold rlS
      rw [rI_ne (by omega), rI_ne (by omega), rI_at]
    · have hm := ((hF.2 _).mp ⟨i, hi, rfl⟩).2.2.1
      rw [r_2 _ (fun z => by rw [z, hd] at hm; exact absurd hm (by decide)), ulk_2 (by omega) (fun k hk z => by
        have := hqm k hk
        rw [← z, hm] at this
        exact absurd this (by decide)) hj]
  · rw [cmem_add, hF.2 x, delD_l]
    constructor
    · rintro (rfl | ⟨k1, k2, k3, k4⟩)
      · rw [if_pos rfl]
        exact ⟨hyU.1, hyU.2.1, rfl, hyU.2.2⟩
      · have hxy : x ≠ y := fun z => by rw [z, hd] at k3; exact absurd k3 (by decide)
        rw [if_neg hxy]
        exact ⟨k1, k2, k3, k4⟩
    · rintro ⟨k1, k2, k3, k4⟩
      by_cases c : x = y
      · exact Or.inl c
      · rw [if_neg c] at k3
        exact Or.inr ⟨k1, k2, k3, k4⟩
  · have := cnt_del (U := U) hyU.2.1 hd
    unfold rlS
    rw [rI_at]
    omega
  · unfold rlS
    rw [rI_nj (by decide), rI_nj (by decide), rI_ne (by omega), r_u _ _ (by omega), ulk_ne (by decide) (by omega)]
    exact hU
  · rw [r_c (b + 3) _ (by omega) (by omega) (by omega) (by omega)]
    exact hz x hx
theorem rlS_fr {c j s : Nat} {q : CQ} {w : Nat → Nat} {fz L : Int} : frO b S (rlS S b y c q j w s fz L) := by
  unfold rlS
  refine frO_trans (frO_trans (frO_trans (frO_wI (Or.inr (Or.inr (Or.inr (Or.inl rfl))))) ulk_fr) (B := ulk (wI S (b + 1) y (SI S (b + 1) y - 1)) b c q j) ?_) (frO_trans (frO_wI (Or.inr (Or.inr (Or.inr (Or.inr (Or.inl rfl)))))) (frO_trans (frO_wI (Or.inl rfl)) (frO_wI (Or.inl rfl))))
  exact ⟨rfl, rfl, rfl, fun e _ _ _ h4 _ _ => funext fun i => uK_ne h4 i⟩
/-- release: the count goes down; at none the node goes -/
theorem c_release (hvC : vC S n sz) (hG : dG S b R n sz D ex out U) (hy : dok D out y) (hyo : 2 ≤ y → y ≠ out ∧ 0 < ex y) (hcb : ∀ x, ex x ≤ 100000 ∧ edg sz D U x ≤ 2000000000) : sM X 2 46 [.ref 52, .int (iI ((y : Nat) : Int))] S (fun r S' => r = none ∧ ∃ D', dG S' b R n sz D' (exS ex y) out U ∧ ((D' = D ∧ (y < 2 ∨ 1 < edg sz D U y + ex y)) ∨ (D' = delD D y ∧ dl D y = true ∧ edg sz D U y = 0 ∧ ex y = 1)) ∧ frO b S S' ∧ (∀ j, out * 6 ≤ j → j < out * 6 + 6 → SI S' (b + 5) j = SI S (b + 5) j)) := by
  have hG0 := hG
  obtain ⟨hA, hP, hM, ⟨ch, hC⟩, ⟨fr, hF⟩, hL, hU, hUR, hU2, hz⟩ := hG
  have hwf := hvC.1
  have hb58 := hA.1
  have hyU := dok_lt hP hU2 hy
  by_cases c2 : y < 2
  · exact sM_of (c_release_0 hA (by omega) (Or.inl c2) (fun h => by omega)) ⟨rfl, D, dG_dec (Or.inl c2) hG0, Or.inl ⟨rfl, Or.inl c2⟩, frO_wI (Or.inr (Or.inr (Or.inr (Or.inl rfl)))), fun j _ _ => rI_ne (by omega) _⟩
  · obtain ⟨h1, h2⟩ := hyo (by omega)
    have hus := hM.2.2.2.2.1 y (by omega) hy
    have hb1 := (hcb y).1
    have hb2 := (hcb y).2
    by_cases c : 1 < edg sz D U y + ex y
    · exact sM_of (c_release_0 hA (by omega) (Or.inr (by rw [hus]; omega)) (fun _ => ⟨by rw [hus]; omega, by rw [hus]; omega⟩)) ⟨rfl, D, dG_dec (Or.inr h2) hG0, Or.inl ⟨rfl, Or.inr c⟩, frO_wI (Or.inr (Or.inr (Or.inr (Or.inl rfl)))), fun j _ _ => rI_ne (by omega) _⟩
    · have hd : dl D y = true := by
        rcases hy with h | h | h
        · omega
        · exact h
        · exact absurd h h1
      have hv := (hP.2.2.1 y hd).1
      have hsv := hwf.2.1 _ hv
      have hn10 := hwf.1
      have hcl := dch_lt hP hd
      obtain ⟨j, hj, hjy⟩ := ((hC.1 _ hcl).2 y).mpr ⟨hd, rfl⟩
      have hqm : ∀ i, i < (ch (dch sz D y)).1 → 2 ≤ (ch (dch sz D y)).2 i ∧ (ch (dch sz D y)).2 i < R := fun i hi => by
        have h3 := hP.1 _ (((hC.1 _ hcl).2 _).mp ⟨i, hi, rfl⟩).1
        exact ⟨h3.1, by omega⟩
      have hq1 : (ch (dch sz D y)).1 ≤ R := pigeon (fun i => (ch (dch sz D y)).2 i) (fun i hi => (hqm i hi).2) (fun i k hi hk e => (hC.1 _ hcl).1.2.2.2 i k hi hk e)
      have hR2 := hA.2.2.1
      refine sM_of (c_release_1 (v := dv D y) (c := dch sz D y) (q := ch (dch sz D y)) (w := dk D y) (j := j) (fz := SI S 52 14) (L := ((cntB (dl D) U + o1 out : Nat) : Int)) hvC hA (by omega) (by omega) (by rw [hus]; omega) hv (hM.1 y hd) (fun k hk => hM.2.2.2.1 y hd k hk) (fun k hk => by have := dok_lt hP hU2 (hP.2.2.2.1 y hd k hk).1; omega) rfl (hC.1 _ hcl).1 hqm (by omega) hj hjy rfl hL) ⟨rfl, delD D y, dG_rem hwf hA hP hM hC hF hL hU hUR hU2 hz hd (by omega) (by omega) hj hjy, Or.inr ⟨rfl, hd, by omega, by omega⟩, rlS_fr, fun i _ _ => ?_⟩
      unfold rlS
      rw [rI_ne (by omega), rI_ne (by omega), rI_ne (by omega), uK_ne (by omega), ulk_ne (by omega) (by omega), rI_ne (by omega)]
/-- a node is taken out: its kids' uses count as from outside -/
def exK (sz : Nat → Nat) (D : DT) (ex : Nat → Nat) (y : Nat) : Nat → Nat := fun z => ex z + cntB (fun k => decide (dk D y k = z)) (sz (dv D y))
theorem dG_det (hwf : wf n sz) (hA : dA S b R) (hP : dP n sz D 0 U) (hM : dM S b sz D ex 0 U) (hC : dC S b n sz D ch) (hF : dF S b D 0 U fr) (hL : SI S 52 12 = ((cntB (dl D) U + o1 0 : Nat) : Int)) (hU : SI S 52 13 = (U : Nat)) (hUR : U ≤ R) (hU2 : 2 ≤ U) (hz : ∀ x, x < R → SI S (b + 3) x = 0) (hd : dl D y = true) {j : Nat} (hj : j < (ch (dch sz D y)).1) (hjy : (ch (dch sz D y)).2 j = y) : dG (ulk S b (dch sz D y) (ch (dch sz D y)) j) b R n sz (delD D y) (exK sz D ex y) y U := by
  have hb58 := hA.1
  have hyU := hP.1 y hd
  have hcl := dch_lt hP hd
  have hqm : ∀ i, i < (ch (dch sz D y)).1 → dl D ((ch (dch sz D y)).2 i) = true := fun i hi => (((hC.1 _ hcl).2 _).mp ⟨i, hi, rfl⟩).1
  have hokd : ∀ x, dok D 0 x → dok (delD D y) y x := fun x hx => by
    by_cases c : x = y
    · exact Or.inr (Or.inr c)
    · rcases hx with h | h | h
      · exact Or.inl h
      · exact Or.inr (Or.inl (delD_i.mpr ⟨h, c⟩))
      · exact Or.inl (by omega)
  have hokb : ∀ x, dok (delD D y) y x → dok D 0 x := fun x hx => by
    rcases hx with h | h | h
    · exact Or.inl h
    · exact Or.inr (Or.inl (delD_i.mp h).1)
    · exact Or.inr (Or.inl (by rw [h]; exact hd))
  have r_c : ∀ c i, c ≠ b + 2 → c ≠ 55 → SI (ulk S b (dch sz D y) (ch (dch sz D y)) j) c i = SI S c i := fun c i h1 h2 => ulk_ne h2 h1 i
  refine ⟨dA_cg ulk_fr.1 ulk_fr.2.1 hA, ?_, ?_, ⟨_, dC_del hC hP hd hj hjy rfl rfl (by omega)⟩, ⟨fr, ?_, fun x => ?_⟩, ?_, ?_, hUR, hU2, fun x hx => ?_⟩
  · exact dP_del hP hd hokb (Or.inr ⟨hyU.1, hyU.2.1⟩) (fun x _ h => h) (fun x k hx _ hk => hokd _ (hP.2.2.2.1 x hx k hk).1)
  · refine ⟨fun x hx => ?_, ?_, ?_, fun x hx k hk => ?_, fun x h2 hx => ?_, fun x hx => ?_⟩
    · rw [r_c b x (by omega) (by omega)]
      exact hM.1 x (delD_i.mp hx).1
    · rw [r_c b 0 (by omega) (by omega)]
      exact hM.2.1
    · rw [r_c b 1 (by omega) (by omega)]
      exact hM.2.2.1
    · rw [r_c (b + 5) _ (by omega) (by omega)]
      exact hM.2.2.2.1 x (delD_i.mp hx).1 k hk
    · rw [r_c (b + 1) _ (by omega) (by omega), hM.2.2.2.2.1 x h2 (hokb x hx), edg_del (sz := sz) hyU.2.1 hd x]
      unfold exK
      omega
    · unfold exK at hx
      by_cases c : 0 < ex x
      · exact hokd x (hM.2.2.2.2.2 x c)
      · obtain ⟨k, hk, e⟩ := anyB_iff.mp ((cntB_any _ _).mp (show 0 < cntB (fun k => decide (dk D y k = x)) (sz (dv D y)) by omega))
        have e := of_decide_eq_true e
        rw [← e]
        exact hokd _ (hP.2.2.2.1 y hd k hk).1
  · refine lk_cg hF.1 (r_c 52 14 (by omega) (by omega)) (fun i hi => ?_)
    have hm := ((hF.2 _).mp ⟨i, hi, rfl⟩).2.2.1
    exact ulk_2 (by omega) (fun k hk z => by
      have := hqm k hk
      rw [← z, hm] at this
      exact absurd this (by decide)) hj
  · rw [hF.2 x, delD_l]
    constructor
    · rintro ⟨k1, k2, k3, k4⟩
      have hxy : x ≠ y := fun z => by rw [z, hd] at k3; exact absurd k3 (by decide)
      rw [if_neg hxy]
      exact ⟨k1, k2, k3, hxy⟩
    · rintro ⟨k1, k2, k3, k4⟩
      rw [if_neg k4] at k3
      exact ⟨k1, k2, k3, by omega⟩
  · have := cnt_del (U := U) hyU.2.1 hd
    rw [r_c 52 12 (by omega) (by omega), hL, this, show o1 y = 1 from if_neg (by omega), show o1 0 = 0 from rfl]
  · rw [r_c 52 13 (by omega) (by omega)]
    exact hU
  · rw [r_c (b + 3) _ (by omega) (by omega)]
    exact hz x hx
/-- and put in again, with another variable and other kids -/
theorem dG_att {S' : ST} {v c : Nat} {t : Nat → Nat} {ex' : Nat → Nat} (hwf : wf n sz) (hG : dG S b R n sz D ex y U) (hy2 : 2 ≤ y) (hv : v < n) (ht : tbT (pr sz n) (ds D y)) (hdp : dpT n sz (ds D y) v = true) (hw : ∀ k, k < sz v → dok D y (t k) ∧ ds D (t k) = cof n sz (ds D y) v k) (hc : c = v * 64 + hcI (hsI (fun k => ((t k : Nat) : Int)) (sz v))) (he : ∀ z, ex z = ex' z + cntB (fun k => decide (t k = z)) (sz v)) (h1 : S'.1 = S.1) (hR : SR S' = SR S) (r_b : ∀ x, SI S' b x = if x = y then ((v : Nat) : Int) else SI S b x) (r_1 : SI S' (b + 1) = SI S (b + 1)) (r_2 : ∀ x, SI S' (b + 2) x = if x = y then SI S 55 c else SI S (b + 2) x) (r_3 : SI S' (b + 3) = SI S (b + 3)) (r_5 : ∀ j, SI S' (b + 5) j = if y * 6 ≤ j ∧ j < y * 6 + sz v then ((t (j - y * 6) : Nat) : Int) else SI S (b + 5) j) (r_55 : ∀ e, SI S' 55 e = if e = c then ((y : Nat) : Int) else SI S 55 e) (r_52 : SI S' 52 = SI S 52) : dG S' b R n sz (setD D y v t (ds D y)) ex' 0 U := by
  obtain ⟨hA, hP, hM, ⟨ch, hC⟩, ⟨fr, hF⟩, hL, hU, hUR, hU2, hz⟩ := hG
  have hsv := hwf.2.1 v hv
  have hyU : y < U := by
    rcases hP.2.1 with h | h <;> omega
  have hd : dl D y = false := by
    cases e : dl D y with
    | false => rfl
    | true => exact absurd rfl (hP.1 y e).2.2
  have hok : ∀ x, dok (setD D y v t (ds D y)) 0 x ↔ (dok D y x ∨ x = y) := fun x => by
    constructor
    · rintro (h | h | h)
      · exact Or.inl (Or.inl h)
      · rcases setD_i.mp h with h | h
        · exact Or.inl (Or.inr (Or.inl h))
        · exact Or.inr h
      · exact Or.inl (Or.inl (by omega))
    · rintro ((h | h | h) | h)
      · exact Or.inl h
      · exact Or.inr (Or.inl (setD_i.mpr (Or.inl h)))
      · exact Or.inr (Or.inl (setD_i.mpr (Or.inr h)))
      · exact Or.inr (Or.inl (setD_i.mpr (Or.inr h)))
  have hok2 : ∀ x, dok (setD D y v t (ds D y)) 0 x ↔ dok D y x := fun x => by
    rw [hok x]
    exact ⟨fun h => h.elim id (fun h => Or.inr (Or.inr h)), Or.inl⟩
  refine ⟨dA_cg h1 hR hA, ?_, ?_, ⟨_, dC_set hC hd hv hwf.1 hc r_2 r_55⟩, ⟨fr, ?_, fun x => ?_⟩, ?_, ?_, hUR, hU2, fun x hx => ?_⟩
  · exact dP_set hP (Nat.le_refl U) ⟨hy2, hyU⟩ hd hok (Or.inl rfl) (fun x hx => by have := (hP.1 x hx).1; omega) (by omega) (fun _ => rfl) hv ht hdp hw (fun x hx e => hP.2.2.2.2.2.2 x y hx (Or.inr (Or.inr rfl)) e)
  · refine ⟨fun x hx => ?_, ?_, ?_, fun x hx k hk => ?_, fun x h2 hx => ?_, fun x hx => ?_⟩
    · rw [r_b]
      by_cases cx : x = y
      · rw [if_pos cx, cx, setD_vy]
      · rw [if_neg cx, setD_vn cx]
        exact hM.1 x ((setD_ln cx).symm.trans hx)
    · rw [r_b, if_neg (by omega)]
      exact hM.2.1
    · rw [r_b, if_neg (by omega)]
      exact hM.2.2.1
    · rw [r_5]
      by_cases cx : x = y
      · subst cx
        rw [setD_vy] at hk
        rw [if_pos (by omega), setD_ky, show x * 6 + k - x * 6 = k from by omega]
      · rw [setD_vn cx] at hk
        rw [setD_ln cx] at hx
        have := (hwf.2.1 _ (hP.2.2.1 x hx).1)
        rw [if_neg (by omega), setD_kn cx]
        exact hM.2.2.2.1 x hx k hk
    · rw [r_1, hM.2.2.2.2.1 x h2 ((hok2 x).mp hx), edg_set hyU hd, he x]
      omega
    · exact (hok2 x).mpr (hM.2.2.2.2.2 x (by rw [he x]; omega))
  · refine lk_cg hF.1 (by rw [r_52]) (fun i hi => ?_)
    rw [r_2, if_neg ((hF.2 _).mp ⟨i, hi, rfl⟩).2.2.2]
  · rw [hF.2 x, setD_l]
    constructor
    · rintro ⟨k1, k2, k3, k4⟩
      rw [if_neg k4]
      exact ⟨k1, k2, k3, by omega⟩
    · rintro ⟨k1, k2, k3, k4⟩
      have cx : x ≠ y := fun z => by rw [if_pos z] at k3; exact absurd k3 (by decide)
      rw [if_neg cx] at k3
      exact ⟨k1, k2, k3, cx⟩
  · rw [r_52, hL, cnt_set hyU hd, show o1 y = 1 from if_neg (by omega), show o1 0 = 0 from rfl]
  · rw [r_52]
    exact hU
  · rw [r_3]
    exact hz x hx
end DR
