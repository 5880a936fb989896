/-! ===== sizes and ways of a function ===== -/
def wys (n : Nat) (sz ord : Nat → Nat) : Nat → (Nat → Bool) → Nat
  | 0, g => if lfv (pr sz n) g = 1 then 1 else 0
  | m + 1, g => if lfv (pr sz n) g ≠ -1 then (if lfv (pr sz n) g = 1 then 1 else 0) else sumN (fun k => wys n sz ord m (cof n sz g (ord (fpl n sz ord g)) k)) (sz (ord (fpl n sz ord g)))
theorem wys_lf {n : Nat} {sz ord : Nat → Nat} {g : Nat → Bool} (h : lfv (pr sz n) g ≠ -1) : ∀ m, wys n sz ord m g = if lfv (pr sz n) g = 1 then 1 else 0
  | 0 => by unfold wys; rfl
  | m + 1 => by
    unfold wys
    rw [if_pos h]
theorem wys_s {n m : Nat} {sz ord : Nat → Nat} {g : Nat → Bool} (h : lfv (pr sz n) g = -1) : wys n sz ord (m + 1) g = sumN (fun k => wys n sz ord m (cof n sz g (ord (fpl n sz ord g)) k)) (sz (ord (fpl n sz ord g))) := by
  rw [wys, if_neg (fun z => z h)]
section EC
variable {X : List Int32} {S : ST} {b R n U fn x : Nat} {sz ord pl rt : Nat → Nat} {D : DT} {ex : Nat → Nat} {Fn : Nat → Nat → Bool}
theorem wys_le (hw : wf n sz) (ho : prm n ord pl) : ∀ m g, tbT (pr sz n) g → wys n sz ord m g ≤ 6 ^ m
  | 0, g, _ => by
    show (if _ then 1 else 0) ≤ 1
    split <;> omega
  | m + 1, g, ht => by
    show (if lfv (pr sz n) g ≠ -1 then (if lfv (pr sz n) g = 1 then 1 else 0) else _) ≤ _
    have h1 : 1 ≤ 6 ^ (m + 1) := Nat.le_trans (Nat.one_le_two_pow (n := m + 1)) (Nat.pow_le_pow_left (by decide) _)
    by_cases c : lfv (pr sz n) g ≠ -1
    · rw [if_pos c]
      split <;> omega
    · rw [if_neg c]
      have hf := fpl_lt hw ho ht (Classical.not_not.mp c)
      have hs := hw.2.1 _ (ho.1 _ hf).1
      have key : ∀ K, sumN (fun k => wys n sz ord m (cof n sz g (ord (fpl n sz ord g)) k)) K ≤ K * 6 ^ m := by
        intro K
        induction K with
        | zero => exact Nat.le_of_eq (Nat.zero_mul _).symm
        | succ K ih =>
          show sumN _ K + wys n sz ord m (cof n sz g (ord (fpl n sz ord g)) K) ≤ _
          have := wys_le hw ho m (cof n sz g (ord (fpl n sz ord g)) K) (cof_tb _ _ _ _ _)
          rw [Nat.add_mul, Nat.one_mul]
          omega
      have h2 := key (sz (ord (fpl n sz ord g)))
      have h3 : sz (ord (fpl n sz ord g)) * 6 ^ m ≤ 6 * 6 ^ m := Nat.mul_le_mul_right _ hs.2
      rw [Nat.pow_succ]
      omega
theorem wys_c (hw : wf n sz) (ho : prm n ord pl) (m : Nat) : ∀ g, tbT (pr sz n) g → (lfv (pr sz n) g = -1 → n ≤ fpl n sz ord g + m) → wys n sz ord (m + 1) g = wys n sz ord m g := by
  induction m with
  | zero =>
    intro g ht h
    have c : lfv (pr sz n) g ≠ -1 := fun z => by
      have h1 := h z
      have h2 := fpl_lt hw ho ht z
      omega
    exact (wys_lf c 1).trans (wys_lf c 0).symm
  | succ m ih =>
    intro g ht h
    by_cases c : lfv (pr sz n) g ≠ -1
    · exact (wys_lf c (m + 2)).trans (wys_lf c (m + 1)).symm
    · have c := Classical.not_not.mp c
      have hf := fpl_lt hw ho ht c
      have h1 := h c
      refine (wys_s (m := m + 1) c).trans ((sumN_c (fun k hk => ?_)).trans (wys_s (m := m) c).symm)
      have h2 := fpl_gt hw ho hf hk
      exact ih _ (cof_tb _ _ _ _ _) (fun _ => by omega)
theorem dRF_Q {S' : ST} (h : dRF S b R n sz ord pl D U fn rt Fn) (hf : frQ b S S') (hz : ∀ x, x < R → SI S' (b + 3) x = 0) : dRF S' b R n sz ord pl D U fn rt Fn := by
  obtain ⟨⟨hG, hc, hu, hO, ho⟩, hrest⟩ := h
  have hb := hG.1.1
  refine ⟨⟨?_, hc, hu, ?_, ho⟩, hrest⟩
  · obtain ⟨hA, hP, hM, hC, hF, hL, hU, hUR, hU2, _⟩ := hG
    refine ⟨dA_cg hf.1 hf.2.1 hA, hP, ?_, ?_, ?_, ?_, ?_, hUR, hU2, hz⟩
    · unfold dM at *
      rw [hf.2.2.2 b (by omega) (by omega), hf.2.2.2 (b + 1) (by omega) (by omega), hf.2.2.2 (b + 5) (by omega) (by omega)]
      exact hM
    · unfold dC at *
      rw [hf.2.2.2 (b + 2) (by omega) (by omega), hf.2.2.2 55 (by omega) (by omega)]
      exact hC
    · unfold dF at *
      rw [hf.2.2.2 (b + 2) (by omega) (by omega), hf.2.2.2 52 (by omega) (by omega)]
      exact hF
    · rw [hf.2.2.2 52 (by omega) (by omega)]
      exact hL
    · rw [hf.2.2.2 52 (by omega) (by omega)]
      exact hU
  · unfold oC at *
    rw [hf.2.2.2 53 (by omega) (by omega), hf.2.2.2 54 (by omega) (by omega)]
    exact hO
theorem NF_leaf {g : Nat → Bool} (h : lfv (pr sz n) g ≠ -1) : bEnd n sz ord (addN (pr sz n) 0 L0 g).1 (addN (pr sz n) 0 L0 g).2 0 ∧ NF n sz ord g = 0 := by
  have h1 : bEnd n sz ord (addN (pr sz n) 0 L0 g).1 (addN (pr sz n) 0 L0 g).2 0 := by
    rw [addN_leaf h]
    exact ⟨rfl, fun j hj => absurd hj (Nat.not_lt_zero j)⟩
  have h4 : bEnd n sz ord (addN (pr sz n) 0 L0 g).1 (addN (pr sz n) 0 L0 g).2 (NF n sz ord g) := Classical.epsilon_spec (p := fun N => bEnd n sz ord (addN (pr sz n) 0 L0 g).1 (addN (pr sz n) 0 L0 g).2 N) ⟨0, h1⟩
  exact ⟨h1, bEnd_u h4 h1⟩
theorem c_number_0 (hU : SI S 52 13 = (U : Nat)) (hU2 : U < 2147483648) (hx : x < 2) : sM X 1 48 [.ref 52, .int (iI ((x : Nat) : Int))] S (sV (some (.int (iI 0))) S) := by
  refine sIni (ls := [some (.ref 52), some (.int (iI ((x : Nat) : Int))), none, none, none, none, none]) rfl ?_
  refine sL (pc' := 1) (i := .aload_n 0) rfl rfl ?_
  refine sL (pc' := 2) (i := .iload_n 1) rfl rfl ?_
  refine sCv (p := 5) (as := [_]) rfl rfl rfl rfl (by decide) (Nat.le_of_ble_eq_true rfl) rfl (Nat.le_of_ble_eq_true rfl) (sk_52 _) rfl (by omega) (c_isNode (x := x) hU (by omega) (by omega)) ?_
  refine sBn (p := 8) rfl rfl (fun c1 => ?_) (fun c1 => ?_)
  · have c1 := c1
    have c1 := of_decide_eq_true c1
    exfalso; omega
  · have c1 := c1
    have c1 := of_decide_eq_false c1
    refine sKi (p := 9) rfl rfl ?_
    refine sEn (i := .ireturn) rfl (rfl) ?_
    exact ⟨rfl, rfl⟩
theorem c_countNodes {f : Nat} (hvC : vC S n sz) (hR : dRF S b R n sz ord pl D U fn rt Fn) (hf : f < fn) : sM X 2 47 [.ref 52, .int (iI ((rt f : Nat) : Int))] S (fun r S' => r = some (.int (iI ((NF n sz ord (Fn f) : Nat) : Int))) ∧ dRF S' b R n sz ord pl D U fn rt Fn ∧ frQ b S S') := by
  have hR0 := hR
  obtain ⟨⟨hG, hc, hu, hO, ho⟩, hrt, h40, htb⟩ := hR
  have hwf := hvC.1
  obtain ⟨h1, h2⟩ := hrt f hf
  have hUR := hG.2.2.2.2.2.2.2.1
  have hU := hG.2.2.2.2.2.2.1
  have hR2 := hG.1.2.2.1
  have hz := hG.2.2.2.2.2.2.2.2.2
  by_cases cl : dl D (rt f) = true
  · have hE := (NF_ok (F := Fn) hwf ho h40 hf (htb f hf)).1
    rw [← h2] at hE ⊢
    refine sIni (ls := [some (.ref 52), some (.int (iI ((rt f : Nat) : Int))), none]) rfl ?_
    refine sL (pc' := 1) (i := .aload_n 0) rfl rfl ?_
    refine sL (pc' := 2) (i := .iload_n 1) rfl rfl ?_
    refine sCvQ (p := 5) (as := [_]) rfl rfl rfl rfl (by decide) (Nat.le_of_ble_eq_true rfl) rfl (Nat.le_of_ble_eq_true rfl) (sk_52 _) rfl (by omega) (c_number hvC hG hc ho cl hE) ?_
    rintro _ Sd ⟨rfl, ⟨q, hnu⟩, hfd⟩
    refine sL (pc' := 6) (i := .istore_n 2) (ls' := [some (.ref 52), some (.int (iI ((rt f : Nat) : Int))), some (.int (iI ((NF n sz ord (ds D (rt f)) : Nat) : Int)))]) rfl rfl ?_
    refine sL (pc' := 7) (i := .aload_n 0) rfl rfl ?_
    refine sL (pc' := 8) (i := .iload_n 2) rfl rfl ?_
    refine sCvQ (p := 11) (as := [_]) rfl rfl rfl rfl (by decide) (Nat.le_of_ble_eq_true rfl) rfl (Nat.le_of_ble_eq_true rfl) (sk_52 _) rfl (by omega) (c_forget (frQ_A hfd hG.1) hG.2.1 hUR hnu) ?_
    rintro _ Se ⟨rfl, hze, hfe⟩
    refine sL (pc' := 12) (i := .iload_n 2) rfl rfl ?_
    refine sEn (i := .ireturn) rfl (rfl) ?_
    exact ⟨rfl, dRF_Q hR0 (frQ_trans hfd hfe) hze, frQ_trans hfd hfe⟩
  · have hx2 : rt f < 2 := by
      rcases h1 with h | h | h
      · exact h
      · exact absurd h cl
      · omega
    have hl : lfv (pr sz n) (Fn f) ≠ -1 := by rw [← h2]; exact leaf_lf hwf hG.2.1 hx2
    have hNF := (NF_leaf (ord := ord) hl).2
    rw [hNF]
    have hnu : nuM S b R D 0 L0 (fun _ => 0) := ⟨fun j hj => absurd hj (Nat.not_lt_zero j), fun x hx _ => hz x hx, fun i j hi => absurd hi (Nat.not_lt_zero i)⟩
    refine sIni (ls := [some (.ref 52), some (.int (iI ((rt f : Nat) : Int))), none]) rfl ?_
    refine sL (pc' := 1) (i := .aload_n 0) rfl rfl ?_
    refine sL (pc' := 2) (i := .iload_n 1) rfl rfl ?_
    refine sCv (p := 5) (as := [_]) rfl rfl rfl rfl (by decide) (Nat.le_of_ble_eq_true rfl) rfl (Nat.le_of_ble_eq_true rfl) (sk_52 _) rfl (by omega) (c_number_0 hU (by omega) hx2) ?_
    refine sL (pc' := 6) (i := .istore_n 2) (ls' := [some (.ref 52), some (.int (iI ((rt f : Nat) : Int))), some (.int (iI 0))]) rfl rfl ?_
    refine sL (pc' := 7) (i := .aload_n 0) rfl rfl ?_
    refine sL (pc' := 8) (i := .iload_n 2) rfl rfl ?_
    refine sCvQ (p := 11) (as := [_]) rfl rfl rfl rfl (by decide) (Nat.le_of_ble_eq_true rfl) rfl (Nat.le_of_ble_eq_true rfl) (sk_52 _) rfl (by omega) (c_forget hG.1 hG.2.1 hUR hnu) ?_
    rintro _ Se ⟨rfl, hze, hfe⟩
    refine sL (pc' := 12) (i := .iload_n 2) rfl rfl ?_
    refine sEn (i := .ireturn) rfl (rfl) ?_
    exact ⟨rfl, dRF_Q hR0 hfe hze, hfe⟩
theorem c_waysFrom (hvC : vC S n sz) (hG : dG S b R n sz D ex 0 U) (hc : cnO n sz ord D) (ho : prm n ord pl) : ∀ (m : Nat) {d x : Nat}, d + m = 10 → dok D 0 x → (dl D x = true → d ≤ fpl n sz ord (ds D x)) → sM X (m + 2) 50 [.ref 52, .int (iI ((x : Nat) : Int)), .int (iI ((d : Nat) : Int))] S (sV (some (.int (iI ((wys n sz ord m (ds D x) : Nat) : Int)))) S)
  | 0, d, x, hd, hx, hl => by
    have hwf := hvC.1
    have hn10 := hwf.1
    have hA := hG.1
    have hP := hG.2.1
    have hM := hG.2.2.1
    have hU := hG.2.2.2.2.2.2.1
    have hUR := hG.2.2.2.2.2.2.2.1
    have hU2 := hG.2.2.2.2.2.2.2.2.1
    have hT := hwf.2.2
    have hT0 := hwf.pos (Nat.le_refl n)
    have hxU := dok_lt hP hU2 hx
    have hb58 := hA.1
    have hR1 := hA.2.1
    have hR2 := hA.2.2.1
    have hx2 : x < 2 := by
      rcases hx with h | h | h
      · exact h
      · have h1 := hl h; have h2 := (cn_fpl hwf ho hP hc h).1; omega
      · omega
    have hlv : wys n sz ord 0 (ds D x) = if x = 1 then 1 else 0 := by
      have h2 : x = 0 ∨ x = 1 := by omega
      rcases h2 with h2 | h2
      · have h3 : lfv (pr sz n) (ds D x) = 0 := by rw [h2, hP.2.2.2.2.1]; exact (lfv_0 hT hT0 (fun _ _ => rfl)).mpr (fun _ _ => rfl)
        rw [if_neg (by omega)]
        unfold wys
        rw [h3]
        rfl
      · have h3 : lfv (pr sz n) (ds D x) = 1 := by rw [h2, hP.2.2.2.2.2.1]; exact (lfv_1 (f := evr (pr sz n)) hT hT0 (fun r hr => decide_eq_false (by omega))).mpr (fun r hr => decide_eq_true hr)
        rw [if_pos h2]
        unfold wys
        rw [h3]
        rfl
    rw [hlv]
    refine sIni (ls := [some (.ref 52), some (.int (iI ((x : Nat) : Int))), some (.int (iI ((d : Nat) : Int))), none, none]) rfl ?_
    refine sL (pc' := 1) (i := .aload_n 0) rfl rfl ?_
    refine sL (pc' := 2) (i := .iload_n 1) rfl rfl ?_
    refine sCv (p := 5) (as := [_]) rfl rfl rfl rfl (by decide) (Nat.le_of_ble_eq_true rfl) rfl (Nat.le_of_ble_eq_true rfl) (sk_52 _) rfl (by omega) (c_isNode (x := x) hU (by omega) (by omega)) ?_
    refine sBe (p := 8) rfl rfl (fun c1 => ?_) (fun c1 => ?_)
    · have c1 := c1
      have c1 := of_decide_eq_false c1
      refine sL (pc' := 15) (i := .iload_n 1) rfl rfl ?_
      refine sKi (p := 16) rfl rfl ?_
      refine sIc_ne (p := 19) rfl rfl ⟨by omega, by omega⟩ ⟨by omega, by omega⟩ (fun c2 => ?_) (fun c2 => ?_)
      · have c2 := c2
        refine sKi (p := 24) rfl rfl ?_
        refine sEn (i := .ireturn) rfl (rfl) ?_
        exact ⟨by rw [if_neg (by omega)]; rfl, rfl⟩
      · have c2 := c2
        refine sKi (p := 20) rfl rfl ?_
        refine sL (i := .goto 4) rfl rfl ?_
        refine sEn (i := .ireturn) rfl (rfl) ?_
        exact ⟨by rw [if_pos (by omega)]; rfl, rfl⟩
    · have c1 := c1
      have c1 := of_decide_eq_true c1
      exfalso; omega
  | m + 1, d, x, hd, hx, hl => by
    have hwf := hvC.1
    have hn10 := hwf.1
    have hA := hG.1
    have hP := hG.2.1
    have hM := hG.2.2.1
    have hU := hG.2.2.2.2.2.2.1
    have hUR := hG.2.2.2.2.2.2.2.1
    have hU2 := hG.2.2.2.2.2.2.2.2.1
    have hT := hwf.2.2
    have hT0 := hwf.pos (Nat.le_refl n)
    have hxU := dok_lt hP hU2 hx
    have hb58 := hA.1
    have hR1 := hA.2.1
    have hR2 := hA.2.2.1
    by_cases cl : dl D x = true
    · have hf := cn_fpl hwf ho hP hc cl
      have hlf := live_lf hwf hP cl
      have hsv := hwf.2.1 _ (hP.2.2.1 x cl).1
      have hws : wys n sz ord (m + 1) (ds D x) = sumN (fun k => wys n sz ord m (cof n sz (ds D x) (ord (fpl n sz ord (ds D x))) k)) (sz (ord (fpl n sz ord (ds D x)))) := wys_s hlf
      have hx2 := hP.1 x cl
      rw [hws, ← hf.2]
      refine sIni (ls := [some (.ref 52), some (.int (iI ((x : Nat) : Int))), some (.int (iI ((d : Nat) : Int))), none, none]) rfl ?_
      refine sL (pc' := 1) (i := .aload_n 0) rfl rfl ?_
      refine sL (pc' := 2) (i := .iload_n 1) rfl rfl ?_
      refine sCv (p := 5) (as := [_]) rfl rfl rfl rfl (by decide) (Nat.le_of_ble_eq_true rfl) rfl (Nat.le_of_ble_eq_true rfl) (sk_52 _) rfl (by omega) (c_isNode (x := x) hU (by omega) (by omega)) ?_
      refine sBe (p := 8) rfl rfl (fun c1 => ?_) (fun c1 => ?_)
      · have c1 := c1
        have c1 := of_decide_eq_false c1
        exfalso; omega
      · have c1 := c1
        have c1 := of_decide_eq_true c1
        refine sL (pc' := 9) (i := .iload_n 2) rfl rfl ?_
        refine sKb (p := 11) rfl rfl ?_
        refine sIc_lt (p := 14) rfl rfl ⟨by omega, by omega⟩ ⟨by omega, by omega⟩ (fun c2 => ?_) (fun c2 => ?_)
        · have c2 := c2
          refine sKi (p := 26) rfl rfl ?_
          refine sL (pc' := 27) (i := .istore_n 3) (ls' := [some (.ref 52), some (.int (iI ((x : Nat) : Int))), some (.int (iI ((d : Nat) : Int))), some (.int (iI 0)), none]) rfl rfl ?_
          refine sKi (p := 28) rfl rfl ?_
          refine sL (pc' := 30) (i := .istore 4) (ls' := [some (.ref 52), some (.int (iI ((x : Nat) : Int))), some (.int (iI ((d : Nat) : Int))), some (.int (iI 0)), some (.int (iI 0))]) rfl rfl ?_
          refine sIt (A := fun k => [some (.ref 52), some (.int (iI ((x : Nat) : Int))), some (.int (iI ((d : Nat) : Int))), some (.int (iI ((sumN (fun k => wys n sz ord m (cof n sz (ds D x) (dv D x) k)) k : Nat) : Int))), some (.int (iI ((k : Nat) : Int)))]) (B := fun _ => S) (fun _ => True) (sz (dv D x)) True.intro (fun k hi30 hI30 ih30 => ?_) (fun hI30 => ?_)
          · have hi30 := hi30
            have hkd := hP.2.2.2.1 x cl k hi30
            have hkU := dok_lt hP hU2 hkd.1
            have hkf : dl D (dk D x k) = true → d + 1 ≤ fpl n sz ord (ds D (dk D x k)) := fun _ => by
              have h1 := hl cl
              have h2 := fpl_gt hwf ho hf.1 (k := k) (by rw [← hf.2]; exact hi30)
              rw [hkd.2, hf.2]
              omega
            refine sL (pc' := 32) (i := .iload 4) rfl rfl ?_
            refine sL (pc' := 33) (i := .aload_n 0) rfl rfl ?_
            refine sGc (p := 36) rfl rfl (sk_52 _) rfl rfl rfl ?_
            refine sL (pc' := 37) (i := .aload_n 0) rfl rfl ?_
            refine sGr (p := 40) rfl rfl (sk_52 _) rfl rfl rfl hA.2.2.2.1 ?_
            refine sL (pc' := 41) (i := .iload_n 1) rfl rfl ?_
            refine sAi (p := 42) (i := x) rfl rfl hA.2.2.2.2.2.2.2.2.2.1 (by omega) ⟨by omega, by omega⟩ (hM.1 x cl) ?_
            refine sCv (p := 45) (as := [_]) rfl rfl rfl rfl (by decide) (Nat.le_of_ble_eq_true rfl) rfl (Nat.le_of_ble_eq_true rfl) (sk_1 _) rfl (by omega) (c_siz hvC (hP.2.2.1 x cl).1) ?_
            refine sIc_ge (p := 48) rfl rfl ⟨by omega, by omega⟩ ⟨by omega, by omega⟩ (fun c3 => ?_) (fun c3 => ?_)
            · exfalso; omega
            · have c3 := c3
              refine sL (pc' := 49) (i := .iload_n 3) rfl rfl ?_
              refine sL (pc' := 50) (i := .aload_n 0) rfl rfl ?_
              refine sL (pc' := 51) (i := .aload_n 0) rfl rfl ?_
              refine sGr (p := 54) rfl rfl (sk_52 _) rfl rfl rfl hA.2.2.2.2.2.2.2.2.1 ?_
              refine sL (pc' := 55) (i := .iload_n 1) rfl rfl ?_
              refine sKb (p := 57) rfl rfl ?_
              refine sMu (p := 58) rfl rfl ?_
              refine sL (pc' := 60) (i := .iload 4) rfl rfl ?_
              refine sAd (p := 61) rfl rfl ?_
              refine sAi (p := 62) (i := (x * 6) + k) rfl rfl hA.2.2.2.2.2.2.2.2.2.2.2.2.2.2 (by omega) ⟨by omega, by omega⟩ (hM.2.2.2.1 x cl k hi30) ?_
              refine sL (pc' := 63) (i := .iload_n 2) rfl rfl ?_
              refine sKi (p := 64) rfl rfl ?_
              refine sAd (p := 65) rfl rfl ?_
              rw [show ((((d : Nat) : Int) + 1)) = (((d + 1 : Nat) : Int)) from by omega]
              refine sCv (p := 68) (as := [_, _]) rfl rfl rfl rfl (by decide) (Nat.le_of_ble_eq_true rfl) rfl (Nat.le_of_ble_eq_true rfl) (sk_52 _) rfl (by omega) (c_waysFrom hvC hG hc ho m (by omega) hkd.1 hkf) ?_
              refine sAd (p := 69) rfl rfl ?_
              refine sL (pc' := 70) (i := .istore_n 3) (ls' := [some (.ref 52), some (.int (iI ((x : Nat) : Int))), some (.int (iI ((d : Nat) : Int))), some (.int (iI (((sumN (fun k => wys n sz ord m (cof n sz (ds D x) (dv D x) k)) k : Nat) : Int) + ((wys n sz ord m (ds D (dk D x k)) : Nat) : Int)))), some (.int (iI ((k : Nat) : Int)))]) rfl rfl ?_
              refine sInX (z := ((k : Nat) : Int)) (ls' := [some (.ref 52), some (.int (iI ((x : Nat) : Int))), some (.int (iI ((d : Nat) : Int))), some (.int (iI (((sumN (fun k => wys n sz ord m (cof n sz (ds D x) (dv D x) k)) k : Nat) : Int) + ((wys n sz ord m (ds D (dk D x k)) : Nat) : Int)))), some (.int (iI (((k : Nat) : Int) + 1)))]) (p := 73) rfl rfl (Nat.le_of_ble_eq_true rfl) rfl rfl ?_
              refine sL (i := .goto (-43)) rfl rfl ?_
              refine sRo (ls := [some (.ref 52), some (.int (iI ((x : Nat) : Int))), some (.int (iI ((d : Nat) : Int))), some (.int (iI ((sumN (fun k => wys n sz ord m (cof n sz (ds D x) (dv D x) k)) (k + 1) : Nat) : Int))), some (.int (iI ((k + 1 : Nat) : Int)))]) (T := _) (And.intro rfl (And.intro rfl (And.intro rfl (And.intro (congrArg (fun z => some (Value.int z)) (congrArg iI (by rw [hkd.2]; rfl))) (And.intro rfl (True.intro)))))) (rfl) (ih30 ?_)
              exact True.intro
          · have hI30 := hI30
            refine sL (pc' := 32) (i := .iload 4) rfl rfl ?_
            refine sL (pc' := 33) (i := .aload_n 0) rfl rfl ?_
            refine sGc (p := 36) rfl rfl (sk_52 _) rfl rfl rfl ?_
            refine sL (pc' := 37) (i := .aload_n 0) rfl rfl ?_
            refine sGr (p := 40) rfl rfl (sk_52 _) rfl rfl rfl hA.2.2.2.1 ?_
            refine sL (pc' := 41) (i := .iload_n 1) rfl rfl ?_
            refine sAi (p := 42) (i := x) rfl rfl hA.2.2.2.2.2.2.2.2.2.1 (by omega) ⟨by omega, by omega⟩ (hM.1 x cl) ?_
            refine sCv (p := 45) (as := [_]) rfl rfl rfl rfl (by decide) (Nat.le_of_ble_eq_true rfl) rfl (Nat.le_of_ble_eq_true rfl) (sk_1 _) rfl (by omega) (c_siz hvC (hP.2.2.1 x cl).1) ?_
            refine sIc_ge (p := 48) rfl rfl ⟨by omega, by omega⟩ ⟨by omega, by omega⟩ (fun c4 => ?_) (fun c4 => ?_)
            · have c4 := c4
              refine sL (pc' := 77) (i := .iload_n 3) rfl rfl ?_
              refine sEn (i := .ireturn) rfl (rfl) ?_
              exact ⟨rfl, rfl⟩
            · exfalso; omega
        · exfalso; omega
    · have hx2 : x < 2 := by
        rcases hx with h | h | h
        · exact h
        · exact absurd h cl
        · omega
      have hlv : wys n sz ord (m + 1) (ds D x) = if x = 1 then 1 else 0 := by
        have h2 : x = 0 ∨ x = 1 := by omega
        rcases h2 with h2 | h2
        · have h3 : lfv (pr sz n) (ds D x) = 0 := by rw [h2, hP.2.2.2.2.1]; exact (lfv_0 hT hT0 (fun _ _ => rfl)).mpr (fun _ _ => rfl)
          rw [if_neg (by omega)]
          unfold wys
          rw [h3]
          rfl
        · have h3 : lfv (pr sz n) (ds D x) = 1 := by rw [h2, hP.2.2.2.2.2.1]; exact (lfv_1 (f := evr (pr sz n)) hT hT0 (fun r hr => decide_eq_false (by omega))).mpr (fun r hr => decide_eq_true hr)
          rw [if_pos h2]
          unfold wys
          rw [h3]
          rfl
      rw [hlv]
      refine sIni (ls := [some (.ref 52), some (.int (iI ((x : Nat) : Int))), some (.int (iI ((d : Nat) : Int))), none, none]) rfl ?_
      refine sL (pc' := 1) (i := .aload_n 0) rfl rfl ?_
      refine sL (pc' := 2) (i := .iload_n 1) rfl rfl ?_
      refine sCv (p := 5) (as := [_]) rfl rfl rfl rfl (by decide) (Nat.le_of_ble_eq_true rfl) rfl (Nat.le_of_ble_eq_true rfl) (sk_52 _) rfl (by omega) (c_isNode (x := x) hU (by omega) (by omega)) ?_
      refine sBe (p := 8) rfl rfl (fun c1 => ?_) (fun c1 => ?_)
      · have c1 := c1
        have c1 := of_decide_eq_false c1
        refine sL (pc' := 15) (i := .iload_n 1) rfl rfl ?_
        refine sKi (p := 16) rfl rfl ?_
        refine sIc_ne (p := 19) rfl rfl ⟨by omega, by omega⟩ ⟨by omega, by omega⟩ (fun c2 => ?_) (fun c2 => ?_)
        · have c2 := c2
          refine sKi (p := 24) rfl rfl ?_
          refine sEn (i := .ireturn) rfl (rfl) ?_
          exact ⟨by rw [if_neg (by omega)]; rfl, rfl⟩
        · have c2 := c2
          refine sKi (p := 20) rfl rfl ?_
          refine sL (i := .goto 4) rfl rfl ?_
          refine sEn (i := .ireturn) rfl (rfl) ?_
          exact ⟨by rw [if_pos (by omega)]; rfl, rfl⟩
      · have c1 := c1
        have c1 := of_decide_eq_true c1
        exfalso; omega
end EC
