/-! ===== the diagram: neighbours change places ===== -/
def oC (S : ST) (n : Nat) (ord pl : Nat → Nat) : Prop := (∀ q, q < n → SI S 53 q = ((ord q : Nat) : Int)) ∧ (∀ v, v < n → SI S 54 v = ((pl v : Nat) : Int))
/-- the diagram at rest -/
def dR (S : ST) (b R n : Nat) (sz ord pl : Nat → Nat) (D : DT) (ex : Nat → Nat) (U : Nat) : Prop := dG S b R n sz D ex 0 U ∧ cnO n sz ord D ∧ uO sz D 0 U ex ∧ oC S n ord pl ∧ prm n ord pl
def wQ (S : ST) (b R n : Nat) (sz ord pl : Nat → Nat) (D : DT) (ex : Nat → Nat) (r : Option Value) (S' : ST) : Prop := r = none ∧ ∃ b' R' D' U', dR S' b' R' n sz ord pl D' ex U' ∧ (∀ x, 0 < ex x → ds D' x = ds D x) ∧ frD b R S b' R' S'
theorem frD_T {b R : Nat} {S S' : ST} (h : frT b S S') : frD b R S b R S' := by
  refine ⟨⟨[], by rw [h.1, List.append_nil]⟩, fun c _ => by rw [h.2.1], fun c _ => by rw [h.2.2.1], fun c _ q1 q2 => h.2.2.2 c (by omega) (by omega) (by omega) (by omega) (by omega) (by omega) (by omega) (by omega), Or.inl rfl, Nat.le_refl _, ?_, ?_⟩
  · unfold tz
    rw [h.1]
  · rw [h.1]
    exact Nat.le_refl _
section DY
variable {X : List Int32} {S : ST} {b R n U p : Nat} {sz ord pl : Nat → Nat} {D : DT} {ex : Nat → Nat}
theorem c_swapAt (hvC : vC S n sz) (hR : dR S b R n sz ord pl D ex U) (hp : p + 1 < n) (hcb : cntB (dl D) U ≤ 8910) (hexb : ∀ x, ex x ≤ 1000) : sM X 4 41 [.ref 52, .int (iI ((p : Nat) : Int))] S (wQ S b R n sz (swp ord p) (swl ord pl p) D ex) := by
  obtain ⟨hG, hc, hu, hO, ho⟩ := hR
  have hG0 := hG
  obtain ⟨hA, hP, hM, ⟨ch, hC⟩, ⟨fr, hF⟩, hL, hU, hUR, hU2, hz⟩ := hG
  have hwf := hvC.1
  have hn10 := hwf.1
  have han := (ho.1 p (by omega)).1
  have hen := (ho.1 (p + 1) hp).1
  have hO1 := hO.1 p (by omega)
  have hO2 : SI S 53 (p + 1) = ((ord (p + 1) : Nat) : Int) := hO.1 (p + 1) hp
  obtain ⟨q, hqd⟩ : ∃ q, q = gOut n sz D (ord p) (ord (p + 1)) ch 64 := ⟨_, rfl⟩
  have hgo := gOK_out (e := ord (p + 1)) hP hC han (i := 64) (Nat.le_refl _)
  rw [← hqd] at hgo
  have hql := gOK_le hP hgo
  have hcU := cntB_le (dl D) U
  have hpd0 : pdF n sz ord D (ord p) (ord (p + 1)) p (fun x => ∃ j, 0 ≤ j ∧ j < q.1 ∧ q.2 j = x) := fun x ⟨j, _, h1, h2⟩ => by
    obtain ⟨k1, k2, k3, _⟩ := hgo.1 j h1
    rw [h2] at k1 k2 k3
    exact ⟨k1, k2, k3, fun q9 hq9 => fpl_no (by rw [cn_p hwf ho hP hc (by omega) k1 k2]; exact hq9)⟩
  have hmx0 : mxO n sz ord D p (fun x => ∃ j, 0 ≤ j ∧ j < q.1 ∧ q.2 j = x) := fun x hx => by
    obtain ⟨h1, h2⟩ := cn_fpl hwf ho hP hc hx
    by_cases c1 : fpl n sz ord (ds D x) = p
    · cases hd : dpT n sz (ds D x) (ord (p + 1)) with
      | true =>
        have h3 := hc_lt (hsI (fun k => ((dk D x k : Nat) : Int)) (sz (dv D x)))
        obtain ⟨j, k1, k2⟩ := hgo.2.2 x hx (by rw [h2, c1]) hd (Or.inl (by unfold dch; rw [h2, c1] at *; omega))
        exact Or.inl ⟨j, Nat.zero_le _, k1, k2⟩
      | false =>
        refine Or.inr ?_
        have h3 := fpl_dep h1
        rw [c1] at h3
        rw [fpl_sw2 (ord := ord) hp (fun q9 hq9 => fpl_no (by rw [c1]; exact hq9)) hd h3, swp_s, h2, c1]
    · refine Or.inr ?_
      have h3 := fpl_dep h1
      by_cases c2 : fpl n sz ord (ds D x) = p + 1
      · rw [c2] at h3
        rw [fpl_sw (ord := ord) hp (fun q9 hq9 => fpl_no (by rw [c2]; omega)) h3, swp_p, h2, c2]
      · have h4 : fpl n sz (swp ord p) (ds D x) = fpl n sz ord (ds D x) := fpl_eq h1 (by rw [swp_n c1 c2]; exact h3) (fun q9 hq9 => by
          by_cases c3 : q9 = p
          · rw [c3, swp_p]
            exact fpl_no (by omega)
          · by_cases c4 : q9 = p + 1
            · rw [c4, swp_s]
              exact fpl_no (by omega)
            · rw [swp_n c3 c4]
              exact fpl_no hq9)
        rw [h4, swp_n c1 c2]
        exact h2
  have hGq := dG_qW (q := q) hG0
  obtain ⟨S0, hS0⟩ : ∃ S0, S0 = S := ⟨S, rfl⟩
  have hqq : ∀ (v : Option Value) (S' : ST), wQ S0 b R n sz (swp ord p) (swl ord pl p) D ex v S' → wQ S b R n sz (swp ord p) (swl ord pl p) D ex v S' := fun v S' h => by rw [← hS0]; exact h
  refine sM.weaken ?_ hqq
  have hvC0 : vC S0 n sz := by rw [hS0]; exact hvC
  have hO0 : oC S0 n ord pl := by rw [hS0]; exact hO
  clear hqq
  have hb58 := hA.1
  have hR1 := hA.2.1
  have hR2 := hA.2.2.1
  refine sIni (ls := [some (.ref 52), some (.int (iI ((p : Nat) : Int))), none, none, none, none]) rfl ?_
  refine sL (pc' := 1) (i := .iload_n 1) rfl rfl ?_
  refine sIf_lt (p := 4) rfl rfl ⟨by omega, by omega⟩ (fun c1 => ?_) (fun c1 => ?_)
  · exfalso; omega
  · have c1 := c1
    refine sL (pc' := 5) (i := .iload_n 1) rfl rfl ?_
    refine sKi (p := 6) rfl rfl ?_
    refine sAd (p := 7) rfl rfl ?_
    refine sL (pc' := 8) (i := .aload_n 0) rfl rfl ?_
    refine sGc (p := 11) rfl rfl (sk_52 _) rfl rfl rfl ?_
    refine sGi (p := 14) rfl rfl (sk_1 _) rfl rfl rfl hvC.2.1 ?_
    refine sIc_lt (p := 17) rfl rfl ⟨by omega, by omega⟩ ⟨by omega, by omega⟩ (fun c2 => ?_) (fun c2 => ?_)
    · have c2 := c2
      refine sL (pc' := 19) (i := .aload_n 0) rfl rfl ?_
      refine sGc (p := 22) rfl rfl (sk_52 _) rfl rfl rfl ?_
      refine sL (pc' := 23) (i := .iload_n 1) rfl rfl ?_
      refine sAi (p := 24) (i := p) rfl rfl (sk_53 _) (by omega) ⟨by omega, by omega⟩ hO1 ?_
      refine sL (pc' := 25) (i := .istore_n 2) (ls' := [some (.ref 52), some (.int (iI ((p : Nat) : Int))), some (.int (iI ((ord p : Nat) : Int))), none, none, none]) rfl rfl ?_
      refine sL (pc' := 26) (i := .aload_n 0) rfl rfl ?_
      refine sGc (p := 29) rfl rfl (sk_52 _) rfl rfl rfl ?_
      refine sL (pc' := 30) (i := .iload_n 1) rfl rfl ?_
      refine sKi (p := 31) rfl rfl ?_
      refine sAd (p := 32) rfl rfl ?_
      refine sAi (p := 33) (i := p + 1) rfl rfl (sk_53 _) (by omega) ⟨by omega, by omega⟩ hO2 ?_
      refine sL (pc' := 34) (i := .istore_n 3) (ls' := [some (.ref 52), some (.int (iI ((p : Nat) : Int))), some (.int (iI ((ord p : Nat) : Int))), some (.int (iI ((ord (p + 1) : Nat) : Int))), none, none]) rfl rfl ?_
      refine sL (pc' := 35) (i := .aload_n 0) rfl rfl ?_
      refine sL (pc' := 36) (i := .iload_n 2) rfl rfl ?_
      refine sL (pc' := 37) (i := .iload_n 3) rfl rfl ?_
      refine sCv (p := 40) (as := [_, _]) rfl rfl rfl rfl (by decide) (Nat.le_of_ble_eq_true rfl) rfl (Nat.le_of_ble_eq_true rfl) (sk_52 _) rfl (by omega) (c_gather (p := p) hvC hG0 hC ho hc hp rfl rfl) ?_
      rw [← hqd]
      refine sL (pc' := 42) (i := .istore 4) (ls' := [some (.ref 52), some (.int (iI ((p : Nat) : Int))), some (.int (iI ((ord p : Nat) : Int))), some (.int (iI ((ord (p + 1) : Nat) : Int))), some (.int (iI ((q.1 : Nat) : Int))), none]) rfl rfl ?_
      refine sKi (p := 43) rfl rfl ?_
      refine sL (pc' := 45) (i := .istore 5) (ls' := [some (.ref 52), some (.int (iI ((p : Nat) : Int))), some (.int (iI ((ord p : Nat) : Int))), some (.int (iI ((ord (p + 1) : Nat) : Int))), some (.int (iI ((q.1 : Nat) : Int))), some (.int (iI 0))]) rfl rfl ?_
      refine sItR (A := fun i => [some (.ref 52), some (.int (iI ((p : Nat) : Int))), some (.int (iI ((ord p : Nat) : Int))), some (.int (iI ((ord (p + 1) : Nat) : Int))), some (.int (iI ((q.1 : Nat) : Int))), some (.int (iI ((i : Nat) : Int)))]) (fun i S => ∃ b1 R1 D1 U1, dG S b1 R1 n sz D1 ex 0 U1 ∧ mxO n sz ord D1 p (fun x => ∃ j, i ≤ j ∧ j < q.1 ∧ q.2 j = x) ∧ pdF n sz ord D1 (ord p) (ord (p + 1)) p (fun x => ∃ j, i ≤ j ∧ j < q.1 ∧ q.2 j = x) ∧ uO sz D1 0 U1 ex ∧ (∀ x, 0 < ex x → ds D1 x = ds D x) ∧ cntB (dl D1) U1 ≤ cntB (dl D) U + 6 * i ∧ (∀ j, j < q.1 → SI S (b1 + 4) j = ((q.2 j : Nat) : Int)) ∧ SI S 53 = SI S0 53 ∧ SI S 54 = SI S0 54 ∧ frD b R S0 b1 R1 S ∧ R ≤ R1) q.1 (⟨b, R, D, U, hGq, hmx0, hpd0, hu, fun _ _ => rfl, by omega, fun j hj => by unfold qW; rw [rA_at, if_pos hj], by rw [hS0]; exact funext fun j => qW_ne (by omega) j, by rw [hS0]; exact funext fun j => qW_ne (by omega) j, by rw [hS0]; exact ⟨⟨[], (List.append_nil _).symm⟩, fun _ _ => rfl, fun _ _ => rfl, fun c _ q1 q2 => funext fun j => qW_ne (by omega) j, Or.inl rfl, Nat.le_refl _, rfl, Nat.le_refl _⟩, Nat.le_refl _⟩) (fun i hi45 Sa hJ45 ih45 => ?_) (fun Saf hJ45 => ?_)
      · have hi45 := hi45
        obtain ⟨b1, R1, D1, U1, hGa, hma, hpa, hua, hsa, hna, hqa, h53a, h54a, hfa, hRa⟩ := hJ45
        refine sL (pc' := 47) (i := .iload 5) rfl rfl ?_
        refine sL (pc' := 49) (i := .iload 4) rfl rfl ?_
        refine sIc_ge (p := 52) rfl rfl ⟨by omega, by omega⟩ ⟨by omega, by omega⟩ (fun c3 => ?_) (fun c3 => ?_)
        · exfalso; omega
        · have c3 := c3
          refine sL (pc' := 53) (i := .aload_n 0) rfl rfl ?_
          refine sCvQ (p := 56) (as := []) rfl rfl rfl rfl (by decide) (Nat.le_of_ble_eq_true rfl) rfl (Nat.le_of_ble_eq_true rfl) (sk_52 _) rfl (by omega) (c_makeRoom hwf hGa (by show _ + 0 ≤ _; omega)) ?_
          rintro _ Sm ⟨rfl, b2, R2, hG2, hr2, hf2, hqm2, h57⟩
          have hr2 : cntB (dl D1) U1 + 0 + 8 ≤ R2 := hr2
          have hq2 : SI Sm (b2 + 4) i = ((q.2 i : Nat) : Int) := (hqm2 i (by omega)).trans (hqa i hi45)
          have hR22 := hG2.1.2.1
          have hf12 := frD_trans hfa hf2
          have hRR := hf2.2.2.2.2.2.1
          refine sL (pc' := 57) (i := .aload_n 0) rfl rfl ?_
          refine sL (pc' := 58) (i := .aload_n 0) rfl rfl ?_
          refine sGr (p := 61) rfl rfl (sk_52 _) rfl rfl rfl hG2.1.2.2.2.2.2.2.2.1 ?_
          refine sL (pc' := 63) (i := .iload 5) rfl rfl ?_
          refine sAi (p := 64) (i := i) rfl rfl hG2.1.2.2.2.2.2.2.2.2.2.2.2.2.2.1 (by omega) ⟨by omega, by omega⟩ hq2 ?_
          refine sL (pc' := 65) (i := .iload_n 2) rfl rfl ?_
          refine sL (pc' := 66) (i := .iload_n 3) rfl rfl ?_
          refine sCvQ (p := 69) (as := [_, _, _]) rfl rfl rfl rfl (by decide) (Nat.le_of_ble_eq_true rfl) rfl (Nat.le_of_ble_eq_true rfl) (sk_52 _) rfl (by omega) (c_turn (nd := q.2 i) (p := p) (Pd := fun x => ∃ j, i ≤ j ∧ j < q.1 ∧ q.2 j = x) (frD_vC hf12 hb58 hvC0) hG2 ho hp rfl rfl ⟨i, Nat.le_refl _, hi45, rfl⟩ hpa hma hua (by omega) hexb) ?_
          rintro _ St ⟨rfl, D3, U3, hG3, hs3, hm3, hp3, hu3, hn3, hf3⟩
          refine sInX (z := ((i : Nat) : Int)) (ls' := [some (.ref 52), some (.int (iI ((p : Nat) : Int))), some (.int (iI ((ord p : Nat) : Int))), some (.int (iI ((ord (p + 1) : Nat) : Int))), some (.int (iI ((q.1 : Nat) : Int))), some (.int (iI (((i : Nat) : Int) + 1)))]) (p := 72) rfl rfl (Nat.le_of_ble_eq_true rfl) rfl rfl ?_
          refine sL (i := .goto (-27)) rfl rfl ?_
          refine sFg (ls := [some (.ref 52), some (.int (iI ((p : Nat) : Int))), some (.int (iI ((ord p : Nat) : Int))), some (.int (iI ((ord (p + 1) : Nat) : Int))), some (.int (iI ((q.1 : Nat) : Int))), some (.int (iI ((i + 1 : Nat) : Int)))]) (xx_ll_le (And.intro rfl (And.intro rfl (And.intro rfl (And.intro rfl (And.intro rfl (And.intro rfl (True.intro)))))))) (ih45 _ ?_)
          have hb2 := hG2.1.1
          refine ⟨b2, R2, D3, U3, hG3, fun x hx => ?_, fun x hx => ?_, hu3, fun x hx => ?_, by omega, fun j hj => ?_, ?_, ?_, frD_trans hf12 (frD_T hf3), by omega⟩
          · rcases hm3 x hx with ⟨⟨j, k1, k2, k3⟩, k4⟩ | h
            · refine Or.inl ⟨j, ?_, k2, k3⟩
              have : j ≠ i := fun z => k4 (by rw [← k3, z])
              omega
            · exact Or.inr h
          · obtain ⟨j, k1, k2, k3⟩ := hx
            have hne : x ≠ q.2 i := fun z => by have := hgo.2.1 j i k2 hi45 (k3.trans z); omega
            obtain ⟨m1, m2, m3, m4⟩ := hpa x ⟨j, by omega, k2, k3⟩
            obtain ⟨l1, l2⟩ := hp3 x ⟨j, by omega, k2, k3⟩ hne
            rw [hs3 x (Or.inr (Or.inl m1))]
            exact ⟨l1, l2.trans m2, m3, m4⟩
          · rw [hs3 x (hG2.2.2.1.2.2.2.2.2 x hx)]
            exact hsa x hx
          · rw [hf3.2.2.2 (b2 + 4) (by omega) (by omega) (by omega) (by omega) (by omega) (by omega) (by omega) (by omega), hqm2 j (by omega)]
            exact hqa j hj
          · rw [hf3.2.2.2 53 (by omega) (by omega) (by omega) (by omega) (by omega) (by omega) (by omega) (by omega), h57 53 (by omega) (by omega)]
            exact h53a
          · rw [hf3.2.2.2 54 (by omega) (by omega) (by omega) (by omega) (by omega) (by omega) (by omega) (by omega), h57 54 (by omega) (by omega)]
            exact h54a
      · have hJ45 := hJ45
        obtain ⟨b1, R1, D1, U1, hGf, hmf, hpf, huf, hsf, hnf, hqf, h53f, h54f, hff, hRf⟩ := hJ45
        refine sL (pc' := 47) (i := .iload 5) rfl rfl ?_
        refine sL (pc' := 49) (i := .iload 4) rfl rfl ?_
        refine sIc_ge (p := 52) rfl rfl ⟨by omega, by omega⟩ ⟨by omega, by omega⟩ (fun c4 => ?_) (fun c4 => ?_)
        · have c4 := c4
          refine sL (pc' := 76) (i := .aload_n 0) rfl rfl ?_
          refine sGc (p := 79) rfl rfl (sk_52 _) rfl rfl rfl ?_
          refine sL (pc' := 80) (i := .iload_n 1) rfl rfl ?_
          refine sL (pc' := 81) (i := .iload_n 3) rfl rfl ?_
          refine sWi (p := 82) (i := p) rfl rfl (sk_53 _) (by omega) ⟨by omega, by omega⟩ ?_
          refine sL (pc' := 83) (i := .aload_n 0) rfl rfl ?_
          refine sGc (p := 86) rfl rfl (sk_52 _) rfl rfl rfl ?_
          refine sL (pc' := 87) (i := .iload_n 1) rfl rfl ?_
          refine sKi (p := 88) rfl rfl ?_
          refine sAd (p := 89) rfl rfl ?_
          refine sL (pc' := 90) (i := .iload_n 2) rfl rfl ?_
          refine sWi (p := 91) (i := p + 1) rfl rfl (sk_53 _) (by omega) ⟨by omega, by omega⟩ ?_
          refine sL (pc' := 92) (i := .aload_n 0) rfl rfl ?_
          refine sGc (p := 95) rfl rfl (sk_52 _) rfl rfl rfl ?_
          refine sL (pc' := 96) (i := .iload_n 3) rfl rfl ?_
          refine sL (pc' := 97) (i := .iload_n 1) rfl rfl ?_
          refine sWi (p := 98) (i := ord (p + 1)) rfl rfl (sk_54 _) (by omega) ⟨by omega, by omega⟩ ?_
          refine sL (pc' := 99) (i := .aload_n 0) rfl rfl ?_
          refine sGc (p := 102) rfl rfl (sk_52 _) rfl rfl rfl ?_
          refine sL (pc' := 103) (i := .iload_n 2) rfl rfl ?_
          refine sL (pc' := 104) (i := .iload_n 1) rfl rfl ?_
          refine sKi (p := 105) rfl rfl ?_
          refine sAd (p := 106) rfl rfl ?_
          refine sWi (p := 107) (i := ord p) rfl rfl (sk_54 _) (by omega) ⟨by omega, by omega⟩ ?_
          refine sEn (i := .return_) rfl (rfl) ?_
          have hb1 := hGf.1.1
          refine ⟨rfl, b1, R1, D1, U1, ⟨dG_w (by omega) (dG_w (by omega) (dG_w (by omega) (dG_w (by omega) hGf))), fun x hx => ?_, huf, ⟨fun q9 hq9 => ?_, fun v hv => ?_⟩, swp_prm ho hp⟩, hsf, frD_trans hff (frD_trans (frD_wI (Or.inl (by omega))) (frD_trans (frD_wI (Or.inl (by omega))) (frD_trans (frD_wI (Or.inl (by omega))) (frD_wI (Or.inl (by omega))))))⟩
          · rcases hmf x hx with ⟨j, k1, k2, k3⟩ | h
            · omega
            · exact h
          · rw [rI_ne (by decide), rI_ne (by decide)]
            by_cases c1 : q9 = p + 1
            · rw [c1, rI_at, swp_s]
            · rw [rI_nj c1]
              by_cases c2 : q9 = p
              · rw [c2, rI_at, swp_p]
              · rw [rI_nj c2, swp_n c2 c1, h53f]
                exact hO0.1 q9 hq9
          · unfold swl
            have hne : ord p ≠ ord (p + 1) := ord_ne ho (by omega) hp (by omega)
            by_cases c1 : v = ord p
            · rw [c1, rI_at, if_neg hne, if_pos rfl]
              omega
            · rw [rI_nj c1]
              by_cases c2 : v = ord (p + 1)
              · rw [c2, rI_at, if_pos rfl]
              · rw [rI_nj c2, rI_ne (by decide), rI_ne (by decide), h54f, if_neg c2, if_neg c1]
                exact hO0.2 v hv
        · exfalso; omega
    · exfalso; omega
end DY
