/-! ===== the class: print, printed ===== -/
section CB
variable {X : List Int32} {S : ST} {L : List Nat} {m n b R U fn : Nat} {sz ord pl rt : Nat → Nat} {D : DT} {Fn : Nat → Nat → Bool}
theorem leaf_v (hw : wf n sz) (hP : dP n sz D 0 U) {x : Nat} (hx : x < 2) : lfv (pr sz n) (ds D x) = ((x : Nat) : Int) := by
  have hT := hw.2.2
  have h0 := hw.pos (Nat.le_refl n)
  have h2 : x = 0 ∨ x = 1 := by omega
  rcases h2 with h2 | h2
  · rw [h2, hP.2.2.2.2.1, (lfv_0 hT h0 (fun _ _ => rfl)).mpr (fun _ _ => rfl)]
    rfl
  · rw [h2, hP.2.2.2.2.2.1, (lfv_1 (f := evr (pr sz n)) hT h0 (fun r hr => decide_eq_false (by omega))).mpr (fun r hr => decide_eq_true hr)]
    rfl
/-- the code of a kid is its number -/
theorem kid_cd {x j k : Nat} {q : Nat → Nat} (hw : wf n sz) (ho : prm n ord pl) (hP : dP n sz D 0 U) (hUR : U ≤ R) (hR2 : 64 ≤ R) (hc : cnO n sz ord D) (hx : dl D x = true) (hnu : nuM S b R D (NF n sz ord (ds D x)) (LF n sz ord (ds D x)) q) (hj : j < NF n sz ord (ds D x)) (hk : k < sz (dv D (q j))) : dk D (q j) k < R ∧ (dk D (q j) k ≤ 1 → prC n sz ord (ds D x) j k = dk D (q j) k) ∧ (1 < dk D (q j) k → SI S (b + 3) (dk D (q j) k) = ((prC n sz ord (ds D x) j k : Nat) : Int)) := by
  have htx := (hP.2.2.1 x hx).2.1
  have hNF := NF_ok (F := fun _ => ds D x) (m := 1) (f0 := 0) hw ho (by decide) (by decide) htx
  obtain ⟨hql, hqs, -, -⟩ := hnu.1 j hj
  have hv : dv D (q j) = prV n sz ord (ds D x) j := by
    rw [hc _ hql, hqs]
    rfl
  obtain ⟨hok, hds⟩ := hP.2.2.2.1 (q j) hql k hk
  rw [hqs, hv] at hds
  have h2 := (hP.1 (q j) hql).2.1
  have hlt : dk D (q j) k < R := by
    rcases hok with z | z | z
    · omega
    · have := (hP.1 _ z).2.1
      omega
    · omega
  refine ⟨hlt, fun h1 => ?_, fun h1 => ?_⟩
  · have hlf := leaf_v hw hP (x := dk D (q j) k) (by omega)
    rw [hds] at hlf
    unfold prC cdN
    rw [if_pos (by rw [hlf]; omega), hlf]
    rfl
  · have hly : dl D (dk D (q j) k) = true := by
      rcases hok with z | z | z
      · omega
      · exact z
      · omega
    have hlf := live_lf hw hP hly
    rw [hds] at hlf
    rw [hv] at hk
    have hL0 : ∀ i, i < (addN (pr sz n) 0 L0 (ds D x)).1 → tbT (pr sz n) ((addN (pr sz n) 0 L0 (ds D x)).2 i) := fun i hi => by
      rcases addN_of hi with z | z
      · exact absurd z.1 (Nat.not_lt_zero _)
      · rw [z.1]
        exact htx
    obtain ⟨i, hi, hLi⟩ := bfs_sup hw.2.2 hL0 hNF.1 hj hk hlf
    have hLi : LF n sz ord (ds D x) i = cof n sz (LF n sz ord (ds D x) j) (prV n sz ord (ds D x) j) k := hLi
    obtain ⟨hil, his, -, hin⟩ := hnu.1 i hi
    have hqi : q i = dk D (q j) k := hP.2.2.2.2.2.2 _ _ (Or.inr (Or.inl hil)) hok (by rw [his, hLi, hds])
    rw [← hqi, hin]
    unfold prC cdN
    rw [if_neg (fun z => z hlf), fbF_eq (i := i) hi (by rw [hLi]; exact eqW_refl _) (fun p hp => by rw [← hLi]; exact hNF.2.2.2 p i hp hi)]
    show ((i + 2 : Nat) : Int) = (((((i : Nat) : Int) + 2).toNat : Nat) : Int)
    omega
theorem sbB_Q {S' : ST} (hA : dA S b R) (h : sbB S L m) (f : frQ b S S') : sbB S' L m := by
  have hb := hA.1
  unfold sbB at *
  rw [f.2.2.2 177 (by omega) (by omega), f.2.2.2 178 (by omega) (by omega)]
  exact h
theorem dRF_g {S' : ST} (h : dRF S b R n sz ord pl D U fn rt Fn) (hA' : dA S' b R) (e52 : SI S' 52 = SI S 52) (e53 : SI S' 53 = SI S 53) (e54 : SI S' 54 = SI S 54) (e55 : SI S' 55 = SI S 55) (e0 : SI S' b = SI S b) (e1 : SI S' (b + 1) = SI S (b + 1)) (e2 : SI S' (b + 2) = SI S (b + 2)) (e5 : SI S' (b + 5) = SI S (b + 5)) (hz : ∀ x, x < R → SI S' (b + 3) x = 0) : dRF S' b R n sz ord pl D U fn rt Fn := by
  obtain ⟨⟨hG, hc, hu, hO, ho⟩, hrest⟩ := h
  refine ⟨⟨?_, hc, hu, ?_, ho⟩, hrest⟩
  · obtain ⟨hA, hP, hM, hC, hF, hL, hU, hUR, hU2, _⟩ := hG
    refine ⟨hA', hP, ?_, ?_, ?_, ?_, ?_, hUR, hU2, hz⟩
    · unfold dM at *
      rw [e0, e1, e5]
      exact hM
    · unfold dC at *
      rw [e2, e55]
      exact hC
    · unfold dF at *
      rw [e2, e52]
      exact hF
    · rw [e52]
      exact hL
    · rw [e52]
      exact hU
  · unfold oC at *
    rw [e53, e54]
    exact hO
theorem low_U {S' : ST} {m' c : Nat} (h : frU S S' m m') (hc : c < 177) : SI S' c = SI S c := U_I h (Or.inl hc)
theorem dRF_U {S' : ST} {m' : Nat} (h : dRF S b R n sz ord pl D U fn rt Fn) (f : frU S S' m m') : dRF S' b R n sz ord pl D U fn rt Fn := by
  have hA := h.1.1.1
  have hb := hA.1
  have hz := h.1.1.2.2.2.2.2.2.2.2.2
  have e3 : SI S' (b + 3) = SI S (b + 3) := U_I f (by omega)
  refine dRF_g h (dA_U hA f) (low_U f (by decide)) (low_U f (by decide)) (low_U f (by decide)) (low_U f (by decide)) (U_I f (by omega)) (U_I f (by omega)) (U_I f (by omega)) (U_I f (by omega)) (fun x hx => ?_)
  rw [e3]
  exact hz x hx
theorem c_writeNodes {f : Nat} (hvC : vC S n sz) (hR : dRF S b R n sz ord pl D U fn rt Fn) (hf : f < fn) (hs : sbT S [] 0 m) : sM X 14 51 [.ref 52, .int (iI ((rt f : Nat) : Int)), .ref 177] S (fun r S' => r = none ∧ ∃ S1 S2 m', frQ b S S1 ∧ frU S1 S2 m m' ∧ frQ b S2 S' ∧ sbT S' (prT n sz ord (Fn f)) 20000 m' ∧ dRF S' b R n sz ord pl D U fn rt Fn) := by
  have hR0 := hR
  obtain ⟨⟨hG, hc, hu, hO, ho⟩, hrt, h40, htb⟩ := hR
  have hw := hvC.1
  obtain ⟨h1, h2⟩ := hrt f hf
  have hUR := hG.2.2.2.2.2.2.2.1
  have hU := hG.2.2.2.2.2.2.1
  have hA := hG.1
  have hb58 := hA.1
  have hR1 := hA.2.1
  have hR2 := hA.2.2.1
  have hz := hG.2.2.2.2.2.2.2.2.2
  have hP := hG.2.1
  have hM := hG.2.2.1
  by_cases cl : dl D (rt f) = true
  · have hxU := hP.1 _ cl
    have hNF := NF_ok (F := Fn) hw ho h40 hf (htb f hf)
    have h380 := NF_380 hw ho (htb f hf)
    have hW := NF_W hw ho (htb f hf)
    have hprT : prT n sz ord (Fn f) = ndsT (prV n sz ord (Fn f)) (prC n sz ord (Fn f)) sz (NF n sz ord (Fn f)) := by
      unfold prT
      rw [if_pos (by rw [← h2]; exact live_lf hw hP cl), List.nil_append]
    have hE := hNF.1
    rw [← h2] at hE h380 hprT hW
    rw [← h2, hprT]
    refine sIni (ls := [some (.ref 52), some (.int (iI ((rt f : Nat) : Int))), some (.ref 177), none, none]) rfl ?_
    refine sL (pc' := 1) (i := .aload_n 0) rfl rfl ?_
    refine sL (pc' := 2) (i := .iload_n 1) rfl rfl ?_
    refine sCv (p := 5) (as := [_]) rfl rfl rfl rfl (by decide) (Nat.le_of_ble_eq_true rfl) rfl (Nat.le_of_ble_eq_true rfl) (sk_52 _) rfl (by omega) (c_isNode hU (by omega) (by omega)) ?_
    refine sBn (p := 8) rfl rfl (fun c1 => ?_) (fun c1 => ?_)
    · have c1 := c1
      have c1 := of_decide_eq_true c1
      refine sL (pc' := 15) (i := .aload_n 0) rfl rfl ?_
      refine sL (pc' := 16) (i := .iload_n 1) rfl rfl ?_
      refine sCvQ (p := 19) (as := [_]) rfl rfl rfl rfl (by decide) (Nat.le_of_ble_eq_true rfl) rfl (Nat.le_of_ble_eq_true rfl) (sk_52 _) rfl (by omega) (c_number hvC hG hc ho cl hE) ?_
      rintro _ S1 ⟨rfl, ⟨q, hnu⟩, hf1⟩
      have hnu : nuM S1 b R D (NF n sz ord (ds D (rt f))) (LF n sz ord (ds D (rt f))) q := hnu
      have hA1 := frQ_A hf1 hA
      have hv1 := frQ_vC hf1 hb58 hvC
      have hs1 : sbT S1 [] 0 m := ⟨sbB_Q hA hs.1 hf1, hs.2⟩
      have r4 : ∀ {T : ST} {m1 : Nat}, frU S1 T m m1 → SI T (b + 4) = SI S1 (b + 4) := fun h => U_I h (by omega)
      have r0 : ∀ {T : ST} {m1 : Nat}, frU S1 T m m1 → SI T b = SI S b := fun h => (U_I h (by omega)).trans (hf1.2.2.2 b (by omega) (by omega))
      have r3 : ∀ {T : ST} {m1 : Nat}, frU S1 T m m1 → SI T (b + 3) = SI S1 (b + 3) := fun h => U_I h (by omega)
      have r5 : ∀ {T : ST} {m1 : Nat}, frU S1 T m m1 → SI T (b + 5) = SI S (b + 5) := fun h => (U_I h (by omega)).trans (hf1.2.2.2 (b + 5) (by omega) (by omega))
      have hcd := fun j k hj hk => kid_cd (j := j) (k := k) hw ho hP hUR hR1 hc cl hnu hj hk
      refine sL (pc' := 20) (i := .istore_n 3) (ls' := [some (.ref 52), some (.int (iI ((rt f : Nat) : Int))), some (.ref 177), some (.int (iI ((NF n sz ord (ds D (rt f)) : Nat) : Int))), none]) rfl rfl ?_
      refine sKi (p := 21) rfl rfl ?_
      refine sL (pc' := 23) (i := .istore 4) (ls' := [some (.ref 52), some (.int (iI ((rt f : Nat) : Int))), some (.ref 177), some (.int (iI ((NF n sz ord (ds D (rt f)) : Nat) : Int))), some (.int (iI 0))]) rfl rfl ?_
      refine sItR (A := fun i => [some (.ref 52), some (.int (iI ((rt f : Nat) : Int))), some (.ref 177), some (.int (iI ((NF n sz ord (ds D (rt f)) : Nat) : Int))), some (.int (iI ((i : Nat) : Int)))]) (fun i S => ∃ mi, sbT S (ndsT (prV n sz ord (ds D (rt f))) (prC n sz ord (ds D (rt f))) sz i) (sumN (fun j => 9 + 4 * sz ((prV n sz ord (ds D (rt f))) j)) i) mi ∧ frU S1 S m mi) (NF n sz ord (ds D (rt f))) (⟨m, ⟨hs1.1, Nat.le_refl _⟩, frU_refl _ _⟩) (fun i hi23 Sk hJ23 ih23 => ?_) (fun Skf hJ23 => ?_)
      · have hi23 := hi23
        obtain ⟨mi, ht24, hu24⟩ := hJ23
        obtain ⟨hql, hqs, hqq, hqn⟩ := hnu.1 i hi23
        have hqU := hP.1 _ hql
        have hiR : i < R := by
          have h1 := nu_le hP hnu
          have h2 := cntB_le (dl D) U
          omega
        have hdv : dv D (q i) = (prV n sz ord (ds D (rt f))) i := by
          rw [hc _ hql, hqs]
          rfl
        have h3 := h380.1
        have hWs : sumN (fun j => 9 + 4 * sz ((prV n sz ord (ds D (rt f))) j)) (i + 1) = sumN (fun j => 9 + 4 * sz ((prV n sz ord (ds D (rt f))) j)) i + (9 + 4 * sz ((prV n sz ord (ds D (rt f))) i)) := rfl
        have hWb := hW (i + 1) (by omega)
        have hcb : ∀ k, (prC n sz ord (ds D (rt f))) i k < 1000 := fun k => by
          have hb9 := cdN_b (L := LF n sz ord (ds D (rt f))) (T := pr sz n) (N := NF n sz ord (ds D (rt f))) (q := cof n sz (LF n sz ord (ds D (rt f)) i) ((prV n sz ord (ds D (rt f))) i) k)
          show Int.toNat (cdN (pr sz n) (NF n sz ord (ds D (rt f))) (LF n sz ord (ds D (rt f))) (cof n sz (LF n sz ord (ds D (rt f)) i) ((prV n sz ord (ds D (rt f))) i) k)) < 1000
          omega
        have hM1 : SI S b (q i) = (((prV n sz ord (ds D (rt f))) i : Nat) : Int) := by rw [← hdv]; exact hM.1 _ hql
        have hMk : ∀ k, k < sz ((prV n sz ord (ds D (rt f))) i) → SI S (b + 5) (q i * 6 + k) = ((dk D (q i) k : Nat) : Int) := by rw [← hdv]; exact hM.2.2.2.1 _ hql
        have hck := fun k hk => hcd i k hi23 hk
        rw [hdv] at hck
        refine sL (pc' := 25) (i := .iload 4) rfl rfl ?_
        refine sL (pc' := 26) (i := .iload_n 3) rfl rfl ?_
        refine sIc_ge (p := 29) rfl rfl ⟨by omega, by omega⟩ ⟨by omega, by omega⟩ (fun c2 => ?_) (fun c2 => ?_)
        · exfalso; omega
        · have c2 := c2
          refine sL (pc' := 31) (i := .iload 4) rfl rfl ?_
          refine sIf_le (p := 34) rfl rfl ⟨by omega, by omega⟩ (fun c3 => ?_) (fun c3 => ?_)
          · have c3 := c3
            refine sL (pc' := 41) (i := .aload_n 0) rfl rfl ?_
            refine sL (pc' := 42) (i := .aload_n 0) rfl rfl ?_
            refine sGr (p := 45) rfl rfl (sk_52 _) rfl rfl rfl (dA_U hA1 hu24).2.2.2.2.2.2.2.1 ?_
            refine sL (pc' := 47) (i := .iload 4) rfl rfl ?_
            refine sAi (p := 48) (i := i) rfl rfl (dA_U hA1 hu24).2.2.2.2.2.2.2.2.2.2.2.2.2.1 (by omega) ⟨by omega, by omega⟩ ((congrFun (r4 hu24) _).trans hqq) ?_
            refine sL (pc' := 49) (i := .aload_n 2) rfl rfl ?_
            refine sCvQ (p := 52) (as := [_, _]) rfl rfl rfl rfl (by decide) (Nat.le_of_ble_eq_true rfl) rfl (Nat.le_of_ble_eq_true rfl) (sk_52 _) rfl (by omega) (sM.deeper (c_writeNode (x := q i) (j := i) (v := (prV n sz ord (ds D (rt f))) i) (kk := fun k => dk D (q i) k) (cd := (prC n sz ord (ds D (rt f))) i) (vC_U hv1 hu24) (dA_U hA1 hu24) (by omega) (by omega) ((congrFun (r3 hu24) _).trans hqn) ((congrFun (r0 hu24) _).trans hM1) (h380.2 i hi23) (fun k hk => ⟨(congrFun (r5 hu24) _).trans (hMk k hk), (hck k hk).1, (hck k hk).2.1, fun z => (congrFun (r3 hu24) _).trans ((hck k hk).2.2 z), hcb k⟩) ht24 (by omega)) (d' := 13) (by decide)) ?_
            rintro _ P2 ⟨rfl, m2, t2, f2⟩
            have u2 := frU_trans hu24 f2
            refine sInX (z := ((i : Nat) : Int)) (ls' := [some (.ref 52), some (.int (iI ((rt f : Nat) : Int))), some (.ref 177), some (.int (iI ((NF n sz ord (ds D (rt f)) : Nat) : Int))), some (.int (iI (((i : Nat) : Int) + 1)))]) (p := 55) rfl rfl (Nat.le_of_ble_eq_true rfl) rfl rfl ?_
            refine sL (i := .goto (-32)) rfl rfl ?_
            refine sFg (ls := [some (.ref 52), some (.int (iI ((rt f : Nat) : Int))), some (.ref 177), some (.int (iI ((NF n sz ord (ds D (rt f)) : Nat) : Int))), some (.int (iI ((i + 1 : Nat) : Int)))]) (xx_ll_le (And.intro rfl (And.intro rfl (And.intro rfl (And.intro rfl (And.intro rfl (True.intro))))))) (ih23 _ ?_)
            refine ⟨_, ?_, u2⟩
            have tt := t2
            have e9 : ndsT (prV n sz ord (ds D (rt f))) (prC n sz ord (ds D (rt f))) sz (i + 1) = ndsT (prV n sz ord (ds D (rt f))) (prC n sz ord (ds D (rt f))) sz i ++ ndT i ((prV n sz ord (ds D (rt f))) i) ((prC n sz ord (ds D (rt f))) i) (sz ((prV n sz ord (ds D (rt f))) i)) := rfl
            rw [e9]
            unfold ndT
            rw [if_neg (by omega)]
            simp only [List.append_assoc, List.nil_append] at tt ⊢
            exact ⟨tt.1, Nat.le_trans tt.2 (by omega)⟩
          · have c3 := c3
            refine sL (pc' := 35) (i := .aload_n 2) rfl rfl ?_
            refine sKb (p := 37) rfl rfl ?_
            refine sCvQ (p := 40) (as := [_]) rfl rfl rfl rfl (by decide) (Nat.le_of_ble_eq_true rfl) rfl (Nat.le_of_ble_eq_true rfl) (sk_177 _) rfl (by omega) (sM.deeper (b_app (c := 32) ht24 (by omega) (by omega)) (d' := 13) (by decide)) ?_
            rintro _ P1 ⟨rfl, m1, t1, f1⟩
            have u1 := frU_trans hu24 f1
            refine sL (pc' := 41) (i := .aload_n 0) rfl rfl ?_
            refine sL (pc' := 42) (i := .aload_n 0) rfl rfl ?_
            refine sGr (p := 45) rfl rfl (sk_52 _) rfl rfl rfl (dA_U hA1 u1).2.2.2.2.2.2.2.1 ?_
            refine sL (pc' := 47) (i := .iload 4) rfl rfl ?_
            refine sAi (p := 48) (i := i) rfl rfl (dA_U hA1 u1).2.2.2.2.2.2.2.2.2.2.2.2.2.1 (by omega) ⟨by omega, by omega⟩ ((congrFun (r4 u1) _).trans hqq) ?_
            refine sL (pc' := 49) (i := .aload_n 2) rfl rfl ?_
            refine sCvQ (p := 52) (as := [_, _]) rfl rfl rfl rfl (by decide) (Nat.le_of_ble_eq_true rfl) rfl (Nat.le_of_ble_eq_true rfl) (sk_52 _) rfl (by omega) (sM.deeper (c_writeNode (x := q i) (j := i) (v := (prV n sz ord (ds D (rt f))) i) (kk := fun k => dk D (q i) k) (cd := (prC n sz ord (ds D (rt f))) i) (vC_U hv1 u1) (dA_U hA1 u1) (by omega) (by omega) ((congrFun (r3 u1) _).trans hqn) ((congrFun (r0 u1) _).trans hM1) (h380.2 i hi23) (fun k hk => ⟨(congrFun (r5 u1) _).trans (hMk k hk), (hck k hk).1, (hck k hk).2.1, fun z => (congrFun (r3 u1) _).trans ((hck k hk).2.2 z), hcb k⟩) t1 (by omega)) (d' := 13) (by decide)) ?_
            rintro _ P2 ⟨rfl, m2, t2, f2⟩
            have u2 := frU_trans u1 f2
            refine sInX (z := ((i : Nat) : Int)) (ls' := [some (.ref 52), some (.int (iI ((rt f : Nat) : Int))), some (.ref 177), some (.int (iI ((NF n sz ord (ds D (rt f)) : Nat) : Int))), some (.int (iI (((i : Nat) : Int) + 1)))]) (p := 55) rfl rfl (Nat.le_of_ble_eq_true rfl) rfl rfl ?_
            refine sL (i := .goto (-32)) rfl rfl ?_
            refine sFg (ls := [some (.ref 52), some (.int (iI ((rt f : Nat) : Int))), some (.ref 177), some (.int (iI ((NF n sz ord (ds D (rt f)) : Nat) : Int))), some (.int (iI ((i + 1 : Nat) : Int)))]) (xx_ll_le (And.intro rfl (And.intro rfl (And.intro rfl (And.intro rfl (And.intro rfl (True.intro))))))) (ih23 _ ?_)
            refine ⟨_, ?_, u2⟩
            have tt := t2
            have e9 : ndsT (prV n sz ord (ds D (rt f))) (prC n sz ord (ds D (rt f))) sz (i + 1) = ndsT (prV n sz ord (ds D (rt f))) (prC n sz ord (ds D (rt f))) sz i ++ ndT i ((prV n sz ord (ds D (rt f))) i) ((prC n sz ord (ds D (rt f))) i) (sz ((prV n sz ord (ds D (rt f))) i)) := rfl
            rw [e9]
            unfold ndT
            rw [if_pos (by omega)]
            simp only [List.append_assoc, List.nil_append] at tt ⊢
            exact ⟨tt.1, Nat.le_trans tt.2 (by omega)⟩
      · have hJ23 := hJ23
        obtain ⟨mi, ht24, hu24⟩ := hJ23
        have hnu2 : nuM Skf b R D (NF n sz ord (ds D (rt f))) (LF n sz ord (ds D (rt f))) q := by
          unfold nuM at *
          rw [r3 hu24, r4 hu24]
          exact hnu
        refine sL (pc' := 25) (i := .iload 4) rfl rfl ?_
        refine sL (pc' := 26) (i := .iload_n 3) rfl rfl ?_
        refine sIc_ge (p := 29) rfl rfl ⟨by omega, by omega⟩ ⟨by omega, by omega⟩ (fun c4 => ?_) (fun c4 => ?_)
        · have c4 := c4
          refine sL (pc' := 59) (i := .aload_n 0) rfl rfl ?_
          refine sL (pc' := 60) (i := .iload_n 3) rfl rfl ?_
          refine sCvQ (p := 63) (as := [_]) rfl rfl rfl rfl (by decide) (Nat.le_of_ble_eq_true rfl) rfl (Nat.le_of_ble_eq_true rfl) (sk_52 _) rfl (by omega) (sM.deeper (c_forget (q := q) (dA_U hA1 hu24) hP hUR hnu2) (d' := 13) (by decide)) ?_
          rintro _ S3 ⟨rfl, hz3, hf3⟩
          refine sEn (i := .return_) rfl (rfl) ?_
          have hd3 : dRF S3 b R n sz ord pl D U fn rt Fn := by
            have g : ∀ c, c < 177 → c ≠ b + 3 → c ≠ b + 4 → SI S3 c = SI S c := fun c h1 h2 h3 => (hf3.2.2.2 c h2 h3).trans ((low_U hu24 h1).trans (hf1.2.2.2 c h2 h3))
            have k1 : SI Skf (b + 1) = SI S1 (b + 1) := U_I hu24 (by omega)
            have k2 : SI Skf (b + 2) = SI S1 (b + 2) := U_I hu24 (by omega)
            refine dRF_g hR0 (frQ_A hf3 (dA_U hA1 hu24)) (g 52 (by decide) (by omega) (by omega)) (g 53 (by decide) (by omega) (by omega)) (g 54 (by decide) (by omega) (by omega)) (g 55 (by decide) (by omega) (by omega)) ((hf3.2.2.2 b (by omega) (by omega)).trans (r0 hu24)) ((hf3.2.2.2 (b + 1) (by omega) (by omega)).trans (k1.trans (hf1.2.2.2 (b + 1) (by omega) (by omega)))) ((hf3.2.2.2 (b + 2) (by omega) (by omega)).trans (k2.trans (hf1.2.2.2 (b + 2) (by omega) (by omega)))) ((hf3.2.2.2 (b + 5) (by omega) (by omega)).trans (r5 hu24)) hz3
          have h9 := hW _ (Nat.le_refl _)
          exact ⟨rfl, S1, Skf, mi, hf1, hu24, hf3, ⟨sbB_Q (dA_U hA1 hu24) ht24.1 hf3, Nat.le_trans ht24.2 (by omega)⟩, hd3⟩
        · exfalso; omega
    · exfalso; have c1 := of_decide_eq_false c1; omega
  · have hx2 : rt f < 2 := by
      rcases h1 with h | h | h
      · exact h
      · exact absurd h cl
      · omega
    have hlf := leaf_v hw hP hx2
    rw [h2] at hlf
    have hNF0 := (NF_leaf (ord := ord) (show lfv (pr sz n) (Fn f) ≠ -1 by rw [hlf]; omega)).2
    have hprT : prT n sz ord (Fn f) = dgt (rt f) := by
      unfold prT dgt
      rw [hNF0, if_neg (by rw [hlf]; omega), hlf, if_pos (by omega)]
      rfl
    rw [hprT]
    refine sIni (ls := [some (.ref 52), some (.int (iI ((rt f : Nat) : Int))), some (.ref 177), none, none]) rfl ?_
    refine sL (pc' := 1) (i := .aload_n 0) rfl rfl ?_
    refine sL (pc' := 2) (i := .iload_n 1) rfl rfl ?_
    refine sCv (p := 5) (as := [_]) rfl rfl rfl rfl (by decide) (Nat.le_of_ble_eq_true rfl) rfl (Nat.le_of_ble_eq_true rfl) (sk_52 _) rfl (by omega) (c_isNode hU (by omega) (by omega)) ?_
    refine sBn (p := 8) rfl rfl (fun c1 => ?_) (fun c1 => ?_)
    · have c1 := c1
      have c1 := of_decide_eq_true c1
      exfalso; omega
    · have c1 := c1
      have c1 := of_decide_eq_false c1
      refine sL (pc' := 9) (i := .aload_n 2) rfl rfl ?_
      refine sL (pc' := 10) (i := .iload_n 1) rfl rfl ?_
      refine sCvQ (p := 13) (as := [_]) rfl rfl rfl rfl (by decide) (Nat.le_of_ble_eq_true rfl) rfl (Nat.le_of_ble_eq_true rfl) (sk_177 _) rfl (by omega) (sM.deeper (b_num (v := rt f) (by omega) hs (by omega)) (d' := 13) (by decide)) ?_
      rintro _ S2 ⟨rfl, m2, t2, f2⟩
      refine sEn (i := .return_) rfl (rfl) ?_
      exact ⟨rfl, S, S2, m2, frQ_refl b S, f2, frQ_refl b S2, ⟨t2.1, Nat.le_trans t2.2 (by decide)⟩, dRF_U hR0 f2⟩
end CB
