/-! ===== the stack machine reads what the levels read ===== -/
section SJ
variable {y : Nat → Nat} {s : Nat} {C : Nat → Int64} {n N : Nat} {sz : Nat → Nat} {Fn : Nat → Nat → Bool} {nm : Nat → Int64}
theorem pVs_ok {i0 : Nat} (h0 : i0 ≤ nT y s) (h : (pVs (tk y s) C n i0 (nVs (tk y s) C n i0)).1 = 0) : (pVs (tk y s) C n i0 (nVs (tk y s) C n i0)).2.1 ≤ nT y s ∧ i0 < (pVs (tk y s) C n i0 (nVs (tk y s) C n i0)).2.1 ∧ ∀ u, u ≤ nVs (tk y s) C n i0 → (pVar (tk y s) C n (avs (tk y s) C n i0 u)).1 = 0 := by
  have h1 := avs_ok (n := n) (C := C) h0 (nVs (tk y s) C n i0) (Nat.le_refl _)
  have h2 := pVs_a (K := tk y s) (C := C) (n := n) (i0 := i0) (nVs (tk y s) C n i0)
  rw [h2.1] at h
  have h3 := pVar_v h
  have l1 := nT_lt h1.1 (by omega) (by omega)
  have l2 := nT_lt (y := y) (s := s) (j := avs (tk y s) C n i0 (nVs (tk y s) C n i0) + 1) (by omega) (by omega) (by omega)
  refine ⟨by rw [h2.2, h3.2.1]; omega, by rw [h2.2, h3.2.1]; omega, fun u hu => ?_⟩
  by_cases c : u = nVs (tk y s) C n i0
  · rw [c]
    exact h
  · have h4 := ((nVs_ok (tk y s) C n i0).2.1 u (by omega)).1
    rw [(pVs_a u).1] at h4
    exact h4
theorem prg_lef : PRG (nT y s) (lef (tk y s) C n sz N Fn nm) := by
  intro i hi
  unfold lef
  by_cases q1 : tk y s i = 260 ∨ tk y s i = 261
  · rw [if_pos q1]
    intro _
    have := nT_lt hi (by omega) (by omega)
    exact ⟨Nat.lt_succ_self _, this⟩
  · rw [if_neg q1]
    by_cases q2 : tk y s i = 258
    · rw [if_pos q2]
      have := nT_lt hi (by omega) (by omega)
      unfold pNam
      split
      · intro z
        cases z
      · intro _
        exact ⟨Nat.lt_succ_self _, this⟩
    · rw [if_neg q2]
      by_cases q3 : tk y s i = 35
      · rw [if_pos q3]
        unfold pAtm
        by_cases q4 : (pVar (tk y s) C n i).1 = 0
        · rw [if_neg (fun z => z q4)]
          have h3 := pVar_v q4
          have l1 := nT_lt hi (by omega) (by omega)
          have l2 := nT_lt (y := y) (s := s) (j := i + 1) (by omega) (by omega) (by omega)
          rw [h3.2.1]
          by_cases q5 : tk y s (i + 2) = 61
          · rw [if_pos q5]
            have l3 := nT_lt (y := y) (s := s) (j := i + 2) (by omega) (by omega) (by omega)
            unfold pVal
            by_cases q6 : tk y s (i + 2 + 1) = 259
            · rw [if_neg (fun z => z q6)]
              have l4 := nT_lt (y := y) (s := s) (j := i + 2 + 1) (by omega) (by omega) (by omega)
              split
              · intro z
                cases z
              · intro _
                exact ⟨show i < i + 2 + 1 + 1 by omega, l4⟩
            · rw [if_pos q6]
              intro z
              exact absurd z (rf_nz (K := tk y s) (q := 2) (a := i + 2 + 1) (by decide))
          · rw [if_neg q5]
            split
            · intro z
              cases z
            · intro _
              exact ⟨show i < i + 2 by omega, l2⟩
        · rw [if_pos q4]
          intro z
          exact absurd z q4
      · rw [if_neg q3]
        intro z
        exact absurd z (rf_nz (K := tk y s) (q := 2) (a := i) (by decide))
theorem hltT : ∀ j, j ≤ nT y s → tk y s j ≠ 264 → tk y s j ≠ 265 → j < nT y s := fun _ h1 h2 h3 => nT_lt h1 h2 h3
theorem prg_nst {g : Nat → Nat × Nat × (Nat → Bool)} (hg : PRG (nT y s) g) {i : Nat} (hi : i < nT y s) (h : (nst (tk y s) C n sz g i).1 = 0) : i < (nst (tk y s) C n sz g i).2.1 ∧ (nst (tk y s) C n sz g i).2.1 ≤ nT y s := by
  unfold nst at h ⊢
  by_cases q1 : tk y s i = 33
  · rw [if_pos q1] at h ⊢
    have := hg (i + 1) hi h
    exact ⟨Nat.lt_of_succ_lt this.1, this.2⟩
  · rw [if_neg q1] at h ⊢
    by_cases q2 : tk y s i = 40
    · rw [if_pos q2] at h ⊢
      unfold xpR at h ⊢
      by_cases q3 : (frm (tk y s) (pr sz n) g (i + 1)).1 = 0
      · rw [if_neg (fun z => z q3)] at h ⊢
        have h1 := prg_frm (K := tk y s) (T := pr sz n) hltT hg (i + 1) hi q3
        by_cases q4 : tk y s (frm (tk y s) (pr sz n) g (i + 1)).2.1 = 41
        · rw [if_pos q4]
          have := nT_lt h1.2 (by omega) (by omega)
          exact ⟨show i < (frm (tk y s) (pr sz n) g (i + 1)).2.1 + 1 by omega, this⟩
        · rw [if_neg q4] at h
          exact absurd h (rf_nz (K := tk y s) (q := 2) (a := (frm (tk y s) (pr sz n) g (i + 1)).2.1) (by decide))
      · rw [if_pos q3] at h
        exact absurd h q3
    · rw [if_neg q2] at h ⊢
      by_cases q3 : (pVs (tk y s) C n (i + 1) (nVs (tk y s) C n (i + 1))).1 = 0
      · rw [if_neg (fun z => z q3)] at h ⊢
        have h1 := pVs_ok (i0 := i + 1) hi q3
        by_cases q4 : tk y s (pVs (tk y s) C n (i + 1) (nVs (tk y s) C n (i + 1))).2.1 = 46
        · rw [if_pos q4] at h ⊢
          have h2 := nT_lt h1.1 (by omega) (by omega)
          have h3 := hg ((pVs (tk y s) C n (i + 1) (nVs (tk y s) C n (i + 1))).2.1 + 1) h2 h
          have h4 := h1.2.1
          have h5 := h3.1
          exact ⟨show i < (g ((pVs (tk y s) C n (i + 1) (nVs (tk y s) C n (i + 1))).2.1 + 1)).2.1 by omega, h3.2⟩
        · rw [if_neg q4] at h
          exact absurd h (rf_nz (K := tk y s) (q := 2) (a := (pVs (tk y s) C n (i + 1) (nVs (tk y s) C n (i + 1))).2.1) (by decide))
      · rw [if_pos q3] at h
        exact absurd h q3
theorem prg_one : ∀ D, PRG (nT y s) (one (tk y s) C n sz N Fn nm D)
  | 0 => fun i hi h => by
    unfold one at h ⊢
    by_cases q : tk y s i = 33 ∨ tk y s i = 40 ∨ tk y s i = 262 ∨ tk y s i = 263
    · rw [if_pos q] at h
      cases h
    · rw [if_neg q] at h ⊢
      exact prg_lef i hi h
  | D + 1 => fun i hi h => by
    unfold one at h ⊢
    by_cases q : tk y s i = 33 ∨ tk y s i = 40 ∨ tk y s i = 262 ∨ tk y s i = 263
    · rw [if_pos q] at h ⊢
      exact prg_nst (prg_one D) (nT_lt hi (by omega) (by omega)) h
    · rw [if_neg q] at h ⊢
      exact prg_lef i hi h
theorem dpW_vsL {K : Nat → Nat} {i0 : Nat} {how : Int} {W : List (Int × Int)} (hh : how = 301 ∨ how = 302) : ∀ t, dpW (vsL K C n i0 how W t) = 1 + dpW W
  | 0 => by
    show (if (303 : Int) = 300 ∨ (303 : Int) = 303 ∨ (303 : Int) = 40 then 1 else 0) + dpW W = _
    rw [if_pos (by decide)]
  | t + 1 => by
    show (if how = 300 ∨ how = 303 ∨ how = 40 then 1 else 0) + dpW (vsL K C n i0 how W t) = _
    rw [if_neg (by omega), dpW_vsL hh t, Nat.zero_add]
/-- what the machine's steps are, seen backwards -/
def CLO (K : Nat → Nat) (C : Nat → Int64) (n : Nat) (sz : Nat → Nat) (N : Nat) (Fn : Nat → Nat → Bool) (nm : Nat → Int64) (P : Bool → List (Int × Int) → List (Nat → Bool) → Nat → Prop) (Q : Nat → Nat → Prop) (E : (Nat → Bool) → Nat → Prop) : Prop :=
  (∀ W V i, K i = 33 → dpW W < 20 → nxq K P Q true ((300, 0) :: W) V (i + 1) → P true W V i)
  ∧ (∀ W V i, K i = 40 → dpW W < 20 → nxq K P Q true ((40, 0) :: W) V (i + 1) → P true W V i)
  ∧ (∀ W V i, K i = 262 ∨ K i = 263 → dpW W < 20 → ((pVs K C n (i + 1) (nVs K C n (i + 1))).1 = 0 → K (pVs K C n (i + 1) (nVs K C n (i + 1))).2.1 = 46 → nxq K P Q true (vsL K C n (i + 1) (if K i = 262 then 301 else 302) W (nVs K C n (i + 1) + 1)) V ((pVs K C n (i + 1) (nVs K C n (i + 1))).2.1 + 1)) → (∀ k j, qlB K C n (i + 1) k j → Q k j) → P true W V i)
  ∧ (∀ W V i, K i = 33 ∨ K i = 40 ∨ K i = 262 ∨ K i = 263 → dpW W = 20 → Q 5 i → P true W V i)
  ∧ (∀ W V i, ¬ (K i = 33 ∨ K i = 40 ∨ K i = 262 ∨ K i = 263) → K i ≠ 265 → ((lef K C n sz N Fn nm i).1 = 0 → nxq K P Q false (pfq n sz W (lef K C n sz N Fn nm i).2.2).1 ((pfq n sz W (lef K C n sz N Fn nm i).2.2).2 :: V) (lef K C n sz N Fn nm i).2.1) → ((lef K C n sz N Fn nm i).1 ≠ 0 → Q (lef K C n sz N Fn nm i).1 (lef K C n sz N Fn nm i).2.1) → P true W V i)
  ∧ (∀ W V i, K i ≠ 265 → 0 < rk5 (rc (K i)) → nxq K P Q true ((rc (K i), 0) :: (rdc (pr sz n) (if K i = 256 then 3 else rk5 (rc (K i))) W V).1) (rdc (pr sz n) (if K i = 256 then 3 else rk5 (rc (K i))) W V).2 (i + 1) → P false W V i)
  ∧ (∀ W V i, K i = 41 → (rdc (pr sz n) 1 W V).1 = [] → Q 2 i → P false W V i)
  ∧ (∀ W V i W' v V', K i = 41 → rdc (pr sz n) 1 W V = ((40, 0) :: W', v :: V') → nxq K P Q false (pfq n sz W' v).1 ((pfq n sz W' v).2 :: V') (i + 1) → P false W V i)
  ∧ (∀ W V i v, K i = 59 → rdc (pr sz n) 1 W V = ([], [v]) → E v i → P false W V i)
  ∧ (∀ W V i, rk5 (rc (K i)) = 0 → K i ≠ 41 → K i ≠ 265 → K i ≠ 59 ∨ (rdc (pr sz n) 1 W V).1 ≠ [] → Q 2 i → P false W V i)
variable {P : Bool → List (Int × Int) → List (Nat → Bool) → Nat → Prop} {Q : Nat → Nat → Prop} {E : (Nat → Bool) → Nat → Prop}
theorem tk_20 : ∀ i, tk y s i ≤ 265 ∧ tk y s i ≠ 200 ∧ tk y s i ≠ 201 := fun i => by
  have h1 := tk_sm (y := y) (s := s) (i := i)
  have h2 : tk y s i ≤ 265 := tK_lt _
  omega
theorem nxq_p {b : Bool} {W : List (Int × Int)} {V : List (Nat → Bool)} {i : Nat} (h : tk y s i ≠ 265) (p : P b W V i) : nxq (tk y s) P Q b W V i := by
  unfold nxq
  rw [if_neg h]
  exact p
theorem one_sim (hs : s ≤ 400) (hw : wf n sz) (htb : ∀ f, f < N → tbT (pr sz n) (Fn f)) (hc : CLO (tk y s) C n sz N Fn nm P Q E) : ∀ D W V i, i ≤ nT y s → dpW W + D = 20 → ((one (tk y s) C n sz N Fn nm D i).1 = 0 → nxq (tk y s) P Q false (pfq n sz W (one (tk y s) C n sz N Fn nm D i).2.2).1 ((pfq n sz W (one (tk y s) C n sz N Fn nm D i).2.2).2 :: V) (one (tk y s) C n sz N Fn nm D i).2.1) → ((one (tk y s) C n sz N Fn nm D i).1 ≠ 0 → Q (one (tk y s) C n sz N Fn nm D i).1 (one (tk y s) C n sz N Fn nm D i).2.1) → nxq (tk y s) P Q true W V i := by
  obtain ⟨a1, a2, a3, a4, a5, b1, b2, b3, b4, b5⟩ := hc
  have leaf : ∀ D W V i, ¬ (tk y s i = 33 ∨ tk y s i = 40 ∨ tk y s i = 262 ∨ tk y s i = 263) → one (tk y s) C n sz N Fn nm D i = lef (tk y s) C n sz N Fn nm i → ((one (tk y s) C n sz N Fn nm D i).1 = 0 → nxq (tk y s) P Q false (pfq n sz W (one (tk y s) C n sz N Fn nm D i).2.2).1 ((pfq n sz W (one (tk y s) C n sz N Fn nm D i).2.2).2 :: V) (one (tk y s) C n sz N Fn nm D i).2.1) → ((one (tk y s) C n sz N Fn nm D i).1 ≠ 0 → Q (one (tk y s) C n sz N Fn nm D i).1 (one (tk y s) C n sz N Fn nm D i).2.1) → nxq (tk y s) P Q true W V i := by
    intro D W V i q e h1 h2
    rw [e] at h1 h2
    by_cases c : tk y s i = 265
    · have e2 : lef (tk y s) C n sz N Fn nm i = (1, i, fun _ => false) := by
        unfold lef
        rw [if_neg (by omega), if_neg (by omega), if_neg (by omega), show rf (tk y s) 2 i = 1 from if_pos ⟨rfl, c⟩]
      rw [e2] at h2
      unfold nxq
      rw [if_pos c]
      exact h2 (Nat.succ_ne_zero _)
    · exact nxq_p c (a5 W V i q c h1 h2)
  intro D
  induction D with
  | zero =>
    intro W V i hi hd h1 h2
    by_cases q : tk y s i = 33 ∨ tk y s i = 40 ∨ tk y s i = 262 ∨ tk y s i = 263
    · have e : one (tk y s) C n sz N Fn nm 0 i = (5, i, fun _ => false) := by
        unfold one
        rw [if_pos q]
      rw [e] at h2
      exact nxq_p (by omega) (a4 W V i q hd (h2 (Nat.succ_ne_zero _)))
    · exact leaf 0 W V i q (by unfold one; rw [if_neg q]) h1 h2
  | succ D ih =>
    intro W V i hi hd h1 h2
    by_cases q : tk y s i = 33 ∨ tk y s i = 40 ∨ tk y s i = 262 ∨ tk y s i = 263
    · have e : one (tk y s) C n sz N Fn nm (D + 1) i = nst (tk y s) C n sz (one (tk y s) C n sz N Fn nm D) i := by
        show (if _ then _ else _) = _
        rw [if_pos q]
      rw [e] at h1 h2
      have hi1 := nT_lt hi (by omega) (by omega)
      have hkt := tb_one (K := tk y s) (C := C) (nm := nm) htb D
      have hsim : ∀ dd, dd + D = 20 → SIM (tk y s) (pr sz n) (nT y s) P Q dd (one (tk y s) C n sz N Fn nm D) 6 := by
        intro dd hdd W V i hi hrk hnp hdp h1 h2
        refine ih W V i hi (by omega) (fun z => ?_) h2
        rw [pfq_npf hnp]
        exact h1 W _ z (fun L l1 _ => rdc_stop l1) (by have := (rk5_b (rc (tk y s (one (tk y s) C n sz N Fn nm D i).2.1))).2.1; omega)
      have hprg := prg_one (y := y) (s := s) (C := C) (n := n) (N := N) (sz := sz) (Fn := Fn) (nm := nm) D
      generalize one (tk y s) C n sz N Fn nm D = g at *
      refine nxq_p (by omega) ?_
      rcases q with q | q | q
      · have e2 : nst (tk y s) C n sz g i = ((g (i + 1)).1, (g (i + 1)).2.1, ivt (pr sz n) (g (i + 1)).2.2) := by
          unfold nst
          rw [if_pos q]
        rw [e2] at h1 h2
        refine a1 W V i q (by omega) (ih ((300, 0) :: W) V (i + 1) hi1 ?_ (fun z => ?_) h2)
        · show (if (300 : Int) = 300 ∨ (300 : Int) = 303 ∨ (300 : Int) = 40 then 1 else 0) + dpW W + D = 20
          rw [if_pos (by decide)]
          omega
        · rw [pfq_p (e := (300, 0)) (by decide)]
          exact h1 z
      · have e2 : nst (tk y s) C n sz g i = xpR (tk y s) 41 (frm (tk y s) (pr sz n) g (i + 1)) := by
          unfold nst
          rw [if_neg (by omega), if_pos q]
        rw [e2] at h1 h2
        have hdp : dpW ((40, 0) :: W) = 1 + dpW W := by
          show (if (40 : Int) = 300 ∨ (40 : Int) = 303 ∨ (40 : Int) = 40 then 1 else 0) + dpW W = _
          rw [if_pos (by decide)]
        have hN400 := (nT_ok y s).1
        have hsf := sim_frm (m := nT y s) (by omega) hltT tk_20 hprg b1 (hsim (1 + dpW W) (by omega))
        refine a2 W V i q (by omega) (hsf ((40, 0) :: W) V (i + 1) hi1 (by show rk5 40 < 1; decide) (by show ¬ (300 : Int) ≤ 40; decide) hdp (fun W2 V2 q1 q2 q3 => ?_) (fun q1 => ?_))
        · have e := q2 1 (by show rk5 40 < 1; decide) (Int.le_refl _)
          generalize frm (tk y s) (pr sz n) g (i + 1) = R at *
          unfold xpR at h1 h2
          rw [if_neg (fun z => z q1)] at h1 h2
          by_cases c5 : tk y s R.2.1 = 265
          · rw [if_neg (by omega), show rf (tk y s) 2 R.2.1 = 1 from if_pos ⟨rfl, c5⟩] at h2
            unfold nxq
            rw [if_pos c5]
            exact h2 (Nat.succ_ne_zero _)
          · by_cases c1 : tk y s R.2.1 = 41
            · rw [if_pos c1] at h1
              exact nxq_p c5 (b3 W2 V2 _ W R.2.2 V c1 e (h1 rfl))
            · rw [if_neg c1, show rf (tk y s) 2 R.2.1 = 2 from if_neg (fun z => c5 z.2)] at h2
              have hz := (rk5_b (rc (tk y s R.2.1))).1
              exact nxq_p c5 (b5 W2 V2 _ (by omega) c1 c5 (Or.inr (by rw [e]; exact List.cons_ne_nil _ _)) (h2 (Nat.succ_ne_zero _)))
        · unfold xpR at h2
          rw [if_pos q1] at h2
          exact h2 q1
      · have e2 : nst (tk y s) C n sz g i = (if (pVs (tk y s) C n (i + 1) (nVs (tk y s) C n (i + 1))).1 ≠ 0 then ((pVs (tk y s) C n (i + 1) (nVs (tk y s) C n (i + 1))).1, (pVs (tk y s) C n (i + 1) (nVs (tk y s) C n (i + 1))).2.1, fun _ => false)
  else if (tk y s) (pVs (tk y s) C n (i + 1) (nVs (tk y s) C n (i + 1))).2.1 = 46 then ((g ((pVs (tk y s) C n (i + 1) (nVs (tk y s) C n (i + 1))).2.1 + 1)).1, (g ((pVs (tk y s) C n (i + 1) (nVs (tk y s) C n (i + 1))).2.1 + 1)).2.1, bdA sz n (decide ((tk y s) i = 263)) (pVs (tk y s) C n (i + 1) (nVs (tk y s) C n (i + 1))).2.2 (g ((pVs (tk y s) C n (i + 1) (nVs (tk y s) C n (i + 1))).2.1 + 1)).2.2 n)
  else (rf (tk y s) 2 (pVs (tk y s) C n (i + 1) (nVs (tk y s) C n (i + 1))).2.1, (pVs (tk y s) C n (i + 1) (nVs (tk y s) C n (i + 1))).2.1, fun _ => false)) := by
          unfold nst
          rw [if_neg (by omega), if_neg (by omega)]
        rw [e2] at h1 h2
        refine a3 W V i q (by omega) (fun z1 z2 => ?_) (fun k j hq => ?_)
        · rw [if_neg (fun z => z z1), if_pos z2] at h1 h2
          have hpo := pVs_ok (i0 := i + 1) hi1 z1
          have hlt := nT_lt hpo.1 (by omega) (by omega)
          have hh : (if tk y s i = 262 then (301 : Int) else 302) = 301 ∨ (if tk y s i = 262 then (301 : Int) else 302) = 302 := by
            split
            · exact Or.inl rfl
            · exact Or.inr rfl
          have hdec : decide ((if tk y s i = 262 then (301 : Int) else 302) = 302) = decide (tk y s i = 263) := by
            rcases q with q | q
            · rw [if_pos q, q]
              rfl
            · rw [if_neg (by omega), q]
              rfl
          refine ih _ V _ hlt ?_ (fun z => ?_) h2
          · rw [dpW_vsL hh]
            omega
          · rw [pfq_vsL hh, qf_bdA hw (hkt _ z) hpo.2.2, hdec]
            exact h1 z
        · rcases hq with ⟨r1, r2, r3⟩ | ⟨r1, r4, r2, r3⟩
          · rw [if_pos r1] at h2
            rw [r2, r3]
            exact h2 r1
          · rw [if_neg (fun z => z r1), if_neg r4] at h2
            rw [r2, r3]
            exact h2 (rf_nz (K := tk y s) (q := 2) (a := (pVs (tk y s) C n (i + 1) (nVs (tk y s) C n (i + 1))).2.1) (by decide))
    · exact leaf (D + 1) W V i q (by show (if _ then _ else _) = _; rw [if_neg q]) h1 h2
/-- a formula and its end -/
theorem frm_top (hs : s ≤ 400) (hw : wf n sz) (htb : ∀ f, f < N → tbT (pr sz n) (Fn f)) (hc : CLO (tk y s) C n sz N Fn nm P Q E) {i : Nat} (hi : i ≤ nT y s) (R : Nat × Nat × (Nat → Bool)) (hR : R = frm (tk y s) (pr sz n) (one (tk y s) C n sz N Fn nm 20) i) (h1 : R.1 = 0 → tk y s R.2.1 = 59 → E R.2.2 R.2.1) (h2 : (xpR (tk y s) 59 R).1 ≠ 0 → Q (xpR (tk y s) 59 R).1 (xpR (tk y s) 59 R).2.1) : nxq (tk y s) P Q true [] [] i := by
  have ho := one_sim hs hw htb hc
  obtain ⟨a1, a2, a3, a4, a5, b1, b2, b3, b4, b5⟩ := hc
  have hN400 := (nT_ok y s).1
  have hsim : SIM (tk y s) (pr sz n) (nT y s) P Q 0 (one (tk y s) C n sz N Fn nm 20) 6 := by
    intro W V i hi hrk hnp hdp h1 h2
    refine ho 20 W V i hi (by omega) (fun z => ?_) h2
    rw [pfq_npf hnp]
    exact h1 W _ z (fun L l1 _ => rdc_stop l1) (by have := (rk5_b (rc (tk y s (one (tk y s) C n sz N Fn nm 20 i).2.1))).2.1; omega)
  have hsf := sim_frm (m := nT y s) (by omega) hltT tk_20 (prg_one 20) b1 hsim
  refine hsf [] [] i hi (by show (0 : Int) < 1; decide) True.intro rfl (fun W2 V2 q1 q2 q3 => ?_) (fun q1 => ?_)
  · have e := q2 1 (by show (0 : Int) < 1; decide) (Int.le_refl _)
    rw [← hR] at q1 e q3 ⊢
    unfold xpR at h2
    rw [if_neg (fun z => z q1)] at h2
    have hz := (rk5_b (rc (tk y s R.2.1))).1
    by_cases c5 : tk y s R.2.1 = 265
    · rw [if_neg (by omega), show rf (tk y s) 2 R.2.1 = 1 from if_pos ⟨rfl, c5⟩] at h2
      unfold nxq
      rw [if_pos c5]
      exact h2 (Nat.succ_ne_zero _)
    · by_cases c9 : tk y s R.2.1 = 59
      · exact nxq_p c5 (b4 W2 V2 _ R.2.2 c9 e (h1 q1 c9))
      · rw [if_neg c9, show rf (tk y s) 2 R.2.1 = 2 from if_neg (fun z => c5 z.2)] at h2
        by_cases c1 : tk y s R.2.1 = 41
        · exact nxq_p c5 (b2 W2 V2 _ c1 (by rw [e]) (h2 (Nat.succ_ne_zero _)))
        · exact nxq_p c5 (b5 W2 V2 _ (by omega) c1 c5 (Or.inl c9) (h2 (Nat.succ_ne_zero _)))
  · rw [← hR] at q1 ⊢
    unfold xpR at h2
    rw [if_pos q1] at h2
    exact h2 q1
end SJ
