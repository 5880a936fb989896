/-! ===== feed, end, odds: what may be thrown ===== -/
section JM
variable {X : List Int32} {S S' : ST} {n fn nc s m Z k : Nat} {sz : Nat → Nat} {wt : Nat → Int} {ro : Nat → Bool} {Fn : Nat → Nat → Bool} {nm rn : Nat → Int64} {rof ord : Nat → Nat} {sd : Option (Nat → Bool)} {tr tn kz : Int} {up lo : Int64} {y : Nat → Nat} {L : List Nat} {P : ST → Prop}
theorem c_thr {z : Int} (h : SI S 179 0 = z) : sM X 0 161 [.ref 179] S (sV (some (.int (iI z))) S) := by
  refine sIni (ls := [some (.ref 179)]) rfl ?_
  refine sL (pc' := 1) (i := .aload_n 0) rfl rfl ?_
  refine sGi (p := 4) rfl rfl (sk_179 _) rfl rfl rfl h ?_
  refine sEn (i := .ireturn) rfl (rfl) ?_
  exact ⟨rfl, rfl⟩
theorem t_feed {a b c e f : Int} (ht : tp S y s) (hs : ¬ s ≤ 380) (hP : P S) : sT X 199 134 0 [some (.ref 0), some (.int (iI a)), some (.int (iI b)), some (.int (iI c)), some (.int (iI e)), some (.int (iI f))] [] S (fun pc _ st T => pc = 10 ∧ st = [] ∧ P T) := by
  refine sL (pc' := 1) (i := .aload_n 0) rfl rfl ?_
  refine sGc (p := 4) rfl rfl (sk_0 _) rfl rfl rfl ?_
  refine sCv (p := 7) (as := []) rfl rfl rfl rfl (by decide) (Nat.le_of_ble_eq_true rfl) rfl (Nat.le_of_ble_eq_true rfl) (sk_64 _) rfl (by omega) (c_hasRoom ht) ?_
  refine sBn (p := 10) rfl rfl (fun c1 => ?_) (fun c1 => ?_)
  · exfalso; have c1 := of_decide_eq_true c1; omega
  · have c1 := c1
    have c1 := of_decide_eq_false c1
    exact sHe ⟨rfl, rfl, hP⟩
theorem t_end {x : Int} (ht : tp S y s) (hx : rg x) (hb : ¬ (0 ≤ x ∧ x ≤ ((s : Nat) : Int))) (hP : P S) : sT X 199 135 0 [some (.ref 0), some (.int (iI x))] [] S (fun pc _ st T => pc = 15 ∧ st = [] ∧ P T) := by
  have hs := ht.1
  have hx1 := hx.1
  have hx2 := hx.2
  refine sL (pc' := 1) (i := .iload_n 1) rfl rfl ?_
  refine sIf_lt (p := 4) rfl rfl ⟨by omega, by omega⟩ (fun c1 => ?_) (fun c1 => ?_)
  · have c1 := c1
    exact sHe ⟨rfl, rfl, hP⟩
  · have c1 := c1
    refine sL (pc' := 5) (i := .iload_n 1) rfl rfl ?_
    refine sL (pc' := 6) (i := .aload_n 0) rfl rfl ?_
    refine sGc (p := 9) rfl rfl (sk_0 _) rfl rfl rfl ?_
    refine sGi (p := 12) rfl rfl (sk_64 _) rfl rfl rfl ht.2.2.1 ?_
    refine sIc_le (p := 15) rfl rfl ⟨by omega, by omega⟩ ⟨by omega, by omega⟩ (fun c2 => ?_) (fun c2 => ?_)
    · exfalso; omega
    · have c2 := c2
      exact sHe ⟨rfl, rfl, hP⟩
theorem t_odds_N {u v : Nat} (h : CI S n sz wt ro fn Fn nm ord sd tr tn up lo Z) (hu : u < fn) (hl : swt (fun _ => true) (wq sz wt ro n) (pr sz n) = 0) (hP : ∀ T, CI T n sz wt ro fn Fn nm ord sd tr tn up lo Z → frX S T → P T) : sT X 199 148 0 [some (.ref 0), some (.int (iI ((u : Nat) : Int))), some (.int (iI (-1))), none, none, none, none, none, none, none] [] S (fun pc _ st T => pc = 72 ∧ st = [] ∧ P T) := by
  have hCI := h
  obtain ⟨hvC, hwC, ⟨wb, hgC⟩, ⟨hfn, hdr, h40, hF, hev, hnm, htb⟩, ⟨b, R, pl, D, U, rt, hR, hro, hsd, hz1, hz2⟩, t1, t2, t3, t4⟩ := h
  have hn := hvC.1.1
  have hT0 := hvC.1.2.2
  have hl : swt (fun r => evr (pr sz n) r && evr (pr sz n) r) (wq sz wt ro n) (pr sz n) = 0 := (swt_c (fun r hr => by show (decide (r < pr sz n) && decide (r < pr sz n)) = true; rw [decide_eq_true hr]; rfl)).trans hl
  refine sL (pc' := 1) (i := .aload_n 0) rfl rfl ?_
  refine sGc (p := 4) rfl rfl (sk_0 _) rfl rfl rfl ?_
  refine sL (pc' := 5) (i := .iload_n 1) rfl rfl ?_
  refine sCv (p := 8) (as := [_]) rfl rfl rfl rfl (by decide) (Nat.le_of_ble_eq_true rfl) rfl (Nat.le_of_ble_eq_true rfl) (sk_7 _) rfl (by omega) (c_fhas hfn h40 ⟨by omega, by omega⟩) ?_
  refine sBe (p := 11) rfl rfl (fun c1 => ?_) (fun c1 => ?_)
  · exfalso; have c1 := of_decide_eq_false c1; omega
  · have c1 := c1
    have c1 := of_decide_eq_true c1
    refine sL (pc' := 12) (i := .iload_n 2) rfl rfl ?_
    refine sKi (p := 13) rfl rfl ?_
    refine sIc_eq (p := 16) rfl rfl ⟨by omega, by omega⟩ ⟨by omega, by omega⟩ (fun c2 => ?_) (fun c2 => ?_)
    · have c2 := c2
      refine sL (pc' := 31) (i := .iload_n 2) rfl rfl ?_
      refine sKi (p := 32) rfl rfl ?_
      refine sIc_ne (p := 35) rfl rfl ⟨by omega, by omega⟩ ⟨by omega, by omega⟩ (fun c3 => ?_) (fun c3 => ?_)
      · exact absurd c3 (by decide)
      · have c3 := c3
        refine sL (pc' := 36) (i := .aload_n 0) rfl rfl ?_
        refine sGc (p := 39) rfl rfl (sk_0 _) rfl rfl rfl ?_
        refine sGc (p := 42) rfl rfl (sk_7 _) rfl rfl rfl ?_
        refine sL (i := .goto 11) rfl rfl ?_
        refine sL (pc' := 54) (i := .astore_n 3) (ls' := [some (.ref 0), some (.int (iI ((u : Nat) : Int))), some (.int (iI (-1))), some (.ref 51), none, none, none, none, none, none]) rfl rfl ?_
        refine sL (pc' := 55) (i := .aload_n 0) rfl rfl ?_
        refine sGc (p := 58) rfl rfl (sk_0 _) rfl rfl rfl ?_
        refine sL (pc' := 59) (i := .aload_n 3) rfl rfl ?_
        refine sL (pc' := 60) (i := .aload_n 3) rfl rfl ?_
        refine sCv (p := 63) (as := [_, _]) rfl rfl rfl rfl (by decide) (Nat.le_of_ble_eq_true rfl) rfl (Nat.le_of_ble_eq_true rfl) (sk_7 _) rfl (by omega) (c_weightOfBoth (a := 51) (b := 51) hvC hwC hgC (sk_51 _) (sk_51 _) (by omega) (by omega) hev hev) ?_
        rw [hl]
        refine sL (pc' := 65) (i := .lstore 4) (ls' := [some (.ref 0), some (.int (iI ((u : Nat) : Int))), some (.int (iI (-1))), some (.ref 51), some (.long (lI 0)), none, none, none, none, none]) rfl rfl ?_
        refine sL (pc' := 67) (i := .lload 4) rfl rfl ?_
        refine sKj0 (p := 68) rfl rfl rfl ?_
        refine sLf_ne (p := 72) rfl rfl rfl ⟨by omega, by omega⟩ ⟨by omega, by omega⟩ (fun c4 => ?_) (fun c4 => ?_)
        · exfalso; omega
        · have c4 := c4
          have hc1 := CI_wg (q := anyB (fun r => evr (pr sz n) r && evr (pr sz n) r) (pr sz n)) hCI
          exact sHe ⟨rfl, rfl, hP _ hc1.1 hc1.2⟩
    · exact absurd c2 (by decide)
theorem t_odds_F {u v : Nat} (h : CI S n sz wt ro fn Fn nm ord sd tr tn up lo Z) (hu : u < fn) (hvf : v < fn) (hl : swt (fun r => Fn v r) (wq sz wt ro n) (pr sz n) = 0) (hP : ∀ T, CI T n sz wt ro fn Fn nm ord sd tr tn up lo Z → frX S T → P T) : sT X 199 148 0 [some (.ref 0), some (.int (iI ((u : Nat) : Int))), some (.int (iI ((v : Nat) : Int))), none, none, none, none, none, none, none] [] S (fun pc _ st T => pc = 72 ∧ st = [] ∧ P T) := by
  have hCI := h
  obtain ⟨hvC, hwC, ⟨wb, hgC⟩, ⟨hfn, hdr, h40, hF, hev, hnm, htb⟩, ⟨b, R, pl, D, U, rt, hR, hro, hsd, hz1, hz2⟩, t1, t2, t3, t4⟩ := h
  have hn := hvC.1.1
  have hT0 := hvC.1.2.2
  have hl : swt (fun r => Fn v r && Fn v r) (wq sz wt ro n) (pr sz n) = 0 := (swt_c (fun r hr => Bool.and_self _)).trans hl
  refine sL (pc' := 1) (i := .aload_n 0) rfl rfl ?_
  refine sGc (p := 4) rfl rfl (sk_0 _) rfl rfl rfl ?_
  refine sL (pc' := 5) (i := .iload_n 1) rfl rfl ?_
  refine sCv (p := 8) (as := [_]) rfl rfl rfl rfl (by decide) (Nat.le_of_ble_eq_true rfl) rfl (Nat.le_of_ble_eq_true rfl) (sk_7 _) rfl (by omega) (c_fhas hfn h40 ⟨by omega, by omega⟩) ?_
  refine sBe (p := 11) rfl rfl (fun c1 => ?_) (fun c1 => ?_)
  · exfalso; have c1 := of_decide_eq_false c1; omega
  · have c1 := c1
    have c1 := of_decide_eq_true c1
    refine sL (pc' := 12) (i := .iload_n 2) rfl rfl ?_
    refine sKi (p := 13) rfl rfl ?_
    refine sIc_eq (p := 16) rfl rfl ⟨by omega, by omega⟩ ⟨by omega, by omega⟩ (fun c2 => ?_) (fun c2 => ?_)
    · exfalso; omega
    · have c2 := c2
      refine sL (pc' := 17) (i := .aload_n 0) rfl rfl ?_
      refine sGc (p := 20) rfl rfl (sk_0 _) rfl rfl rfl ?_
      refine sL (pc' := 21) (i := .iload_n 2) rfl rfl ?_
      refine sCv (p := 24) (as := [_]) rfl rfl rfl rfl (by decide) (Nat.le_of_ble_eq_true rfl) rfl (Nat.le_of_ble_eq_true rfl) (sk_7 _) rfl (by omega) (c_fhas hfn h40 ⟨by omega, by omega⟩) ?_
      refine sBn (p := 27) rfl rfl (fun c3 => ?_) (fun c3 => ?_)
      · have c3 := c3
        have c3 := of_decide_eq_true c3
        refine sL (pc' := 31) (i := .iload_n 2) rfl rfl ?_
        refine sKi (p := 32) rfl rfl ?_
        refine sIc_ne (p := 35) rfl rfl ⟨by omega, by omega⟩ ⟨by omega, by omega⟩ (fun c4 => ?_) (fun c4 => ?_)
        · have c4 := c4
          refine sL (pc' := 46) (i := .aload_n 0) rfl rfl ?_
          refine sGc (p := 49) rfl rfl (sk_0 _) rfl rfl rfl ?_
          refine sL (pc' := 50) (i := .iload_n 2) rfl rfl ?_
          refine sCv (p := 53) (as := [_]) rfl rfl rfl rfl (by decide) (Nat.le_of_ble_eq_true rfl) rfl (Nat.le_of_ble_eq_true rfl) (sk_7 _) rfl (by omega) (c_row (i := v) (by omega)) ?_
          refine sL (pc' := 54) (i := .astore_n 3) (ls' := [some (.ref 0), some (.int (iI ((u : Nat) : Int))), some (.int (iI ((v : Nat) : Int))), some (.ref (9 + v)), none, none, none, none, none, none]) rfl rfl ?_
          refine sL (pc' := 55) (i := .aload_n 0) rfl rfl ?_
          refine sGc (p := 58) rfl rfl (sk_0 _) rfl rfl rfl ?_
          refine sL (pc' := 59) (i := .aload_n 3) rfl rfl ?_
          refine sL (pc' := 60) (i := .aload_n 3) rfl rfl ?_
          refine sCv (p := 63) (as := [_, _]) rfl rfl rfl rfl (by decide) (Nat.le_of_ble_eq_true rfl) rfl (Nat.le_of_ble_eq_true rfl) (sk_7 _) rfl (by omega) (c_weightOfBoth (a := 9 + v) (b := 9 + v) hvC hwC hgC (sk_rows _ (by omega)) (sk_rows _ (by omega)) (by omega) (by omega) (hF v hvf) (hF v hvf)) ?_
          rw [hl]
          refine sL (pc' := 65) (i := .lstore 4) (ls' := [some (.ref 0), some (.int (iI ((u : Nat) : Int))), some (.int (iI ((v : Nat) : Int))), some (.ref (9 + v)), some (.long (lI 0)), none, none, none, none, none]) rfl rfl ?_
          refine sL (pc' := 67) (i := .lload 4) rfl rfl ?_
          refine sKj0 (p := 68) rfl rfl rfl ?_
          refine sLf_ne (p := 72) rfl rfl rfl ⟨by omega, by omega⟩ ⟨by omega, by omega⟩ (fun c5 => ?_) (fun c5 => ?_)
          · exfalso; omega
          · have c5 := c5
            have hc1 := CI_wg (q := anyB (fun r => Fn v r && Fn v r) (pr sz n)) hCI
            exact sHe ⟨rfl, rfl, hP _ hc1.1 hc1.2⟩
        · exfalso; omega
      · exfalso; have c3 := of_decide_eq_false c3; omega
theorem h_feed {a b c e f : Int} (h : CI S n sz wt ro fn Fn nm ord sd tr tn up lo Z) (ht : tp S y s) (hs : s ≤ 380) : sM X 200 338 [.ref 0, .int (iI a), .int (iI b), .int (iI c), .int (iI e), .int (iI f), .ref 202] S (fun w T => w = some (.int (iI 0)) ∧ ∃ S1, T = wL S1 202 0 (lI ((s + 4 + 4 + 4 + 4 + 4 : Nat) : Int)) ∧ tp S1 (adY (adY (adY (adY (adY y s a) (s + 4) b) (s + 4 + 4) c) (s + 4 + 4 + 4) e) (s + 4 + 4 + 4 + 4) f) (s + 4 + 4 + 4 + 4 + 4) ∧ CI S1 n sz wt ro fn Fn nm ord sd tr tn up lo Z ∧ frV S S1 ∧ SI S1 69 = SI S 69) := by
  refine sIni (ls := [some (.ref 0), some (.int (iI a)), some (.int (iI b)), some (.int (iI c)), some (.int (iI e)), some (.int (iI f)), some (.ref 202), none]) rfl ?_
  refine sL (pc' := 2) (i := .aload 6) rfl rfl ?_
  refine sKi (p := 3) rfl rfl ?_
  refine sL (pc' := 4) (i := .aload_n 0) rfl rfl ?_
  refine sL (pc' := 5) (i := .iload_n 1) rfl rfl ?_
  refine sL (pc' := 6) (i := .iload_n 2) rfl rfl ?_
  refine sL (pc' := 7) (i := .iload_n 3) rfl rfl ?_
  refine sL (pc' := 9) (i := .iload 4) rfl rfl ?_
  refine sL (pc' := 11) (i := .iload 5) rfl rfl ?_
  refine sCvQ (p := 14) (as := [_, _, _, _, _]) rfl rfl rfl rfl (by decide) (Nat.le_of_ble_eq_true rfl) rfl (Nat.le_of_ble_eq_true rfl) (sk_0 _) rfl (by omega) (k_Feed h ht hs) ?_
  rintro _ S1 ⟨rfl, g1, g2, g3, g4⟩
  refine sI2l (p := 15) rfl rfl ⟨by omega, by omega⟩ ?_
  refine sWl (p := 16) (i := 0) rfl rfl (sk_202 _) (by omega) ⟨by omega, by omega⟩ ?_
  refine sL (i := .goto 7) rfl rfl ?_
  refine sKi (p := 24) rfl rfl ?_
  refine sEn (i := .ireturn) rfl (rfl) ?_
  exact ⟨rfl, S1, rfl, g1, g2, g3, g4⟩
theorem h_end {j : Nat} (h : CI S n sz wt ro fn Fn nm ord sd tr tn up lo Z) (ht : tp S y s) (hj : j ≤ s) : sM X 200 339 [.ref 0, .int (iI ((j : Nat) : Int))] S (fun w T => w = some (.int (iI 0)) ∧ tp T y j ∧ CI T n sz wt ro fn Fn nm ord sd tr tn up lo Z ∧ frV S T ∧ SI T 69 = SI S 69) := by
  refine sIni (ls := [some (.ref 0), some (.int (iI ((j : Nat) : Int))), none]) rfl ?_
  refine sL (pc' := 1) (i := .aload_n 0) rfl rfl ?_
  refine sL (pc' := 2) (i := .iload_n 1) rfl rfl ?_
  refine sCvQ (p := 5) (as := [_]) rfl rfl rfl rfl (by decide) (Nat.le_of_ble_eq_true rfl) rfl (Nat.le_of_ble_eq_true rfl) (sk_0 _) rfl (by omega) (k_End h ht hj) ?_
  rintro _ S1 ⟨rfl, g1, g2, g3, g4⟩
  refine sL (i := .goto 6) rfl rfl ?_
  refine sKi (p := 12) rfl rfl ?_
  refine sEn (i := .ireturn) rfl (rfl) ?_
  exact ⟨rfl, g1, g2, g3, g4⟩
theorem h_odds {x q v : Int} (hv : rg v) (hc : sM X 16 148 [.ref 0, .int (iI x), .int (iI q)] S (qQ (.int (iI v)) P S)) : sM X 200 340 [.ref 0, .int (iI x), .int (iI q), .ref 202] S (fun w T => w = some (.int (iI 0)) ∧ ∃ S1, T = wL S1 202 0 (lI v) ∧ P S1 ∧ frX S S1) := by
  have hv1 := hv.1
  have hv2 := hv.2
  refine sIni (ls := [some (.ref 0), some (.int (iI x)), some (.int (iI q)), some (.ref 202), none]) rfl ?_
  refine sL (pc' := 1) (i := .aload_n 3) rfl rfl ?_
  refine sKi (p := 2) rfl rfl ?_
  refine sL (pc' := 3) (i := .aload_n 0) rfl rfl ?_
  refine sL (pc' := 4) (i := .iload_n 1) rfl rfl ?_
  refine sL (pc' := 5) (i := .iload_n 2) rfl rfl ?_
  refine sCvQ (p := 8) (as := [_, _]) rfl rfl rfl rfl (by decide) (Nat.le_of_ble_eq_true rfl) rfl (Nat.le_of_ble_eq_true rfl) (sk_0 _) rfl (by omega) (hc) ?_
  rintro _ S1 ⟨rfl, g1, g2⟩
  refine sI2l (p := 9) rfl rfl ⟨by omega, by omega⟩ ?_
  refine sWl (p := 10) (i := 0) rfl rfl (sk_202 _) (by omega) ⟨by omega, by omega⟩ ?_
  refine sL (i := .goto 7) rfl rfl ?_
  refine sKi (p := 18) rfl rfl ?_
  refine sEn (i := .ireturn) rfl (rfl) ?_
  exact ⟨rfl, S1, rfl, g1, g2⟩
set_option maxRecDepth 100000 in
theorem lq_feed {z1 z2 z3 z4 z5 : Int} (hk : 6 * k + 6 ≤ X.length) (hX : X.length ≤ 384) (e1 : (X.getD (6 * k + 1) 0).toInt = z1) (e2 : (X.getD (6 * k + 2) 0).toInt = z2) (e3 : (X.getD (6 * k + 3) 0).toInt = z3) (e4 : (X.getD (6 * k + 4) 0).toInt = z4) (e5 : (X.getD (6 * k + 5) 0).toInt = z5) : sT X 170 334 801 [some (.retAddr 0), some (.ref 0), some (.ref 179), some (.ref 202), some (.int (iI ((6 * k : Nat) : Int))), none, none] [] S (fun pc ls st T => pc = 833 ∧ ls = [some (.retAddr 0), some (.ref 0), some (.ref 179), some (.ref 202), some (.int (iI ((6 * k : Nat) : Int))), none, none] ∧ st = [.ref 202, .int (iI z5), .int (iI z4), .int (iI z3), .int (iI z2), .int (iI z1), .ref 0] ∧ T = S) := by
  refine sL (pc' := 802) (i := .aload_n 1) rfl rfl ?_
  refine sL (pc' := 803) (i := .aload_n 0) rfl rfl ?_
  refine sL (pc' := 805) (i := .iload 4) rfl rfl ?_
  refine sKi (p := 806) rfl rfl ?_
  refine sAd (p := 807) rfl rfl ?_
  refine sSa (p := 808) (j := 6 * k + 1) rfl rfl (by omega) ⟨by omega, by omega⟩ e1 ?_
  refine sL (pc' := 809) (i := .aload_n 0) rfl rfl ?_
  refine sL (pc' := 811) (i := .iload 4) rfl rfl ?_
  refine sKi (p := 812) rfl rfl ?_
  refine sAd (p := 813) rfl rfl ?_
  refine sSa (p := 814) (j := 6 * k + 2) rfl rfl (by omega) ⟨by omega, by omega⟩ e2 ?_
  refine sL (pc' := 815) (i := .aload_n 0) rfl rfl ?_
  refine sL (pc' := 817) (i := .iload 4) rfl rfl ?_
  refine sKi (p := 818) rfl rfl ?_
  refine sAd (p := 819) rfl rfl ?_
  refine sSa (p := 820) (j := 6 * k + 3) rfl rfl (by omega) ⟨by omega, by omega⟩ e3 ?_
  refine sL (pc' := 821) (i := .aload_n 0) rfl rfl ?_
  refine sL (pc' := 823) (i := .iload 4) rfl rfl ?_
  refine sKi (p := 824) rfl rfl ?_
  refine sAd (p := 825) rfl rfl ?_
  refine sSa (p := 826) (j := 6 * k + 4) rfl rfl (by omega) ⟨by omega, by omega⟩ e4 ?_
  refine sL (pc' := 827) (i := .aload_n 0) rfl rfl ?_
  refine sL (pc' := 829) (i := .iload 4) rfl rfl ?_
  refine sKi (p := 830) rfl rfl ?_
  refine sAd (p := 831) rfl rfl ?_
  refine sSa (p := 832) (j := 6 * k + 5) rfl rfl (by omega) ⟨by omega, by omega⟩ e5 ?_
  refine sL (pc' := 833) (i := .aload_n 3) rfl rfl ?_
  exact sHe ⟨rfl, rfl, rfl, rfl⟩
set_option maxRecDepth 100000 in
theorem lp_feed_k {z1 z2 z3 z4 z5 : Int} {v : Int} (hv : rg v) (hk : 6 * k + 6 ≤ X.length) (hX : X.length ≤ 384) (e1 : (X.getD (6 * k + 1) 0).toInt = z1) (e2 : (X.getD (6 * k + 2) 0).toInt = z2) (e3 : (X.getD (6 * k + 3) 0).toInt = z3) (e4 : (X.getD (6 * k + 4) 0).toInt = z4) (e5 : (X.getD (6 * k + 5) 0).toInt = z5) (hm : sM X 160 189 [.ref 179, .int (iI z1), .int (iI z2), .int (iI z3), .int (iI z4), .int (iI z5)] S (fun w T => w = some (.int (iI v)) ∧ SI T 179 0 = 0 ∧ SL T 202 0 = lI v ∧ JI T)) : sT X 170 334 836 [some (.retAddr 0), some (.ref 0), some (.ref 179), some (.ref 202), some (.int (iI ((6 * k : Nat) : Int))), none, none] [.int (iI 0)] S (xr_K k) := by
  have hv1 := hv.1
  have hv2 := hv.2
  refine sL (pc' := 838) (i := .istore 5) (ls' := [some (.retAddr 0), some (.ref 0), some (.ref 179), some (.ref 202), some (.int (iI ((6 * k : Nat) : Int))), some (.int (iI 0)), none]) rfl rfl ?_
  refine sL (pc' := 839) (i := .aload_n 2) rfl rfl ?_
  refine sL (pc' := 840) (i := .aload_n 0) rfl rfl ?_
  refine sL (pc' := 842) (i := .iload 4) rfl rfl ?_
  refine sKi (p := 843) rfl rfl ?_
  refine sAd (p := 844) rfl rfl ?_
  refine sSa (p := 845) (j := 6 * k + 1) rfl rfl (by omega) ⟨by omega, by omega⟩ e1 ?_
  refine sL (pc' := 846) (i := .aload_n 0) rfl rfl ?_
  refine sL (pc' := 848) (i := .iload 4) rfl rfl ?_
  refine sKi (p := 849) rfl rfl ?_
  refine sAd (p := 850) rfl rfl ?_
  refine sSa (p := 851) (j := 6 * k + 2) rfl rfl (by omega) ⟨by omega, by omega⟩ e2 ?_
  refine sL (pc' := 852) (i := .aload_n 0) rfl rfl ?_
  refine sL (pc' := 854) (i := .iload 4) rfl rfl ?_
  refine sKi (p := 855) rfl rfl ?_
  refine sAd (p := 856) rfl rfl ?_
  refine sSa (p := 857) (j := 6 * k + 3) rfl rfl (by omega) ⟨by omega, by omega⟩ e3 ?_
  refine sL (pc' := 858) (i := .aload_n 0) rfl rfl ?_
  refine sL (pc' := 860) (i := .iload 4) rfl rfl ?_
  refine sKi (p := 861) rfl rfl ?_
  refine sAd (p := 862) rfl rfl ?_
  refine sSa (p := 863) (j := 6 * k + 4) rfl rfl (by omega) ⟨by omega, by omega⟩ e4 ?_
  refine sL (pc' := 864) (i := .aload_n 0) rfl rfl ?_
  refine sL (pc' := 866) (i := .iload 4) rfl rfl ?_
  refine sKi (p := 867) rfl rfl ?_
  refine sAd (p := 868) rfl rfl ?_
  refine sSa (p := 869) (j := 6 * k + 5) rfl rfl (by omega) ⟨by omega, by omega⟩ e5 ?_
  refine sCvQ (p := 872) (as := [_, _, _, _, _]) rfl rfl rfl rfl (by decide) (Nat.le_of_ble_eq_true rfl) rfl (Nat.le_of_ble_eq_true rfl) (sk_179 _) rfl (by omega) (hm) ?_
  rintro _ S2 ⟨rfl, ht0, h202, hJ2⟩
  refine sL (pc' := 874) (i := .istore 6) (ls' := [some (.retAddr 0), some (.ref 0), some (.ref 179), some (.ref 202), some (.int (iI ((6 * k : Nat) : Int))), some (.int (iI 0)), some (.int (iI v))]) rfl rfl ?_
  refine sL (pc' := 875) (i := .aload_n 2) rfl rfl ?_
  refine sCv (p := 878) (as := []) rfl rfl rfl rfl (by decide) (Nat.le_of_ble_eq_true rfl) rfl (Nat.le_of_ble_eq_true rfl) (sk_179 _) rfl (by omega) (c_thr ht0) ?_
  refine sL (pc' := 880) (i := .iload 5) rfl rfl ?_
  refine sIc_eq (p := 883) rfl rfl ⟨by omega, by omega⟩ ⟨by omega, by omega⟩ (fun c1 => ?_) (fun c1 => ?_)
  · have c1 := c1
    refine sL (pc' := 887) (i := .iload 5) rfl rfl ?_
    refine sIf_ne (p := 890) rfl rfl ⟨by omega, by omega⟩ (fun c2 => ?_) (fun c2 => ?_)
    · exact absurd c2 (by decide)
    · have c2 := c2
      refine sL (pc' := 891) (i := .aload_n 3) rfl rfl ?_
      refine sKi (p := 892) rfl rfl ?_
      refine sAl (p := 893) (i := 0) rfl rfl (sk_202 _) (by omega) ⟨by omega, by omega⟩ h202 ?_
      refine sL (pc' := 895) (i := .iload 6) rfl rfl ?_
      refine sI2l (p := 896) rfl rfl ⟨by omega, by omega⟩ ?_
      refine sLf_eq (p := 900) rfl rfl rfl ⟨by omega, by omega⟩ ⟨by omega, by omega⟩ (fun c3 => ?_) (fun c3 => ?_)
      · have c3 := c3
        refine sL (i := .goto 627) rfl rfl ?_
        refine sInX (z := ((6 * k : Nat) : Int)) (ls' := [some (.retAddr 0), some (.ref 0), some (.ref 179), some (.ref 202), some (.int (iI (((6 * k : Nat) : Int) + 6))), some (.int (iI 0)), some (.int (iI v))]) (p := 1532) rfl rfl (Nat.le_of_ble_eq_true rfl) rfl rfl ?_
        refine sL (i := .goto (-1509)) rfl rfl ?_
        exact sHe ⟨rfl, ⟨_, _, rfl⟩, rfl, hJ2⟩
      · exfalso; omega
  · exact absurd c1 (by decide)
set_option maxRecDepth 100000 in
theorem lp_feed_t {z1 z2 z3 z4 z5 : Int} (hk : 6 * k + 6 ≤ X.length) (hX : X.length ≤ 384) (e1 : (X.getD (6 * k + 1) 0).toInt = z1) (e2 : (X.getD (6 * k + 2) 0).toInt = z2) (e3 : (X.getD (6 * k + 3) 0).toInt = z3) (e4 : (X.getD (6 * k + 4) 0).toInt = z4) (e5 : (X.getD (6 * k + 5) 0).toInt = z5) (hm : sM X 160 189 [.ref 179, .int (iI z1), .int (iI z2), .int (iI z3), .int (iI z4), .int (iI z5)] S (fun w T => w = some (.int (iI 0)) ∧ SI T 179 0 = 1 ∧ JI T)) : sT X 170 334 836 [some (.retAddr 0), some (.ref 0), some (.ref 179), some (.ref 202), some (.int (iI ((6 * k : Nat) : Int))), none, none] [.int (iI 1)] S (xr_K k) := by
  refine sL (pc' := 838) (i := .istore 5) (ls' := [some (.retAddr 0), some (.ref 0), some (.ref 179), some (.ref 202), some (.int (iI ((6 * k : Nat) : Int))), some (.int (iI 1)), none]) rfl rfl ?_
  refine sL (pc' := 839) (i := .aload_n 2) rfl rfl ?_
  refine sL (pc' := 840) (i := .aload_n 0) rfl rfl ?_
  refine sL (pc' := 842) (i := .iload 4) rfl rfl ?_
  refine sKi (p := 843) rfl rfl ?_
  refine sAd (p := 844) rfl rfl ?_
  refine sSa (p := 845) (j := 6 * k + 1) rfl rfl (by omega) ⟨by omega, by omega⟩ e1 ?_
  refine sL (pc' := 846) (i := .aload_n 0) rfl rfl ?_
  refine sL (pc' := 848) (i := .iload 4) rfl rfl ?_
  refine sKi (p := 849) rfl rfl ?_
  refine sAd (p := 850) rfl rfl ?_
  refine sSa (p := 851) (j := 6 * k + 2) rfl rfl (by omega) ⟨by omega, by omega⟩ e2 ?_
  refine sL (pc' := 852) (i := .aload_n 0) rfl rfl ?_
  refine sL (pc' := 854) (i := .iload 4) rfl rfl ?_
  refine sKi (p := 855) rfl rfl ?_
  refine sAd (p := 856) rfl rfl ?_
  refine sSa (p := 857) (j := 6 * k + 3) rfl rfl (by omega) ⟨by omega, by omega⟩ e3 ?_
  refine sL (pc' := 858) (i := .aload_n 0) rfl rfl ?_
  refine sL (pc' := 860) (i := .iload 4) rfl rfl ?_
  refine sKi (p := 861) rfl rfl ?_
  refine sAd (p := 862) rfl rfl ?_
  refine sSa (p := 863) (j := 6 * k + 4) rfl rfl (by omega) ⟨by omega, by omega⟩ e4 ?_
  refine sL (pc' := 864) (i := .aload_n 0) rfl rfl ?_
  refine sL (pc' := 866) (i := .iload 4) rfl rfl ?_
  refine sKi (p := 867) rfl rfl ?_
  refine sAd (p := 868) rfl rfl ?_
  refine sSa (p := 869) (j := 6 * k + 5) rfl rfl (by omega) ⟨by omega, by omega⟩ e5 ?_
  refine sCvQ (p := 872) (as := [_, _, _, _, _]) rfl rfl rfl rfl (by decide) (Nat.le_of_ble_eq_true rfl) rfl (Nat.le_of_ble_eq_true rfl) (sk_179 _) rfl (by omega) (hm) ?_
  rintro _ S2 ⟨rfl, ht0, hJ2⟩
  refine sL (pc' := 874) (i := .istore 6) (ls' := [some (.retAddr 0), some (.ref 0), some (.ref 179), some (.ref 202), some (.int (iI ((6 * k : Nat) : Int))), some (.int (iI 1)), some (.int (iI 0))]) rfl rfl ?_
  refine sL (pc' := 875) (i := .aload_n 2) rfl rfl ?_
  refine sCv (p := 878) (as := []) rfl rfl rfl rfl (by decide) (Nat.le_of_ble_eq_true rfl) rfl (Nat.le_of_ble_eq_true rfl) (sk_179 _) rfl (by omega) (c_thr ht0) ?_
  refine sL (pc' := 880) (i := .iload 5) rfl rfl ?_
  refine sIc_eq (p := 883) rfl rfl ⟨by omega, by omega⟩ ⟨by omega, by omega⟩ (fun c1 => ?_) (fun c1 => ?_)
  · have c1 := c1
    refine sL (pc' := 887) (i := .iload 5) rfl rfl ?_
    refine sIf_ne (p := 890) rfl rfl ⟨by omega, by omega⟩ (fun c2 => ?_) (fun c2 => ?_)
    · have c2 := c2
      refine sL (i := .goto 627) rfl rfl ?_
      refine sInX (z := ((6 * k : Nat) : Int)) (ls' := [some (.retAddr 0), some (.ref 0), some (.ref 179), some (.ref 202), some (.int (iI (((6 * k : Nat) : Int) + 6))), some (.int (iI 1)), some (.int (iI 0))]) (p := 1532) rfl rfl (Nat.le_of_ble_eq_true rfl) rfl rfl ?_
      refine sL (i := .goto (-1509)) rfl rfl ?_
      exact sHe ⟨rfl, ⟨_, _, rfl⟩, rfl, hJ2⟩
    · exact absurd c2 (by decide)
  · exact absurd c1 (by decide)
set_option maxRecDepth 100000 in
theorem lq_end {z1 : Int} (hk : 6 * k + 6 ≤ X.length) (hX : X.length ≤ 384) (e1 : (X.getD (6 * k + 1) 0).toInt = z1) : sT X 170 334 905 [some (.retAddr 0), some (.ref 0), some (.ref 179), some (.ref 202), some (.int (iI ((6 * k : Nat) : Int))), none, none] [] S (fun pc ls st T => pc = 912 ∧ ls = [some (.retAddr 0), some (.ref 0), some (.ref 179), some (.ref 202), some (.int (iI ((6 * k : Nat) : Int))), none, none] ∧ st = [.int (iI z1), .ref 0] ∧ T = S) := by
  refine sL (pc' := 906) (i := .aload_n 1) rfl rfl ?_
  refine sL (pc' := 907) (i := .aload_n 0) rfl rfl ?_
  refine sL (pc' := 909) (i := .iload 4) rfl rfl ?_
  refine sKi (p := 910) rfl rfl ?_
  refine sAd (p := 911) rfl rfl ?_
  refine sSa (p := 912) (j := 6 * k + 1) rfl rfl (by omega) ⟨by omega, by omega⟩ e1 ?_
  exact sHe ⟨rfl, rfl, rfl, rfl⟩
set_option maxRecDepth 100000 in
theorem lp_end_k {z1 : Int} (hk : 6 * k + 6 ≤ X.length) (hX : X.length ≤ 384) (e1 : (X.getD (6 * k + 1) 0).toInt = z1) (hm : sM X 160 190 [.ref 179, .int (iI z1)] S (fun w T => w = none ∧ SI T 179 0 = 0 ∧ JI T)) : sT X 170 334 915 [some (.retAddr 0), some (.ref 0), some (.ref 179), some (.ref 202), some (.int (iI ((6 * k : Nat) : Int))), none, none] [.int (iI 0)] S (xr_K k) := by
  refine sL (pc' := 917) (i := .istore 5) (ls' := [some (.retAddr 0), some (.ref 0), some (.ref 179), some (.ref 202), some (.int (iI ((6 * k : Nat) : Int))), some (.int (iI 0)), none]) rfl rfl ?_
  refine sL (pc' := 918) (i := .aload_n 2) rfl rfl ?_
  refine sL (pc' := 919) (i := .aload_n 0) rfl rfl ?_
  refine sL (pc' := 921) (i := .iload 4) rfl rfl ?_
  refine sKi (p := 922) rfl rfl ?_
  refine sAd (p := 923) rfl rfl ?_
  refine sSa (p := 924) (j := 6 * k + 1) rfl rfl (by omega) ⟨by omega, by omega⟩ e1 ?_
  refine sCvQ (p := 927) (as := [_]) rfl rfl rfl rfl (by decide) (Nat.le_of_ble_eq_true rfl) rfl (Nat.le_of_ble_eq_true rfl) (sk_179 _) rfl (by omega) (hm) ?_
  rintro _ S2 ⟨rfl, ht0, hJ2⟩
  refine sL (pc' := 928) (i := .aload_n 2) rfl rfl ?_
  refine sCv (p := 931) (as := []) rfl rfl rfl rfl (by decide) (Nat.le_of_ble_eq_true rfl) rfl (Nat.le_of_ble_eq_true rfl) (sk_179 _) rfl (by omega) (c_thr ht0) ?_
  refine sL (pc' := 933) (i := .iload 5) rfl rfl ?_
  refine sIc_eq (p := 936) rfl rfl ⟨by omega, by omega⟩ ⟨by omega, by omega⟩ (fun c1 => ?_) (fun c1 => ?_)
  · have c1 := c1
    refine sL (i := .goto 591) rfl rfl ?_
    refine sInX (z := ((6 * k : Nat) : Int)) (ls' := [some (.retAddr 0), some (.ref 0), some (.ref 179), some (.ref 202), some (.int (iI (((6 * k : Nat) : Int) + 6))), some (.int (iI 0)), none]) (p := 1532) rfl rfl (Nat.le_of_ble_eq_true rfl) rfl rfl ?_
    refine sL (i := .goto (-1509)) rfl rfl ?_
    exact sHe ⟨rfl, ⟨_, _, rfl⟩, rfl, hJ2⟩
  · exact absurd c1 (by decide)
set_option maxRecDepth 100000 in
theorem lp_end_t {z1 : Int} (hk : 6 * k + 6 ≤ X.length) (hX : X.length ≤ 384) (e1 : (X.getD (6 * k + 1) 0).toInt = z1) (hm : sM X 160 190 [.ref 179, .int (iI z1)] S (fun w T => w = none ∧ SI T 179 0 = 1 ∧ JI T)) : sT X 170 334 915 [some (.retAddr 0), some (.ref 0), some (.ref 179), some (.ref 202), some (.int (iI ((6 * k : Nat) : Int))), none, none] [.int (iI 1)] S (xr_K k) := by
  refine sL (pc' := 917) (i := .istore 5) (ls' := [some (.retAddr 0), some (.ref 0), some (.ref 179), some (.ref 202), some (.int (iI ((6 * k : Nat) : Int))), some (.int (iI 1)), none]) rfl rfl ?_
  refine sL (pc' := 918) (i := .aload_n 2) rfl rfl ?_
  refine sL (pc' := 919) (i := .aload_n 0) rfl rfl ?_
  refine sL (pc' := 921) (i := .iload 4) rfl rfl ?_
  refine sKi (p := 922) rfl rfl ?_
  refine sAd (p := 923) rfl rfl ?_
  refine sSa (p := 924) (j := 6 * k + 1) rfl rfl (by omega) ⟨by omega, by omega⟩ e1 ?_
  refine sCvQ (p := 927) (as := [_]) rfl rfl rfl rfl (by decide) (Nat.le_of_ble_eq_true rfl) rfl (Nat.le_of_ble_eq_true rfl) (sk_179 _) rfl (by omega) (hm) ?_
  rintro _ S2 ⟨rfl, ht0, hJ2⟩
  refine sL (pc' := 928) (i := .aload_n 2) rfl rfl ?_
  refine sCv (p := 931) (as := []) rfl rfl rfl rfl (by decide) (Nat.le_of_ble_eq_true rfl) rfl (Nat.le_of_ble_eq_true rfl) (sk_179 _) rfl (by omega) (c_thr ht0) ?_
  refine sL (pc' := 933) (i := .iload 5) rfl rfl ?_
  refine sIc_eq (p := 936) rfl rfl ⟨by omega, by omega⟩ ⟨by omega, by omega⟩ (fun c1 => ?_) (fun c1 => ?_)
  · have c1 := c1
    refine sL (i := .goto 591) rfl rfl ?_
    refine sInX (z := ((6 * k : Nat) : Int)) (ls' := [some (.retAddr 0), some (.ref 0), some (.ref 179), some (.ref 202), some (.int (iI (((6 * k : Nat) : Int) + 6))), some (.int (iI 1)), none]) (p := 1532) rfl rfl (Nat.le_of_ble_eq_true rfl) rfl rfl ?_
    refine sL (i := .goto (-1509)) rfl rfl ?_
    exact sHe ⟨rfl, ⟨_, _, rfl⟩, rfl, hJ2⟩
  · exact absurd c1 (by decide)
set_option maxRecDepth 100000 in
theorem lq_odds {z1 z2 : Int} (hk : 6 * k + 6 ≤ X.length) (hX : X.length ≤ 384) (e1 : (X.getD (6 * k + 1) 0).toInt = z1) (e2 : (X.getD (6 * k + 2) 0).toInt = z2) : sT X 170 334 1205 [some (.retAddr 0), some (.ref 0), some (.ref 179), some (.ref 202), some (.int (iI ((6 * k : Nat) : Int))), none, none] [] S (fun pc ls st T => pc = 1219 ∧ ls = [some (.retAddr 0), some (.ref 0), some (.ref 179), some (.ref 202), some (.int (iI ((6 * k : Nat) : Int))), none, none] ∧ st = [.ref 202, .int (iI z2), .int (iI z1), .ref 0] ∧ T = S) := by
  refine sL (pc' := 1206) (i := .aload_n 1) rfl rfl ?_
  refine sL (pc' := 1207) (i := .aload_n 0) rfl rfl ?_
  refine sL (pc' := 1209) (i := .iload 4) rfl rfl ?_
  refine sKi (p := 1210) rfl rfl ?_
  refine sAd (p := 1211) rfl rfl ?_
  refine sSa (p := 1212) (j := 6 * k + 1) rfl rfl (by omega) ⟨by omega, by omega⟩ e1 ?_
  refine sL (pc' := 1213) (i := .aload_n 0) rfl rfl ?_
  refine sL (pc' := 1215) (i := .iload 4) rfl rfl ?_
  refine sKi (p := 1216) rfl rfl ?_
  refine sAd (p := 1217) rfl rfl ?_
  refine sSa (p := 1218) (j := 6 * k + 2) rfl rfl (by omega) ⟨by omega, by omega⟩ e2 ?_
  refine sL (pc' := 1219) (i := .aload_n 3) rfl rfl ?_
  exact sHe ⟨rfl, rfl, rfl, rfl⟩
set_option maxRecDepth 100000 in
theorem lp_odds_k {z1 z2 : Int} {v : Int} (hv : rg v) (hk : 6 * k + 6 ≤ X.length) (hX : X.length ≤ 384) (e1 : (X.getD (6 * k + 1) 0).toInt = z1) (e2 : (X.getD (6 * k + 2) 0).toInt = z2) (hm : sM X 160 224 [.ref 179, .int (iI z1), .int (iI z2)] S (fun w T => w = some (.int (iI v)) ∧ SI T 179 0 = 0 ∧ SL T 202 0 = lI v ∧ JI T)) : sT X 170 334 1222 [some (.retAddr 0), some (.ref 0), some (.ref 179), some (.ref 202), some (.int (iI ((6 * k : Nat) : Int))), none, none] [.int (iI 0)] S (xr_K k) := by
  have hv1 := hv.1
  have hv2 := hv.2
  refine sL (pc' := 1224) (i := .istore 5) (ls' := [some (.retAddr 0), some (.ref 0), some (.ref 179), some (.ref 202), some (.int (iI ((6 * k : Nat) : Int))), some (.int (iI 0)), none]) rfl rfl ?_
  refine sL (pc' := 1225) (i := .aload_n 2) rfl rfl ?_
  refine sL (pc' := 1226) (i := .aload_n 0) rfl rfl ?_
  refine sL (pc' := 1228) (i := .iload 4) rfl rfl ?_
  refine sKi (p := 1229) rfl rfl ?_
  refine sAd (p := 1230) rfl rfl ?_
  refine sSa (p := 1231) (j := 6 * k + 1) rfl rfl (by omega) ⟨by omega, by omega⟩ e1 ?_
  refine sL (pc' := 1232) (i := .aload_n 0) rfl rfl ?_
  refine sL (pc' := 1234) (i := .iload 4) rfl rfl ?_
  refine sKi (p := 1235) rfl rfl ?_
  refine sAd (p := 1236) rfl rfl ?_
  refine sSa (p := 1237) (j := 6 * k + 2) rfl rfl (by omega) ⟨by omega, by omega⟩ e2 ?_
  refine sCvQ (p := 1240) (as := [_, _]) rfl rfl rfl rfl (by decide) (Nat.le_of_ble_eq_true rfl) rfl (Nat.le_of_ble_eq_true rfl) (sk_179 _) rfl (by omega) (hm) ?_
  rintro _ S2 ⟨rfl, ht0, h202, hJ2⟩
  refine sL (pc' := 1242) (i := .istore 6) (ls' := [some (.retAddr 0), some (.ref 0), some (.ref 179), some (.ref 202), some (.int (iI ((6 * k : Nat) : Int))), some (.int (iI 0)), some (.int (iI v))]) rfl rfl ?_
  refine sL (pc' := 1243) (i := .aload_n 2) rfl rfl ?_
  refine sCv (p := 1246) (as := []) rfl rfl rfl rfl (by decide) (Nat.le_of_ble_eq_true rfl) rfl (Nat.le_of_ble_eq_true rfl) (sk_179 _) rfl (by omega) (c_thr ht0) ?_
  refine sL (pc' := 1248) (i := .iload 5) rfl rfl ?_
  refine sIc_eq (p := 1251) rfl rfl ⟨by omega, by omega⟩ ⟨by omega, by omega⟩ (fun c1 => ?_) (fun c1 => ?_)
  · have c1 := c1
    refine sL (pc' := 1255) (i := .iload 5) rfl rfl ?_
    refine sIf_ne (p := 1258) rfl rfl ⟨by omega, by omega⟩ (fun c2 => ?_) (fun c2 => ?_)
    · exact absurd c2 (by decide)
    · have c2 := c2
      refine sL (pc' := 1259) (i := .aload_n 3) rfl rfl ?_
      refine sKi (p := 1260) rfl rfl ?_
      refine sAl (p := 1261) (i := 0) rfl rfl (sk_202 _) (by omega) ⟨by omega, by omega⟩ h202 ?_
      refine sL (pc' := 1263) (i := .iload 6) rfl rfl ?_
      refine sI2l (p := 1264) rfl rfl ⟨by omega, by omega⟩ ?_
      refine sLf_eq (p := 1268) rfl rfl rfl ⟨by omega, by omega⟩ ⟨by omega, by omega⟩ (fun c3 => ?_) (fun c3 => ?_)
      · have c3 := c3
        refine sL (i := .goto 259) rfl rfl ?_
        refine sInX (z := ((6 * k : Nat) : Int)) (ls' := [some (.retAddr 0), some (.ref 0), some (.ref 179), some (.ref 202), some (.int (iI (((6 * k : Nat) : Int) + 6))), some (.int (iI 0)), some (.int (iI v))]) (p := 1532) rfl rfl (Nat.le_of_ble_eq_true rfl) rfl rfl ?_
        refine sL (i := .goto (-1509)) rfl rfl ?_
        exact sHe ⟨rfl, ⟨_, _, rfl⟩, rfl, hJ2⟩
      · exfalso; omega
  · exact absurd c1 (by decide)
set_option maxRecDepth 100000 in
theorem lp_odds_t {z1 z2 : Int} (hk : 6 * k + 6 ≤ X.length) (hX : X.length ≤ 384) (e1 : (X.getD (6 * k + 1) 0).toInt = z1) (e2 : (X.getD (6 * k + 2) 0).toInt = z2) (hm : sM X 160 224 [.ref 179, .int (iI z1), .int (iI z2)] S (fun w T => w = some (.int (iI 0)) ∧ SI T 179 0 = 1 ∧ JI T)) : sT X 170 334 1222 [some (.retAddr 0), some (.ref 0), some (.ref 179), some (.ref 202), some (.int (iI ((6 * k : Nat) : Int))), none, none] [.int (iI 1)] S (xr_K k) := by
  refine sL (pc' := 1224) (i := .istore 5) (ls' := [some (.retAddr 0), some (.ref 0), some (.ref 179), some (.ref 202), some (.int (iI ((6 * k : Nat) : Int))), some (.int (iI 1)), none]) rfl rfl ?_
  refine sL (pc' := 1225) (i := .aload_n 2) rfl rfl ?_
  refine sL (pc' := 1226) (i := .aload_n 0) rfl rfl ?_
  refine sL (pc' := 1228) (i := .iload 4) rfl rfl ?_
  refine sKi (p := 1229) rfl rfl ?_
  refine sAd (p := 1230) rfl rfl ?_
  refine sSa (p := 1231) (j := 6 * k + 1) rfl rfl (by omega) ⟨by omega, by omega⟩ e1 ?_
  refine sL (pc' := 1232) (i := .aload_n 0) rfl rfl ?_
  refine sL (pc' := 1234) (i := .iload 4) rfl rfl ?_
  refine sKi (p := 1235) rfl rfl ?_
  refine sAd (p := 1236) rfl rfl ?_
  refine sSa (p := 1237) (j := 6 * k + 2) rfl rfl (by omega) ⟨by omega, by omega⟩ e2 ?_
  refine sCvQ (p := 1240) (as := [_, _]) rfl rfl rfl rfl (by decide) (Nat.le_of_ble_eq_true rfl) rfl (Nat.le_of_ble_eq_true rfl) (sk_179 _) rfl (by omega) (hm) ?_
  rintro _ S2 ⟨rfl, ht0, hJ2⟩
  refine sL (pc' := 1242) (i := .istore 6) (ls' := [some (.retAddr 0), some (.ref 0), some (.ref 179), some (.ref 202), some (.int (iI ((6 * k : Nat) : Int))), some (.int (iI 1)), some (.int (iI 0))]) rfl rfl ?_
  refine sL (pc' := 1243) (i := .aload_n 2) rfl rfl ?_
  refine sCv (p := 1246) (as := []) rfl rfl rfl rfl (by decide) (Nat.le_of_ble_eq_true rfl) rfl (Nat.le_of_ble_eq_true rfl) (sk_179 _) rfl (by omega) (c_thr ht0) ?_
  refine sL (pc' := 1248) (i := .iload 5) rfl rfl ?_
  refine sIc_eq (p := 1251) rfl rfl ⟨by omega, by omega⟩ ⟨by omega, by omega⟩ (fun c1 => ?_) (fun c1 => ?_)
  · have c1 := c1
    refine sL (pc' := 1255) (i := .iload 5) rfl rfl ?_
    refine sIf_ne (p := 1258) rfl rfl ⟨by omega, by omega⟩ (fun c2 => ?_) (fun c2 => ?_)
    · have c2 := c2
      refine sL (i := .goto 259) rfl rfl ?_
      refine sInX (z := ((6 * k : Nat) : Int)) (ls' := [some (.retAddr 0), some (.ref 0), some (.ref 179), some (.ref 202), some (.int (iI (((6 * k : Nat) : Int) + 6))), some (.int (iI 1)), some (.int (iI 0))]) (p := 1532) rfl rfl (Nat.le_of_ble_eq_true rfl) rfl rfl ?_
      refine sL (i := .goto (-1509)) rfl rfl ?_
      exact sHe ⟨rfl, ⟨_, _, rfl⟩, rfl, hJ2⟩
    · exact absurd c2 (by decide)
  · exact absurd c1 (by decide)
theorem MI_F {y' : Nat → Nat} {s' : Nat} (h : MI S n sz wt ro fn Fn nc rn rof ord sd tr tn up lo y s L kz) (f : frF S S') (ht : mT S' y' s') : MI S' n sz wt ro fn Fn nc rn rof ord sd tr tn up lo y' s' L kz := by
  have hi : ∀ j, j ≠ 0 ∧ j ≠ 13 → SI S' 179 j = SI S 179 j := fun j hj => f.2.2.2.1 j hj.1 hj.2
  have hc : ∀ c, c ≠ 179 ∧ c ≠ 188 → SI S' c = SI S c := fun c hc => f.2.2.1 c hc.1 hc.2
  have hl := f.2.2.2.2
  obtain ⟨a1, a2, a3, a4, a5, a6, a7, a8, a9, a10⟩ := h
  refine ⟨?_, ?_, ?_, ?_, ?_, ?_, ?_, ht, ?_, ?_⟩
  · unfold vM at *
    rw [hi 1 (by decide), hi 4 (by decide), hc 180 (by decide), hc 181 (by decide)]
    exact a1
  · unfold wM at *
    rw [hc 182 (by decide), hc 183 (by decide)]
    exact a2
  · unfold mFn rowS at *
    rw [hi 9 (by decide), hi 17 (by decide), hc 190 (by decide), hl]
    exact a3
  · unfold oM at *
    rw [hc 184 (by decide)]
    exact a4
  · unfold mSd rowS at *
    rw [hi 42 (by decide), hl]
    exact a5
  · rw [hi 19 (by decide), hc 191 (by decide)]
    exact a6
  · rw [hl]
    exact a7
  · unfold tbM at *
    rw [hi 44 (by decide), hc 201 (by decide)]
    exact a9
  · rw [hi 14 (by decide)]
    exact a10
theorem frMo_F (f : frF S S') : frMo S S' := ⟨f.1, fun c hc => ⟨f.2.2.1 c (by omega) (by omega), by rw [f.2.2.2.2], by rw [f.2.1]⟩⟩
theorem MI_202 {v : Int64} (h : MI S n sz wt ro fn Fn nc rn rof ord sd tr tn up lo y s L kz) : MI (wL S 202 0 v) n sz wt ro fn Fn nc rn rof ord sd tr tn up lo y s L kz := MI_cg h (fun _ _ _ => rfl) (fun c _ hc => funext fun j => by rw [SL_wL, if_neg (by omega)])
/-- the reference throws -/
theorem MI_th (h : MI S n sz wt ro fn Fn nc rn rof ord sd tr tn up lo y s L kz) : MI (wI (wI S 179 0 0) 179 0 1) n sz wt ro fn Fn nc rn rof ord sd tr tn up lo y s L kz := MI_eq h (fun j hj => (rI_nj (by omega)).trans (rI_nj (by omega))) (fun c hc => funext fun j => (rI_ne (by omega) j).trans (rI_ne (by omega) j)) (fun _ _ => rfl)
theorem MI_0 (h : MI S n sz wt ro fn Fn nc rn rof ord sd tr tn up lo y s L kz) : MI (wI S 179 0 0) n sz wt ro fn Fn nc rn rof ord sd tr tn up lo y s L kz := MI_eq h (fun j hj => rI_nj (by omega)) (fun c hc => funext fun j => rI_ne (by omega) j) (fun _ _ => rfl)
theorem MI_uo {p q : Int64} (h : MI S n sz wt ro fn Fn nc rn rof ord sd tr tn up lo y s L kz) : MI (wL (wL (wI S 179 0 0) 179 20 p) 179 21 q) n sz wt ro fn Fn nc rn rof ord sd tr tn p q y s L kz := by
  obtain ⟨a1, a2, a3, a4, a5, a6, a7, a8, a9, a10⟩ := MI_0 h
  have hl : ∀ c, c ≠ 179 → SL (wL (wL (wI S 179 0 0) 179 20 p) 179 21 q) c = SL (wI S 179 0 0) c := fun c hc => funext fun j => by rw [SL_wL, if_neg (fun z => hc z.1), SL_wL, if_neg (fun z => hc z.1)]
  refine ⟨a1, a2, ?_, a4, ?_, a6, ⟨?_, ?_⟩, a8, a9, a10⟩
  · unfold mFn rowS at *
    rw [hl 185 (by decide), hl 189 (by decide)]
    exact a3
  · unfold mSd rowS at *
    rw [hl 200 (by decide)]
    exact a5
  · rw [SL_wL, if_neg (by omega), SL_wL, if_pos ⟨rfl, rfl⟩]
  · rw [SL_wL, if_pos ⟨rfl, rfl⟩]
theorem frMo_th : frMo S (wI (wI S 179 0 0) 179 0 1) := frMo_trans (frMo_w ⟨by omega, by omega⟩) (frMo_w ⟨by omega, by omega⟩)
theorem J_feed {a b c e f : Int} (hJ : JI S) : (sM X 200 338 [.ref 0, .int (iI a), .int (iI b), .int (iI c), .int (iI e), .int (iI f), .ref 202] S (fun w T => w = some (.int (iI 0)) ∧ ∃ v : Int, rg v ∧ sM X 160 189 [.ref 179, .int (iI a), .int (iI b), .int (iI c), .int (iI e), .int (iI f)] T (fun w T2 => w = some (.int (iI v)) ∧ SI T2 179 0 = 0 ∧ SL T2 202 0 = lI v ∧ JI T2))) ∨ sT X 199 134 0 [some (.ref 0), some (.int (iI a)), some (.int (iI b)), some (.int (iI c)), some (.int (iI e)), some (.int (iI f))] [] S (fun pc _ st T => pc = 10 ∧ st = [] ∧ sM X 160 189 [.ref 179, .int (iI a), .int (iI b), .int (iI c), .int (iI e), .int (iI f)] T (fun w T2 => w = some (.int (iI 0)) ∧ SI T2 179 0 = 1 ∧ JI T2)) := by
  obtain ⟨n, sz, wt, ro, fn, Fn, nm, ord, sd, tr, tn, up, lo, Z, y, s, L, m, kz, nc, rn, rof, hK, hM, hR⟩ := hJ
  have hs4 := hK.2.1.1
  by_cases hs : s ≤ 380
  · refine Or.inl (sM.weaken (h_feed hK.1 hK.2.1 hs) ?_)
    rintro w T ⟨rfl, S1, rfl, g1, g2, g3, g4⟩
    refine ⟨rfl, ((s + 4 + 4 + 4 + 4 + 4 : Nat) : Int), ⟨by omega, by omega⟩, ?_⟩
    have hM1 := MI_202 (v := lI ((s + 4 + 4 + 4 + 4 + 4 : Nat) : Int)) (MI_V hM g3)
    refine sM.deeper (sM.weaken (m_feed hM1.2.2.2.2.2.2.2.1 hs) ?_) (by decide)
    rintro w T ⟨rfl, k1, k2, k3⟩
    refine ⟨rfl, k3, ?_, J_of (KI_Mo ⟨g2, g1, sbB_V hK.2.2.1 g3, by rw [g4]; exact hK.2.2.2⟩ (frMo_trans (frMo_l ⟨by omega, by omega⟩) (frMo_F k2))) (MI_F hM1 k2 k1) hR⟩
    rw [k2.2.2.2.2, SL_wL, if_pos ⟨rfl, rfl⟩]
  · exact Or.inr (t_feed hK.2.1 hs (sM.deeper (sM_of (m_feed_t hM.2.2.2.2.2.2.2.1 hs) ⟨rfl, rI_at, J_of (KI_Mo hK frMo_th) (MI_th hM) hR⟩) (by decide)))
theorem J_end {x : Int} (hJ : JI S) (hx : rg x) : (sM X 200 339 [.ref 0, .int (iI x)] S (fun w T => w = some (.int (iI 0)) ∧ sM X 160 190 [.ref 179, .int (iI x)] T (fun w T2 => w = none ∧ SI T2 179 0 = 0 ∧ JI T2))) ∨ sT X 199 135 0 [some (.ref 0), some (.int (iI x))] [] S (fun pc _ st T => pc = 15 ∧ st = [] ∧ sM X 160 190 [.ref 179, .int (iI x)] T (fun w T2 => w = none ∧ SI T2 179 0 = 1 ∧ JI T2)) := by
  obtain ⟨n, sz, wt, ro, fn, Fn, nm, ord, sd, tr, tn, up, lo, Z, y, s, L, m, kz, nc, rn, rof, hK, hM, hR⟩ := hJ
  have hs4 := hK.2.1.1
  by_cases hb : 0 ≤ x ∧ x ≤ ((s : Nat) : Int)
  · obtain ⟨j, rfl⟩ : ∃ j : Nat, x = ((j : Nat) : Int) := ⟨x.toNat, by omega⟩
    have hj : j ≤ s := by omega
    refine Or.inl (sM.weaken (h_end hK.1 hK.2.1 hj) ?_)
    rintro w T ⟨rfl, g1, g2, g3, g4⟩
    refine ⟨rfl, ?_⟩
    have hM1 := MI_V hM g3
    have hT := hM1.2.2.2.2.2.2.2.1
    have fF : frF T (wI (wI T 179 0 0) 179 13 ((j : Nat) : Int)) := ⟨rfl, rfl, fun c h1 h2 => funext fun i => (rI_ne h1 i).trans (rI_ne h1 i), fun i h1 h2 => (rI_nj h2).trans (rI_nj h1), rfl⟩
    refine sM.deeper (sM_of (m_end hT hj) ⟨rfl, (rI_nj (by decide)).trans rI_at, J_of (KI_Mo ⟨g2, g1, sbB_V hK.2.2.1 g3, by rw [g4]; exact hK.2.2.2⟩ (frMo_F fF)) (MI_F hM1 fF ⟨by omega, hT.2.1, rI_at, fun i hi => ?_⟩) hR⟩) (by decide)
    exact (rI_ne (by decide) i).trans ((rI_ne (by decide) i).trans (hT.2.2.2 i (by omega)))
  · exact Or.inr (t_end hK.2.1 hx hb (sM.deeper (sM_of (m_end_t hM.2.2.2.2.2.2.2.1 hx hb) ⟨rfl, rI_at, J_of (KI_Mo hK frMo_th) (MI_th hM) hR⟩) (by decide)))
theorem SI_uo {T : ST} {p q : Int64} : SI (wL (wL (wI T 179 0 0) 179 20 p) 179 21 q) 179 0 = 0 := show SI (wI T 179 0 0) 179 0 = 0 from rI_at
theorem sgO_rg (x q : Int) : rg (sgO x q) := by
  unfold sgO
  split
  · exact ⟨by omega, by omega⟩
  · split
    · exact ⟨by omega, by omega⟩
    · exact ⟨by omega, by omega⟩
theorem J_odds {x q : Int} (hJ : JI S) (hx : rg x) (hq : rg q) : (sM X 200 340 [.ref 0, .int (iI x), .int (iI q), .ref 202] S (fun w T => w = some (.int (iI 0)) ∧ ∃ v : Int, rg v ∧ sM X 160 224 [.ref 179, .int (iI x), .int (iI q)] T (fun w T2 => w = some (.int (iI v)) ∧ SI T2 179 0 = 0 ∧ SL T2 202 0 = lI v ∧ JI T2))) ∨ sT X 199 148 0 [some (.ref 0), some (.int (iI x)), some (.int (iI q)), none, none, none, none, none, none, none] [] S (fun pc _ st T => pc = 72 ∧ st = [] ∧ sM X 160 224 [.ref 179, .int (iI x), .int (iI q)] T (fun w T2 => w = some (.int (iI 0)) ∧ SI T2 179 0 = 1 ∧ JI T2)) := by
  obtain ⟨n, sz, wt, ro, fn, Fn, nm, ord, sd, tr, tn, up, lo, Z, y, s, L, m, kz, nc, rn, rof, hK, hM, hR⟩ := hJ
  have h40 := hM.2.2.1.2.1
  have hT := hM.1.1.2.2
  have hwq := wq_bM hM.1.1 hM.2.1
  by_cases hb : (0 ≤ x ∧ x < fn) ∧ (q = -1 ∨ (0 ≤ q ∧ q < fn))
  · obtain ⟨u, rfl⟩ : ∃ u : Nat, x = ((u : Nat) : Int) := ⟨x.toNat, by omega⟩
    have hu : u < fn := by omega
    by_cases c1 : q = -1
    · subst c1
      obtain ⟨l, hl, hlb⟩ := swt_n (p := fun _ => true) hwq hT
      obtain ⟨m9, hm, hmb⟩ := swt_n (p := fun r => Fn u r) hwq hT
      by_cases h0 : l = 0
      · refine Or.inr (t_odds_N (v := 0) hK.1 hu (by rw [hl, h0]; rfl) (fun T hC hf => ?_))
        have hM1 := MI_X hM hf
        exact sM.deeper (sM_of (m_odds_Nz (v := 0) hM1.1 hM1.2.2.1.1 h40 hM1.2.2.1.2.2.1 hM1.2.1 hu hl h0) ⟨rfl, rI_at, J_of (KI_Mo (KI_X hK hf hC) frMo_th) (MI_th hM1) hR⟩) (by decide)
      · refine Or.inl (sM.weaken (h_odds (sgO_rg _ _) (k_Odds_N (v := 0) hK.1 hu hl hm (by omega) hlb hmb)) ?_)
        rintro w T ⟨rfl, S1, rfl, hC, hf⟩
        refine ⟨rfl, _, sgO_rg ((m9 / Nat.gcd l m9 : Nat) : Int) ((l / Nat.gcd l m9 : Nat) : Int), ?_⟩
        have hM1 := MI_202 (v := lI (sgO ((m9 / Nat.gcd l m9 : Nat) : Int) ((l / Nat.gcd l m9 : Nat) : Int))) (MI_X hM hf)
        refine sM.deeper (sM_of (m_odds_Nk (v := 0) hM1.1 hM1.2.2.1.1 h40 hM1.2.2.1.2.2.1 hM1.2.1 hu hl hm (by omega) hlb hmb) ⟨rfl, SI_uo, ?_, J_of (KI_Mo (KI_X hK hf hC) (frMo_trans (frMo_l ⟨by omega, by omega⟩) (frMo_trans (frMo_w ⟨by omega, by omega⟩) (frMo_trans (frMo_l ⟨by omega, by omega⟩) (frMo_l ⟨by omega, by omega⟩))))) (MI_uo hM1) hR⟩) (by decide)
        rw [SL_wL, if_neg (by omega), SL_wL, if_neg (by omega)]
        show SL (wL S1 202 0 _) 202 0 = _
        rw [SL_wL, if_pos ⟨rfl, rfl⟩]
    · obtain ⟨v, rfl⟩ : ∃ v : Nat, q = ((v : Nat) : Int) := ⟨q.toNat, by omega⟩
      have hvf : v < fn := by omega
      obtain ⟨l, hl, hlb⟩ := swt_n (p := fun r => Fn v r) hwq hT
      obtain ⟨m9, hm, hmb⟩ := swt_n (p := fun r => Fn u r && Fn v r) hwq hT
      by_cases h0 : l = 0
      · refine Or.inr (t_odds_F hK.1 hu hvf (by rw [hl, h0]; rfl) (fun T hC hf => ?_))
        have hM1 := MI_X hM hf
        exact sM.deeper (sM_of (m_odds_Fz hM1.1 hM1.2.2.1.1 h40 hM1.2.2.1.2.2.1 hM1.2.1 hu hvf hl h0) ⟨rfl, rI_at, J_of (KI_Mo (KI_X hK hf hC) frMo_th) (MI_th hM1) hR⟩) (by decide)
      · refine Or.inl (sM.weaken (h_odds (sgO_rg _ _) (k_Odds_F hK.1 hu hvf hl hm (by omega) hlb hmb)) ?_)
        rintro w T ⟨rfl, S1, rfl, hC, hf⟩
        refine ⟨rfl, _, sgO_rg ((m9 / Nat.gcd l m9 : Nat) : Int) ((l / Nat.gcd l m9 : Nat) : Int), ?_⟩
        have hM1 := MI_202 (v := lI (sgO ((m9 / Nat.gcd l m9 : Nat) : Int) ((l / Nat.gcd l m9 : Nat) : Int))) (MI_X hM hf)
        refine sM.deeper (sM_of (m_odds_Fk hM1.1 hM1.2.2.1.1 h40 hM1.2.2.1.2.2.1 hM1.2.1 hu hvf hl hm (by omega) hlb hmb) ⟨rfl, SI_uo, ?_, J_of (KI_Mo (KI_X hK hf hC) (frMo_trans (frMo_l ⟨by omega, by omega⟩) (frMo_trans (frMo_w ⟨by omega, by omega⟩) (frMo_trans (frMo_l ⟨by omega, by omega⟩) (frMo_l ⟨by omega, by omega⟩))))) (MI_uo hM1) hR⟩) (by decide)
        rw [SL_wL, if_neg (by omega), SL_wL, if_neg (by omega)]
        show SL (wL S1 202 0 _) 202 0 = _
        rw [SL_wL, if_pos ⟨rfl, rfl⟩]
  · refine Or.inl (sM.weaken (h_odds (v := -101) ⟨by omega, by omega⟩ (k_Odds_u hK.1 hx hq hb)) ?_)
    rintro w T ⟨rfl, S1, rfl, hC, hf⟩
    refine ⟨rfl, -101, ⟨by omega, by omega⟩, ?_⟩
    have hM1 := MI_202 (v := lI (-101)) (MI_X hM hf)
    refine sM.deeper (sM_of (m_odds_u hM1.1 hM1.2.2.1.1 h40 hx hq hb) ⟨rfl, rI_at, ?_, J_of (KI_Mo (KI_X hK hf hC) (frMo_trans (frMo_l ⟨by omega, by omega⟩) (frMo_w ⟨by omega, by omega⟩))) (MI_0 hM1) hR⟩) (by decide)
    show SL (wL S1 202 0 _) 202 0 = _
    rw [SL_wL, if_pos ⟨rfl, rfl⟩]
end JM
