/-! ===== the class: best, weigh, walking, the order ===== -/
section CY
variable {X : List Int32} {S : ST} {n fn Z : Nat} {sz ord : Nat → Nat} {wt : Nat → Int} {ro : Nat → Bool} {Fn : Nat → Nat → Bool} {nm : Nat → Int64} {sd : Option (Nat → Bool)} {tr tn : Int} {up lo : Int64}
theorem wgB_SI {q : Bool} {c k : Nat} (h : c ≠ 1 ∨ k ≠ 5) : SI (wgB q S n sz wt ro) c k = SI S c k := by
  cases q with
  | false => rfl
  | true =>
    show SI (wI (wgv S sz wt ro n) 1 5 (bI true)) c k = _
    rw [SI_wI, if_neg (by omega)]
    rfl
theorem wgB_SL {q : Bool} {c : Nat} (h : c ≠ 6) : SL (wgB q S n sz wt ro) c = SL S c := by
  cases q with
  | false => rfl
  | true => exact if_neg h
theorem wgB_1 {q : Bool} : (wgB q S n sz wt ro).1 = S.1 ∧ SR (wgB q S n sz wt ro) = SR S := by cases q <;> exact ⟨rfl, rfl⟩
/-- runs' weights are reckoned: nobody sees it -/
theorem CI_wg {q : Bool} (h : CI S n sz wt ro fn Fn nm ord sd tr tn up lo Z) : CI (wgB q S n sz wt ro) n sz wt ro fn Fn nm ord sd tr tn up lo Z ∧ frX S (wgB q S n sz wt ro) := by
  have hC := h
  obtain ⟨hvC, hwC, ⟨wb, hgC⟩, _, _, t1, t2, t3, t4⟩ := h
  have hI : ∀ c, c ≠ 0 → c ≠ 1 → c ≠ 4 → c ≠ 5 → SI (wgB q S n sz wt ro) c = SI S c := fun c _ h1 _ _ => funext fun k => wgB_SI (Or.inl h1)
  have hL : ∀ c, c ≠ 0 → c ≠ 6 → SL (wgB q S n sz wt ro) c = SL S c := fun c _ h6 => wgB_SL h6
  have h9 := CI_upd (S' := wgB q S n sz wt ro) hC wgB_1.1 wgB_1.2 hI (wgB_SI (Or.inr (by decide))) (wgB_SI (Or.inr (by decide))) (wgB_SI (Or.inl (by decide))) hL (wgB_wC hwC) ⟨_, wgB_gC hgC⟩
  rw [wgB_SI (Or.inl (by decide)), wgB_SI (Or.inl (by decide)), wgB_SL (by decide), t1, t2, t3, t4] at h9
  exact ⟨h9, frX_upd wgB_1.1 wgB_1.2 hI hL⟩
theorem wgh_wg : wgh S n sz wt ro = wgB true S n sz wt ro := rfl
theorem wC_b (h : wC S wt ro) : ∀ i, i < 60 → 0 ≤ wt i ∧ wt i ≤ 30 := fun i hi => ⟨(h i hi).2.2.1, (h i hi).2.2.2⟩
theorem k_Weigh {x : Int} (h : CI S n sz wt ro fn Fn nm ord sd tr tn up lo Z) (hx : rg x) : sM X 18 151 [.ref 0, .int (iI x)] S (qQ (.long (lI (if ¬ (0 ≤ x ∧ x < fn) then -101 else swt (fun r => Fn x.toNat r) (wq sz wt ro n) (pr sz n)))) (fun S' => CI S' n sz wt ro fn Fn nm ord sd tr tn up lo Z) S) := by
  have hCI := h
  obtain ⟨hvC, hwC, ⟨wb, hgC⟩, ⟨hfn, hdr, h40, hF, hev, hnm, htb⟩, ⟨b, R, pl, D, U, rt, hR, hro, hsd, hz1, hz2⟩, t1, t2, t3, t4⟩ := h
  have hn := hvC.1.1
  have hT0 := hvC.1.2.2
  have x1 := hx.1
  have x2 := hx.2
  refine sIni (ls := [some (.ref 0), some (.int (iI x))]) rfl ?_
  refine sL (pc' := 1) (i := .aload_n 0) rfl rfl ?_
  refine sGc (p := 4) rfl rfl (sk_0 _) rfl rfl rfl ?_
  refine sL (pc' := 5) (i := .iload_n 1) rfl rfl ?_
  refine sCv (p := 8) (as := [_]) rfl rfl rfl rfl (by decide) (Nat.le_of_ble_eq_true rfl) rfl (Nat.le_of_ble_eq_true rfl) (sk_7 _) rfl (by omega) (c_fhas hfn h40 hx) ?_
  refine sBn (p := 11) rfl rfl (fun c1 => ?_) (fun c1 => ?_)
  · have c1 := c1
    have c1 := of_decide_eq_true c1
    obtain ⟨f0, rfl⟩ : ∃ f0 : Nat, x = (f0 : Int) := ⟨x.toNat, by omega⟩
    have hf0 : f0 < fn := by omega
    refine sL (pc' := 16) (i := .aload_n 0) rfl rfl ?_
    refine sGc (p := 19) rfl rfl (sk_0 _) rfl rfl rfl ?_
    refine sL (pc' := 20) (i := .aload_n 0) rfl rfl ?_
    refine sGc (p := 23) rfl rfl (sk_0 _) rfl rfl rfl ?_
    refine sL (pc' := 24) (i := .iload_n 1) rfl rfl ?_
    refine sCv (p := 27) (as := [_]) rfl rfl rfl rfl (by decide) (Nat.le_of_ble_eq_true rfl) rfl (Nat.le_of_ble_eq_true rfl) (sk_7 _) rfl (by omega) (c_row (i := f0) (by omega)) ?_
    refine sL (pc' := 28) (i := .aload_n 0) rfl rfl ?_
    refine sGc (p := 31) rfl rfl (sk_0 _) rfl rfl rfl ?_
    refine sGc (p := 34) rfl rfl (sk_7 _) rfl rfl rfl ?_
    refine sCv (p := 37) (as := [_, _]) rfl rfl rfl rfl (by decide) (Nat.le_of_ble_eq_true rfl) rfl (Nat.le_of_ble_eq_true rfl) (sk_7 _) rfl (by omega) (c_weightOfBoth (a := 9 + f0) (b := 51) hvC hwC hgC (sk_rows _ (by omega)) (sk_51 _) (by omega) (by decide) (hF f0 hf0) hev) ?_
    refine sEn (i := .lreturn) rfl (rfl) ?_
    refine ⟨congrArg (fun z => some (Value.long (lI z))) ?_, (CI_wg hCI).1, (CI_wg hCI).2⟩
    rw [if_neg (by omega)]
    exact swt_c (fun r hr => by show (Fn f0 r && decide (r < pr sz n)) = Fn f0 r; rw [decide_eq_true hr, Bool.and_true])
  · have c1 := c1
    have c1 := of_decide_eq_false c1
    refine sL (pc' := 14) (i := .ldc2_w 230) (st' := [.long (lI (-101))]) rfl rfl ?_
    refine sEn (i := .lreturn) rfl (rfl) ?_
    exact ⟨congrArg (fun z => some (Value.long (lI z))) (by rw [if_pos (by omega)]), hCI, frX_refl _⟩
theorem k_Best {x : Int} (h : CI S n sz wt ro fn Fn nm ord sd tr tn up lo Z) (hx : rg x) : sM X 18 145 [.ref 0, .int (iI x)] S (qQ (.long (lI (if ¬ (0 ≤ x ∧ x < fn) then -101 else (bsM sz n (Fn x.toNat) (wq sz wt ro n) (pr sz n)).2))) (fun S' => CI S' n sz wt ro fn Fn nm ord sd (if (0 ≤ x ∧ x < fn) ∧ (bsM sz n (Fn x.toNat) (wq sz wt ro n) (pr sz n)).1 ≠ -1 then (bsM sz n (Fn x.toNat) (wq sz wt ro n) (pr sz n)).1 else tr) (if (0 ≤ x ∧ x < fn) ∧ (bsM sz n (Fn x.toNat) (wq sz wt ro n) (pr sz n)).1 ≠ -1 then ((n : Nat) : Int) else tn) up lo Z) S) := by
  have hCI := h
  obtain ⟨hvC, hwC, ⟨wb, hgC⟩, ⟨hfn, hdr, h40, hF, hev, hnm, htb⟩, ⟨b, R, pl, D, U, rt, hR, hro, hsd, hz1, hz2⟩, t1, t2, t3, t4⟩ := h
  have hn := hvC.1.1
  have hT0 := hvC.1.2.2
  have x1 := hx.1
  have x2 := hx.2
  have hqb : ∀ r, 0 ≤ wq sz wt ro n r ∧ wq sz wt ro n r ≤ 590490000000000 := fun r => wq_b hvC.1 (wC_b hwC) r
  refine sIni (ls := [some (.ref 0), some (.int (iI x)), none]) rfl ?_
  refine sL (pc' := 1) (i := .aload_n 0) rfl rfl ?_
  refine sGc (p := 4) rfl rfl (sk_0 _) rfl rfl rfl ?_
  refine sL (pc' := 5) (i := .iload_n 1) rfl rfl ?_
  refine sCv (p := 8) (as := [_]) rfl rfl rfl rfl (by decide) (Nat.le_of_ble_eq_true rfl) rfl (Nat.le_of_ble_eq_true rfl) (sk_7 _) rfl (by omega) (c_fhas hfn h40 hx) ?_
  refine sBn (p := 11) rfl rfl (fun c1 => ?_) (fun c1 => ?_)
  · have c1 := c1
    have c1 := of_decide_eq_true c1
    obtain ⟨f0, rfl⟩ : ∃ f0 : Nat, x = (f0 : Int) := ⟨x.toNat, by omega⟩
    have hf0 : f0 < fn := by omega
    have hbb := (bsM_b (sz := sz) (n := n) (f := Fn f0) (q := wq sz wt ro n) hqb (pr sz n)).2.1
    refine sL (pc' := 16) (i := .aload_n 0) rfl rfl ?_
    refine sGc (p := 19) rfl rfl (sk_0 _) rfl rfl rfl ?_
    refine sL (pc' := 20) (i := .iload_n 1) rfl rfl ?_
    refine sCv (p := 23) (as := [_]) rfl rfl rfl rfl (by decide) (Nat.le_of_ble_eq_true rfl) rfl (Nat.le_of_ble_eq_true rfl) (sk_7 _) rfl (by omega) (c_heaviestRun hvC hwC hgC (by omega) (hF f0 hf0)) ?_
    rw [hvr_bsM hvC.1 (fun r => (hqb r).1)]
    refine sL (pc' := 24) (i := .istore_n 2) (ls' := [some (.ref 0), some (.int (iI ((f0 : Nat) : Int))), some (.int (iI ((bsM sz n (Fn f0) (wq sz wt ro n) (pr sz n)).1)))]) rfl rfl ?_
    refine sL (pc' := 25) (i := .iload_n 2) rfl rfl ?_
    refine sKi (p := 26) rfl rfl ?_
    refine sIc_ne (p := 29) rfl rfl ⟨by omega, by omega⟩ ⟨by omega, by omega⟩ (fun c2 => ?_) (fun c2 => ?_)
    · have c2 := c2
      obtain ⟨r9, hr9, hz9, hw9⟩ : ∃ r : Nat, r < pr sz n ∧ (bsM sz n (Fn f0) (wq sz wt ro n) (pr sz n)).1 = (r : Int) ∧ (bsM sz n (Fn f0) (wq sz wt ro n) (pr sz n)).2 = wq sz wt ro n r := by
        rcases bsM_bs (n := n) (sz := sz) (f := Fn f0) (fun r => (hqb r).1) (pr sz n) (Nat.le_refl _) with ⟨h1, h2⟩ | ⟨r, h1, h2, h3, h4, h5, h6⟩
        · exact absurd (show (bsM sz n (Fn f0) (wq sz wt ro n) (pr sz n)).1 = -1 by rw [h1]) (by assumption)
        · exact ⟨r, h1, by rw [h3], by rw [h3]⟩
      have hvT : vC (wI (wI (wgB (anyB (fun i => Fn f0 (sq sz n i)) (pr sz n)) S n sz wt ro) 0 7 (bsM sz n (Fn f0) (wq sz wt ro n) (pr sz n)).1) 0 8 ((n : Nat) : Int)) n sz := by
        obtain ⟨v1, v2, v3, v4, v5⟩ := wgB_vC (b := (anyB (fun i => Fn f0 (sq sz n i)) (pr sz n))) (wt := wt) (ro := ro) hvC
        exact ⟨v1, (rI_ne (by decide) _).trans ((rI_ne (by decide) _).trans v2), (rI_ne (by decide) _).trans ((rI_ne (by decide) _).trans v3), fun k hk => (rI_ne (by decide) _).trans ((rI_ne (by decide) _).trans (v4 k hk)), fun k hk => (rI_ne (by decide) _).trans ((rI_ne (by decide) _).trans (v5 k hk))⟩
      have hwT : wC (wI (wI (wgB (anyB (fun i => Fn f0 (sq sz n i)) (pr sz n)) S n sz wt ro) 0 7 (bsM sz n (Fn f0) (wq sz wt ro n) (pr sz n)).1) 0 8 ((n : Nat) : Int)) wt ro := fun i hi => by
        rw [rI_ne (by decide), rI_ne (by decide), rI_ne (by decide), rI_ne (by decide)]
        exact wgB_wC (b := (anyB (fun i => Fn f0 (sq sz n i)) (pr sz n))) hwC i hi
      have hgT : gC (wI (wI (wgB (anyB (fun i => Fn f0 (sq sz n i)) (pr sz n)) S n sz wt ro) 0 7 (bsM sz n (Fn f0) (wq sz wt ro n) (pr sz n)).1) 0 8 ((n : Nat) : Int)) n sz wt ro ((anyB (fun i => Fn f0 (sq sz n i)) (pr sz n)) || wb) := by
        have h9 := wgB_gC (b := (anyB (fun i => Fn f0 (sq sz n i)) (pr sz n))) hgC
        exact ⟨(rI_ne (by decide) _).trans ((rI_ne (by decide) _).trans h9.1), h9.2⟩
      refine sL (pc' := 32) (i := .aload_n 0) rfl rfl ?_
      refine sL (pc' := 33) (i := .iload_n 2) rfl rfl ?_
      refine sCv (p := 36) (as := [_]) rfl rfl rfl rfl (by decide) (Nat.le_of_ble_eq_true rfl) rfl (Nat.le_of_ble_eq_true rfl) (sk_0 _) rfl (by omega) (c_tell (S := wgB (anyB (fun i => Fn f0 (sq sz n i)) (pr sz n)) S n sz wt ro) (wgB_vC hvC)) ?_
      refine sL (pc' := 37) (i := .aload_n 0) rfl rfl ?_
      refine sGc (p := 40) rfl rfl (sk_0 _) rfl rfl rfl ?_
      refine sL (pc' := 41) (i := .iload_n 2) rfl rfl ?_
      refine sCv (p := 44) (as := [_]) rfl rfl rfl rfl (by decide) (Nat.le_of_ble_eq_true rfl) rfl (Nat.le_of_ble_eq_true rfl) (sk_1 _) rfl (by omega) ((show sM X 2 22 [.ref 1, .int (iI (bsM sz n (Fn f0) (wq sz wt ro n) (pr sz n)).1)] (wI (wI (wgB (anyB (fun i => Fn f0 (sq sz n i)) (pr sz n)) S n sz wt ro) 0 7 (bsM sz n (Fn f0) (wq sz wt ro n) (pr sz n)).1) 0 8 ((n : Nat) : Int)) (sV (some (.long (lI (wq sz wt ro n r9)))) (wgh (wI (wI (wgB (anyB (fun i => Fn f0 (sq sz n i)) (pr sz n)) S n sz wt ro) 0 7 (bsM sz n (Fn f0) (wq sz wt ro n) (pr sz n)).1) 0 8 ((n : Nat) : Int)) n sz wt ro)) by have h8 := c_weightOfRun (X := X) (S := (wI (wI (wgB (anyB (fun i => Fn f0 (sq sz n i)) (pr sz n)) S n sz wt ro) 0 7 (bsM sz n (Fn f0) (wq sz wt ro n) (pr sz n)).1) 0 8 ((n : Nat) : Int))) (b := (anyB (fun i => Fn f0 (sq sz n i)) (pr sz n)) || wb) hvT hwT hgT hr9; rw [show ((r9 : Nat) : Int) = (bsM sz n (Fn f0) (wq sz wt ro n) (pr sz n)).1 from hz9.symm] at h8; exact h8)) ?_
      refine sEn (i := .lreturn) rfl (rfl) ?_
      have hC8 := (CI_wg (q := (anyB (fun i => Fn f0 (sq sz n i)) (pr sz n))) hCI)
      obtain ⟨u1, u2, u3, u4, u5, u6, u7, u8, u9⟩ := hC8.1
      have hI9 : ∀ c, c ≠ 0 → c ≠ 1 → c ≠ 4 → c ≠ 5 → SI (wI (wI (wgB (anyB (fun i => Fn f0 (sq sz n i)) (pr sz n)) S n sz wt ro) 0 7 (bsM sz n (Fn f0) (wq sz wt ro n) (pr sz n)).1) 0 8 ((n : Nat) : Int)) c = SI (wgB (anyB (fun i => Fn f0 (sq sz n i)) (pr sz n)) S n sz wt ro) c := fun c h0 _ _ _ => (u2_ne h0).trans (u2_ne h0)
      have hC9 := CI_upd (S' := (wI (wI (wgB (anyB (fun i => Fn f0 (sq sz n i)) (pr sz n)) S n sz wt ro) 0 7 (bsM sz n (Fn f0) (wq sz wt ro n) (pr sz n)).1) 0 8 ((n : Nat) : Int))) hC8.1 rfl rfl hI9 ((rI_ne (by decide) _).trans (rI_ne (by decide) _)) ((rI_ne (by decide) _).trans (rI_ne (by decide) _)) ((rI_nj (by decide)).trans (rI_nj (by decide))) (fun _ _ _ => rfl) hwT ⟨_, hgT⟩
      rw [show SI (wI (wI (wgB (anyB (fun i => Fn f0 (sq sz n i)) (pr sz n)) S n sz wt ro) 0 7 (bsM sz n (Fn f0) (wq sz wt ro n) (pr sz n)).1) 0 8 ((n : Nat) : Int)) 0 7 = (bsM sz n (Fn f0) (wq sz wt ro n) (pr sz n)).1 from (rI_nj (by decide)).trans rI_at, show SI (wI (wI (wgB (anyB (fun i => Fn f0 (sq sz n i)) (pr sz n)) S n sz wt ro) 0 7 (bsM sz n (Fn f0) (wq sz wt ro n) (pr sz n)).1) 0 8 ((n : Nat) : Int)) 0 8 = ((n : Nat) : Int) from rI_at, show SL (wI (wI (wgB (anyB (fun i => Fn f0 (sq sz n i)) (pr sz n)) S n sz wt ro) 0 7 (bsM sz n (Fn f0) (wq sz wt ro n) (pr sz n)).1) 0 8 ((n : Nat) : Int)) = SL (wgB (anyB (fun i => Fn f0 (sq sz n i)) (pr sz n)) S n sz wt ro) from rfl, u8, u9] at hC9
      have hC7 := CI_wg (q := true) hC9
      refine ⟨congrArg (fun z => some (Value.long (lI z))) (by rw [if_neg (by omega)]; exact hw9.symm), ?_, frX_trans (frX_trans hC8.2 (frX_upd (S' := (wI (wI (wgB (anyB (fun i => Fn f0 (sq sz n i)) (pr sz n)) S n sz wt ro) 0 7 (bsM sz n (Fn f0) (wq sz wt ro n) (pr sz n)).1) 0 8 ((n : Nat) : Int))) rfl rfl hI9 (fun _ _ _ => rfl))) hC7.2⟩
      rw [if_pos ⟨by omega, by assumption⟩, if_pos ⟨by omega, by assumption⟩]
      exact hC7.1
    · have c2 := c2
      have hz0 : (bsM sz n (Fn f0) (wq sz wt ro n) (pr sz n)).2 = 0 := by
        rcases bsM_bs (n := n) (sz := sz) (f := Fn f0) (fun r => (hqb r).1) (pr sz n) (Nat.le_refl _) with ⟨h1, h2⟩ | ⟨r, h1, h2, h3, h4, h5, h6⟩
        · rw [h1]
        · exfalso
          have h9 : (bsM sz n (Fn f0) (wq sz wt ro n) (pr sz n)).1 = -1 := by assumption
          rw [h3] at h9
          have h9 : ((r : Nat) : Int) = -1 := h9
          omega
      refine sKj0 (p := 30) rfl rfl rfl ?_
      refine sEn (i := .lreturn) rfl (rfl) ?_
      refine ⟨congrArg (fun z => some (Value.long (lI z))) (by rw [if_neg (by omega)]; exact hz0.symm), ?_, (CI_wg hCI).2⟩
      rw [if_neg (fun z => z.2 (by assumption)), if_neg (fun z => z.2 (by assumption))]
      exact (CI_wg hCI).1
  · have c1 := c1
    have c1 := of_decide_eq_false c1
    refine sL (pc' := 14) (i := .ldc2_w 230) (st' := [.long (lI (-101))]) rfl rfl ?_
    refine sEn (i := .lreturn) rfl (rfl) ?_
    exact ⟨congrArg (fun z => some (Value.long (lI z))) (by rw [if_pos (by omega)]), by rw [if_neg (by omega), if_neg (by omega)]; exact hCI, frX_refl _⟩
theorem k_Enter_u {x : Int} (h : CI S n sz wt ro fn Fn nm ord sd tr tn up lo Z) (hx : rg x) (hn : ¬ (0 ≤ x ∧ x < fn)) : sM X 19 152 [.ref 0, .int (iI x)] S (qQ (.int (iI (-101))) (fun S' => CI S' n sz wt ro fn Fn nm ord sd tr tn up lo Z) S) := by
  have hCI := h
  obtain ⟨hvC, hwC, ⟨wb, hgC⟩, ⟨hfn, hdr, h40, hF, hev, hnm, htb⟩, ⟨b, R, pl, D, U, rt, hR, hro, hsd, hz1, hz2⟩, t1, t2, t3, t4⟩ := h
  have hn9 := hvC.1.1
  have hT0 := hvC.1.2.2
  have x1 := hx.1
  have x2 := hx.2
  refine sIni (ls := [some (.ref 0), some (.int (iI x))]) rfl ?_
  refine sL (pc' := 1) (i := .aload_n 0) rfl rfl ?_
  refine sGc (p := 4) rfl rfl (sk_0 _) rfl rfl rfl ?_
  refine sL (pc' := 5) (i := .iload_n 1) rfl rfl ?_
  refine sCv (p := 8) (as := [_]) rfl rfl rfl rfl (by decide) (Nat.le_of_ble_eq_true rfl) rfl (Nat.le_of_ble_eq_true rfl) (sk_7 _) rfl (by omega) (c_fhas hfn h40 hx) ?_
  refine sBn (p := 11) rfl rfl (fun c1 => ?_) (fun c1 => ?_)
  · exfalso; have c1 := of_decide_eq_true c1; omega
  · have c1 := c1
    have c1 := of_decide_eq_false c1
    refine sKb (p := 13) rfl rfl ?_
    refine sEn (i := .ireturn) rfl (rfl) ?_
    exact ⟨rfl, hCI, frX_refl _⟩
theorem frX_0 {z : Int} : frX S (wI S 0 6 z) := ⟨⟨[], (List.append_nil _).symm⟩, fun c h1 _ => ⟨u2_ne (by omega), rfl, rfl⟩, fun c m hc => u2_ne (fun q => by rw [q, sk_0] at hc; cases hc)⟩
theorem k_Enter {f0 : Nat} (h : CI S n sz wt ro fn Fn nm ord sd tr tn up lo Z) (hf0 : f0 < fn) : sM X 19 152 [.ref 0, .int (iI ((f0 : Nat) : Int))] S (qQ (.int (iI (hrT n sz ord (Fn f0)))) (fun S' => CI S' n sz wt ro fn Fn nm ord (some (Fn f0)) tr tn up lo Z) S) := by
  have hCI := h
  obtain ⟨hvC, hwC, ⟨wb, hgC⟩, ⟨hfn, hdr, h40, hF, hev, hnm, htb⟩, ⟨b, R, pl, D, U, rt, hR, hro, hsd, hz1, hz2⟩, t1, t2, t3, t4⟩ := h
  have hn := hvC.1.1
  have hT0 := hvC.1.2.2
  have hrt := hR.2.1
  have hC9 : CI (wI S 0 6 ((rt f0 : Nat) : Int)) n sz wt ro fn Fn nm ord (some (Fn f0)) tr tn up lo Z := CI_sd hCI ⟨b, R, pl, D, U, rt, dRF_w (by omega) hR, fun i hi => (rI_ne (by decide) _).trans (hro i hi), Or.inr ⟨Fn f0, rt f0, rfl, rI_at, (hrt f0 hf0).1, (hrt f0 hf0).2⟩, hz1, hz2⟩
  refine sIni (ls := [some (.ref 0), some (.int (iI ((f0 : Nat) : Int)))]) rfl ?_
  refine sL (pc' := 1) (i := .aload_n 0) rfl rfl ?_
  refine sGc (p := 4) rfl rfl (sk_0 _) rfl rfl rfl ?_
  refine sL (pc' := 5) (i := .iload_n 1) rfl rfl ?_
  refine sCv (p := 8) (as := [_]) rfl rfl rfl rfl (by decide) (Nat.le_of_ble_eq_true rfl) rfl (Nat.le_of_ble_eq_true rfl) (sk_7 _) rfl (by omega) (c_fhas hfn h40 ⟨by omega, by omega⟩) ?_
  refine sBn (p := 11) rfl rfl (fun c1 => ?_) (fun c1 => ?_)
  · have c1 := c1
    have c1 := of_decide_eq_true c1
    refine sL (pc' := 15) (i := .aload_n 0) rfl rfl ?_
    refine sL (pc' := 16) (i := .aload_n 0) rfl rfl ?_
    refine sGc (p := 19) rfl rfl (sk_0 _) rfl rfl rfl ?_
    refine sL (pc' := 20) (i := .iload_n 1) rfl rfl ?_
    refine sCv (p := 23) (as := [_]) rfl rfl rfl rfl (by decide) (Nat.le_of_ble_eq_true rfl) rfl (Nat.le_of_ble_eq_true rfl) (sk_7 _) rfl (by omega) (c_rootOf (rt := fun i => ((rt i : Nat) : Int)) hfn h40 hf0 (hro _ hf0)) ?_
    refine sPi (z := ((rt f0 : Nat) : Int)) (p := 26) rfl rfl (sk_0 _) rfl rfl rfl rfl ?_
    refine sL (pc' := 27) (i := .aload_n 0) rfl rfl ?_
    refine sCvQ (p := 30) (as := []) rfl rfl rfl rfl (by decide) (Nat.le_of_ble_eq_true rfl) rfl (Nat.le_of_ble_eq_true rfl) (sk_0 _) rfl (by omega) (hereC (y := 0) hC9 rfl) ?_
    rintro _ Sz ⟨rfl, hCz, hfz⟩
    refine sEn (i := .ireturn) rfl (rfl) ?_
    exact ⟨rfl, hCz, frX_trans frX_0 hfz⟩
  · exfalso; have c1 := of_decide_eq_false c1; omega
theorem k_Down_n {x : Int} (h : CI S n sz wt ro fn Fn nm ord sd tr tn up lo Z) (hg : sd = none) : sM X 19 153 [.ref 0, .int (iI x)] S (qQ (.int (iI (-103))) (fun S' => CI S' n sz wt ro fn Fn nm ord sd tr tn up lo Z) S) := by
  have hCI := h
  obtain ⟨hvC, hwC, ⟨wb, hgC⟩, ⟨hfn, hdr, h40, hF, hev, hnm, htb⟩, ⟨b, R, pl, D, U, rt, hR, hro, hsd, hz1, hz2⟩, t1, t2, t3, t4⟩ := h
  have hn := hvC.1.1
  have hT0 := hvC.1.2.2
  rcases hsd with ⟨a1, a2⟩ | ⟨g9, y9, a1, a2, a3, a4⟩
  · skip
    refine sIni (ls := [some (.ref 0), some (.int (iI x))]) rfl ?_
    refine sL (pc' := 1) (i := .aload_n 0) rfl rfl ?_
    refine sGi (p := 4) rfl rfl (sk_0 _) rfl rfl rfl a2 ?_
    refine sKi (p := 5) rfl rfl ?_
    refine sIc_gt (p := 8) rfl rfl ⟨by omega, by omega⟩ ⟨by omega, by omega⟩ (fun c1 => ?_) (fun c1 => ?_)
    · exact absurd c1 (by decide)
    · have c1 := c1
      refine sKb (p := 10) rfl rfl ?_
      refine sEn (i := .ireturn) rfl (rfl) ?_
      exact ⟨rfl, hCI, frX_refl _⟩
  · rw [a1] at hg
    cases hg
theorem k_Down_l {x : Int} {g : Nat → Bool} (h : CI S n sz wt ro fn Fn nm ord sd tr tn up lo Z) (hg : sd = some g) (hl : lfv (pr sz n) g ≠ -1) : sM X 19 153 [.ref 0, .int (iI x)] S (qQ (.int (iI (-103))) (fun S' => CI S' n sz wt ro fn Fn nm ord sd tr tn up lo Z) S) := by
  have hCI := h
  obtain ⟨hvC, hwC, ⟨wb, hgC⟩, ⟨hfn, hdr, h40, hF, hev, hnm, htb⟩, ⟨b, R, pl, D, U, rt, hR, hro, hsd, hz1, hz2⟩, t1, t2, t3, t4⟩ := h
  have hn := hvC.1.1
  have hT0 := hvC.1.2.2
  rcases hsd with ⟨a1, a2⟩ | ⟨g9, y9, a1, a2, a3, a4⟩
  · rw [a1] at hg
    cases hg
  · rw [a1] at hg
    cases hg
    have hA := hR.1.1.1
    have hP := hR.1.1.2.1
    have hUR := hR.1.1.2.2.2.2.2.2.2.1
    have hU2 := hR.1.1.2.2.2.2.2.2.2.2.1
    have hR2 := hA.2.2.1
    have hyU := dok_lt hP hU2 a3
    have hy2 : y9 < 2 := by
      rcases a3 with q | q | q
      · exact q
      · exact absurd (by rw [← a4]; exact live_lf hvC.1 hP q) hl
      · omega
    refine sIni (ls := [some (.ref 0), some (.int (iI x))]) rfl ?_
    refine sL (pc' := 1) (i := .aload_n 0) rfl rfl ?_
    refine sGi (p := 4) rfl rfl (sk_0 _) rfl rfl rfl a2 ?_
    refine sKi (p := 5) rfl rfl ?_
    refine sIc_gt (p := 8) rfl rfl ⟨by omega, by omega⟩ ⟨by omega, by omega⟩ (fun c1 => ?_) (fun c1 => ?_)
    · exfalso; omega
    · have c1 := c1
      refine sKb (p := 10) rfl rfl ?_
      refine sEn (i := .ireturn) rfl (rfl) ?_
      exact ⟨rfl, hCI, frX_refl _⟩
theorem k_Down_o {x : Int} {g : Nat → Bool} (h : CI S n sz wt ro fn Fn nm ord sd tr tn up lo Z) (hx : rg x) (hg : sd = some g) (hl : lfv (pr sz n) g = -1) (hno : ¬ (0 ≤ x ∧ x < sz (ord (fpl n sz ord g)))) : sM X 19 153 [.ref 0, .int (iI x)] S (qQ (.int (iI (-102))) (fun S' => CI S' n sz wt ro fn Fn nm ord sd tr tn up lo Z) S) := by
  have hCI := h
  obtain ⟨hvC, hwC, ⟨wb, hgC⟩, ⟨hfn, hdr, h40, hF, hev, hnm, htb⟩, ⟨b, R, pl, D, U, rt, hR, hro, hsd, hz1, hz2⟩, t1, t2, t3, t4⟩ := h
  have hn := hvC.1.1
  have hT0 := hvC.1.2.2
  have x1 := hx.1
  have x2 := hx.2
  rcases hsd with ⟨a1, a2⟩ | ⟨g9, y9, a1, a2, a3, a4⟩
  · rw [a1] at hg
    cases hg
  · rw [a1] at hg
    cases hg
    have hA := hR.1.1.1
    have hP := hR.1.1.2.1
    have hUR := hR.1.1.2.2.2.2.2.2.2.1
    have hU2 := hR.1.1.2.2.2.2.2.2.2.2.1
    have hR2 := hA.2.2.1
    have hyU := dok_lt hP hU2 a3
    have hlv : dl D y9 = true := live_of hvC.1 hP a3 (by rw [a4]; exact hl)
    have hy2 := hP.1 y9 hlv
    have hdv : dv D y9 = ord (fpl n sz ord g) := by rw [hR.1.2.1 y9 hlv, a4]
    have hdn := (hP.2.2.1 y9 hlv).1
    have hsv := hvC.1.2.1 _ hdn
    have hxe : sz (((dv D y9 : Nat) : Int).toNat) = sz (dv D y9) := rfl
    rw [← hdv] at hno
    refine sIni (ls := [some (.ref 0), some (.int (iI x))]) rfl ?_
    refine sL (pc' := 1) (i := .aload_n 0) rfl rfl ?_
    refine sGi (p := 4) rfl rfl (sk_0 _) rfl rfl rfl a2 ?_
    refine sKi (p := 5) rfl rfl ?_
    refine sIc_gt (p := 8) rfl rfl ⟨by omega, by omega⟩ ⟨by omega, by omega⟩ (fun c1 => ?_) (fun c1 => ?_)
    · have c1 := c1
      refine sL (pc' := 12) (i := .aload_n 0) rfl rfl ?_
      refine sGc (p := 15) rfl rfl (sk_0 _) rfl rfl rfl ?_
      refine sL (pc' := 16) (i := .aload_n 0) rfl rfl ?_
      refine sGc (p := 19) rfl rfl (sk_0 _) rfl rfl rfl ?_
      refine sL (pc' := 20) (i := .aload_n 0) rfl rfl ?_
      refine sGi (p := 23) rfl rfl (sk_0 _) rfl rfl rfl a2 ?_
      refine sCv (p := 26) (as := [_]) rfl rfl rfl rfl (by decide) (Nat.le_of_ble_eq_true rfl) rfl (Nat.le_of_ble_eq_true rfl) (sk_52 _) rfl (by omega) (c_variableAt (z := ((dv D y9 : Nat) : Int)) hA hR.1.1.2.2.2.2.2.2.1 hUR ⟨by omega, hyU⟩ (hR.1.1.2.2.1.1 y9 hlv)) ?_
      refine sL (pc' := 27) (i := .iload_n 1) rfl rfl ?_
      refine sCv (p := 30) (as := [_, _]) rfl rfl rfl rfl (by decide) (Nat.le_of_ble_eq_true rfl) rfl (Nat.le_of_ble_eq_true rfl) (sk_1 _) rfl (by omega) (c_hasValue hvC (x := ((dv D y9 : Nat) : Int)) (y := x) ⟨by omega, by omega⟩ hx) ?_
      refine sBn (p := 33) rfl rfl (fun c2 => ?_) (fun c2 => ?_)
      · exfalso; have c2 := of_decide_eq_true c2; omega
      · have c2 := c2
        have c2 := of_decide_eq_false c2
        refine sKb (p := 35) rfl rfl ?_
        refine sEn (i := .ireturn) rfl (rfl) ?_
        exact ⟨rfl, hCI, frX_refl _⟩
    · exfalso; omega
theorem k_Down {k : Nat} {g : Nat → Bool} (h : CI S n sz wt ro fn Fn nm ord sd tr tn up lo Z) (hg : sd = some g) (hl : lfv (pr sz n) g = -1) (hk : k < sz (ord (fpl n sz ord g))) : sM X 19 153 [.ref 0, .int (iI ((k : Nat) : Int))] S (qQ (.int (iI (hrT n sz ord (cof n sz g (ord (fpl n sz ord g)) k)))) (fun S' => CI S' n sz wt ro fn Fn nm ord (some (cof n sz g (ord (fpl n sz ord g)) k)) tr tn up lo Z) S) := by
  have hCI := h
  obtain ⟨hvC, hwC, ⟨wb, hgC⟩, ⟨hfn, hdr, h40, hF, hev, hnm, htb⟩, ⟨b, R, pl, D, U, rt, hR, hro, hsd, hz1, hz2⟩, t1, t2, t3, t4⟩ := h
  have hn := hvC.1.1
  have hT0 := hvC.1.2.2
  rcases hsd with ⟨a1, a2⟩ | ⟨g9, y9, a1, a2, a3, a4⟩
  · rw [a1] at hg
    cases hg
  · rw [a1] at hg
    cases hg
    have hA := hR.1.1.1
    have hP := hR.1.1.2.1
    have hUR := hR.1.1.2.2.2.2.2.2.2.1
    have hU2 := hR.1.1.2.2.2.2.2.2.2.2.1
    have hR2 := hA.2.2.1
    have hyU := dok_lt hP hU2 a3
    have hlv : dl D y9 = true := live_of hvC.1 hP a3 (by rw [a4]; exact hl)
    have hy2 := hP.1 y9 hlv
    have hdv : dv D y9 = ord (fpl n sz ord g) := by rw [hR.1.2.1 y9 hlv, a4]
    have hdn := (hP.2.2.1 y9 hlv).1
    have hsv := hvC.1.2.1 _ hdn
    have hxe : sz (((dv D y9 : Nat) : Int).toNat) = sz (dv D y9) := rfl
    rw [← hdv] at hk ⊢
    have hkd := hP.2.2.2.1 y9 hlv k hk
    rw [a4] at hkd
    have hC9 : CI (wI S 0 6 ((dk D y9 k : Nat) : Int)) n sz wt ro fn Fn nm ord (some (cof n sz g (dv D y9) k)) tr tn up lo Z := CI_sd hCI ⟨b, R, pl, D, U, rt, dRF_w (by omega) hR, fun i hi => (rI_ne (by decide) _).trans (hro i hi), Or.inr ⟨_, dk D y9 k, rfl, rI_at, hkd.1, hkd.2⟩, hz1, hz2⟩
    refine sIni (ls := [some (.ref 0), some (.int (iI ((k : Nat) : Int)))]) rfl ?_
    refine sL (pc' := 1) (i := .aload_n 0) rfl rfl ?_
    refine sGi (p := 4) rfl rfl (sk_0 _) rfl rfl rfl a2 ?_
    refine sKi (p := 5) rfl rfl ?_
    refine sIc_gt (p := 8) rfl rfl ⟨by omega, by omega⟩ ⟨by omega, by omega⟩ (fun c1 => ?_) (fun c1 => ?_)
    · have c1 := c1
      refine sL (pc' := 12) (i := .aload_n 0) rfl rfl ?_
      refine sGc (p := 15) rfl rfl (sk_0 _) rfl rfl rfl ?_
      refine sL (pc' := 16) (i := .aload_n 0) rfl rfl ?_
      refine sGc (p := 19) rfl rfl (sk_0 _) rfl rfl rfl ?_
      refine sL (pc' := 20) (i := .aload_n 0) rfl rfl ?_
      refine sGi (p := 23) rfl rfl (sk_0 _) rfl rfl rfl a2 ?_
      refine sCv (p := 26) (as := [_]) rfl rfl rfl rfl (by decide) (Nat.le_of_ble_eq_true rfl) rfl (Nat.le_of_ble_eq_true rfl) (sk_52 _) rfl (by omega) (c_variableAt (z := ((dv D y9 : Nat) : Int)) hA hR.1.1.2.2.2.2.2.2.1 hUR ⟨by omega, hyU⟩ (hR.1.1.2.2.1.1 y9 hlv)) ?_
      refine sL (pc' := 27) (i := .iload_n 1) rfl rfl ?_
      refine sCv (p := 30) (as := [_, _]) rfl rfl rfl rfl (by decide) (Nat.le_of_ble_eq_true rfl) rfl (Nat.le_of_ble_eq_true rfl) (sk_1 _) rfl (by omega) (c_hasValue hvC (x := ((dv D y9 : Nat) : Int)) (y := ((k : Nat) : Int)) ⟨by omega, by omega⟩ ⟨by omega, by omega⟩) ?_
      refine sBn (p := 33) rfl rfl (fun c2 => ?_) (fun c2 => ?_)
      · have c2 := c2
        have c2 := of_decide_eq_true c2
        refine sL (pc' := 37) (i := .aload_n 0) rfl rfl ?_
        refine sL (pc' := 38) (i := .aload_n 0) rfl rfl ?_
        refine sGc (p := 41) rfl rfl (sk_0 _) rfl rfl rfl ?_
        refine sL (pc' := 42) (i := .aload_n 0) rfl rfl ?_
        refine sGi (p := 45) rfl rfl (sk_0 _) rfl rfl rfl a2 ?_
        refine sL (pc' := 46) (i := .iload_n 1) rfl rfl ?_
        refine sCv (p := 49) (as := [_, _]) rfl rfl rfl rfl (by decide) (Nat.le_of_ble_eq_true rfl) rfl (Nat.le_of_ble_eq_true rfl) (sk_52 _) rfl (by omega) (c_kidOf (z := ((dk D y9 k : Nat) : Int)) hA hR.1.1.2.2.2.2.2.2.1 hUR ⟨by omega, hyU⟩ (by omega) (hR.1.1.2.2.1.2.2.2.1 y9 hlv k hk)) ?_
        refine sPi (z := ((dk D y9 k : Nat) : Int)) (p := 52) rfl rfl (sk_0 _) rfl rfl rfl rfl ?_
        refine sL (pc' := 53) (i := .aload_n 0) rfl rfl ?_
        refine sCvQ (p := 56) (as := []) rfl rfl rfl rfl (by decide) (Nat.le_of_ble_eq_true rfl) rfl (Nat.le_of_ble_eq_true rfl) (sk_0 _) rfl (by omega) (hereC (y := 0) hC9 rfl) ?_
        rintro _ Sz ⟨rfl, hCz, hfz⟩
        refine sEn (i := .ireturn) rfl (rfl) ?_
        exact ⟨rfl, hCz, frX_trans frX_0 hfz⟩
      · exfalso; have c2 := of_decide_eq_false c2; omega
    · exfalso; omega
theorem k_Move_u {x y : Int} (h : CI S n sz wt ro fn Fn nm ord sd tr tn up lo Z) (hx : rg x) (hy : rg y) (hno : ¬ ((0 ≤ x ∧ x < n) ∧ (0 ≤ y ∧ y < n))) : sM X 18 158 [.ref 0, .int (iI x), .int (iI y)] S (qQ (.int (iI (if ¬ (0 ≤ x ∧ x < n) then -101 else -102))) (fun S' => CI S' n sz wt ro fn Fn nm ord sd tr tn up lo Z) S) := by
  have hCI := h
  obtain ⟨hvC, hwC, ⟨wb, hgC⟩, ⟨hfn, hdr, h40, hF, hev, hnm, htb⟩, ⟨b, R, pl, D, U, rt, hR, hro, hsd, hz1, hz2⟩, t1, t2, t3, t4⟩ := h
  have hn := hvC.1.1
  have hT0 := hvC.1.2.2
  have x1 := hx.1
  have x2 := hx.2
  have y1 := hy.1
  have y2 := hy.2
  refine sIni (ls := [some (.ref 0), some (.int (iI x)), some (.int (iI y))]) rfl ?_
  refine sL (pc' := 1) (i := .aload_n 0) rfl rfl ?_
  refine sGc (p := 4) rfl rfl (sk_0 _) rfl rfl rfl ?_
  refine sL (pc' := 5) (i := .iload_n 1) rfl rfl ?_
  refine sCv (p := 8) (as := [_]) rfl rfl rfl rfl (by decide) (Nat.le_of_ble_eq_true rfl) rfl (Nat.le_of_ble_eq_true rfl) (sk_1 _) rfl (by omega) (c_has hvC hx) ?_
  refine sBn (p := 11) rfl rfl (fun c1 => ?_) (fun c1 => ?_)
  · have c1 := c1
    have c1 := of_decide_eq_true c1
    refine sL (pc' := 15) (i := .iload_n 2) rfl rfl ?_
    refine sIf_lt (p := 18) rfl rfl ⟨by omega, by omega⟩ (fun c2 => ?_) (fun c2 => ?_)
    · have c2 := c2
      refine sKb (p := 31) rfl rfl ?_
      refine sEn (i := .ireturn) rfl (rfl) ?_
      exact ⟨congrArg (fun z => some (Value.int (iI z))) (by rw [if_neg (by omega)]), hCI, frX_refl _⟩
    · have c2 := c2
      refine sL (pc' := 19) (i := .iload_n 2) rfl rfl ?_
      refine sL (pc' := 20) (i := .aload_n 0) rfl rfl ?_
      refine sGc (p := 23) rfl rfl (sk_0 _) rfl rfl rfl ?_
      refine sGi (p := 26) rfl rfl (sk_1 _) rfl rfl rfl hvC.2.1 ?_
      refine sIc_lt (p := 29) rfl rfl ⟨by omega, by omega⟩ ⟨by omega, by omega⟩ (fun c3 => ?_) (fun c3 => ?_)
      · exfalso; omega
      · have c3 := c3
        refine sKb (p := 31) rfl rfl ?_
        refine sEn (i := .ireturn) rfl (rfl) ?_
        exact ⟨congrArg (fun z => some (Value.int (iI z))) (by rw [if_neg (by omega)]), hCI, frX_refl _⟩
  · have c1 := c1
    have c1 := of_decide_eq_false c1
    refine sKb (p := 13) rfl rfl ?_
    refine sEn (i := .ireturn) rfl (rfl) ?_
    exact ⟨congrArg (fun z => some (Value.int (iI z))) (by rw [if_pos (by omega)]), hCI, frX_refl _⟩
theorem k_Move {v t : Nat} (h : CI S n sz wt ro fn Fn nm ord sd tr tn up lo Z) (hv : v < n) (ht : t < n) : sM X 18 158 [.ref 0, .int (iI ((v : Nat) : Int)), .int (iI ((t : Nat) : Int))] S (qQ (.int (iI ((NN n sz (mvO ord (plc n ord v) t) fn Fn : Nat) : Int))) (fun S' => CI S' n sz wt ro fn Fn nm (mvO ord (plc n ord v) t) none tr tn up lo Z) S) := by
  have hCI := h
  obtain ⟨hvC, hwC, ⟨wb, hgC⟩, ⟨hfn, hdr, h40, hF, hev, hnm, htb⟩, ⟨b, R, pl, D, U, rt, hR, hro, hsd, hz1, hz2⟩, t1, t2, t3, t4⟩ := h
  have hn := hvC.1.1
  have hT0 := hvC.1.2.2
  have hC9 : CI (wI S 0 6 (-1)) n sz wt ro fn Fn nm ord none tr tn up lo Z := CI_sd hCI ⟨b, R, pl, D, U, rt, dRF_w (by omega) hR, fun i hi => (rI_ne (by decide) _).trans (hro i hi), Or.inl ⟨rfl, rI_at⟩, hz1, hz2⟩
  have hR9 : dRF (wI S 0 6 (-1)) b R n sz ord pl D U fn rt Fn := dRF_w (by omega) hR
  have hv9 := hC9.1
  have hA9 := hR9.1.1.1
  have hb9 := hA9.1
  rw [plc_eq hR.1.2.2.2.2 hv]
  refine sIni (ls := [some (.ref 0), some (.int (iI ((v : Nat) : Int))), some (.int (iI ((t : Nat) : Int)))]) rfl ?_
  refine sL (pc' := 1) (i := .aload_n 0) rfl rfl ?_
  refine sGc (p := 4) rfl rfl (sk_0 _) rfl rfl rfl ?_
  refine sL (pc' := 5) (i := .iload_n 1) rfl rfl ?_
  refine sCv (p := 8) (as := [_]) rfl rfl rfl rfl (by decide) (Nat.le_of_ble_eq_true rfl) rfl (Nat.le_of_ble_eq_true rfl) (sk_1 _) rfl (by omega) (c_has hvC ⟨by omega, by omega⟩) ?_
  refine sBn (p := 11) rfl rfl (fun c1 => ?_) (fun c1 => ?_)
  · have c1 := c1
    have c1 := of_decide_eq_true c1
    refine sL (pc' := 15) (i := .iload_n 2) rfl rfl ?_
    refine sIf_lt (p := 18) rfl rfl ⟨by omega, by omega⟩ (fun c2 => ?_) (fun c2 => ?_)
    · exfalso; omega
    · have c2 := c2
      refine sL (pc' := 19) (i := .iload_n 2) rfl rfl ?_
      refine sL (pc' := 20) (i := .aload_n 0) rfl rfl ?_
      refine sGc (p := 23) rfl rfl (sk_0 _) rfl rfl rfl ?_
      refine sGi (p := 26) rfl rfl (sk_1 _) rfl rfl rfl hvC.2.1 ?_
      refine sIc_lt (p := 29) rfl rfl ⟨by omega, by omega⟩ ⟨by omega, by omega⟩ (fun c3 => ?_) (fun c3 => ?_)
      · have c3 := c3
        refine sL (pc' := 33) (i := .aload_n 0) rfl rfl ?_
        refine sKi (p := 34) rfl rfl ?_
        refine sPi (z := (-1)) (p := 37) rfl rfl (sk_0 _) rfl rfl rfl rfl ?_
        refine sL (pc' := 38) (i := .aload_n 0) rfl rfl ?_
        refine sGc (p := 41) rfl rfl (sk_0 _) rfl rfl rfl ?_
        refine sL (pc' := 42) (i := .iload_n 1) rfl rfl ?_
        refine sL (pc' := 43) (i := .iload_n 2) rfl rfl ?_
        refine sCvQ (p := 46) (as := [_, _]) rfl rfl rfl rfl (by decide) (Nat.le_of_ble_eq_true rfl) rfl (Nat.le_of_ble_eq_true rfl) (sk_52 _) rfl (by omega) (c_bring hv9 hR9 hv ht) ?_
        rintro _ Sz ⟨rfl, pl1, b1, R1, D1, U1, hRz, hfz⟩
        have hfz : frD b R (wI S 0 6 (-1)) b1 R1 Sz := hfz
        refine sL (pc' := 47) (i := .aload_n 0) rfl rfl ?_
        refine sGc (p := 50) rfl rfl (sk_0 _) rfl rfl rfl ?_
        refine sGi (p := 53) rfl rfl (sk_52 _) rfl rfl rfl (dRF_live hvC.1 hRz).1 ?_
        refine sEn (i := .ireturn) rfl (rfl) ?_
        exact ⟨rfl, CI_D hC9 hA9 hfz ⟨b1, R1, pl1, D1, U1, rt, hRz, fun i hi => by rw [hfz.2.2.2.1 50 (by omega) (by omega) (by omega)]; exact (rI_ne (by decide) _).trans (hro i hi), Or.inl ⟨rfl, by rw [hfz.2.2.2.1 0 (by omega) (by omega) (by omega)]; exact rI_at⟩, by have := hfz.2.2.2.2.2.2.1; have e9 : tz (wI S 0 6 (-1)) = tz S := rfl; omega, by have := hfz.2.2.2.2.2.2.2; have e9 : (wI S 0 6 (-1)).1 = S.1 := rfl; rw [e9] at this; omega⟩, frX_trans frX_0 (frX_D hA9 hfz)⟩
      · exfalso; omega
  · exfalso; have c1 := of_decide_eq_false c1; omega
theorem k_Seek (h : CI S n sz wt ro fn Fn nm ord sd tr tn up lo Z) : sM X 18 159 [.ref 0] S (qQ (.int (iI ((NN n sz (skO n sz ord fn Fn n) fn Fn : Nat) : Int))) (fun S' => CI S' n sz wt ro fn Fn nm (skO n sz ord fn Fn n) none tr tn up lo Z) S) := by
  have hCI := h
  obtain ⟨hvC, hwC, ⟨wb, hgC⟩, ⟨hfn, hdr, h40, hF, hev, hnm, htb⟩, ⟨b, R, pl, D, U, rt, hR, hro, hsd, hz1, hz2⟩, t1, t2, t3, t4⟩ := h
  have hn := hvC.1.1
  have hT0 := hvC.1.2.2
  have hC9 : CI (wI S 0 6 (-1)) n sz wt ro fn Fn nm ord none tr tn up lo Z := CI_sd hCI ⟨b, R, pl, D, U, rt, dRF_w (by omega) hR, fun i hi => (rI_ne (by decide) _).trans (hro i hi), Or.inl ⟨rfl, rI_at⟩, hz1, hz2⟩
  have hR9 : dRF (wI S 0 6 (-1)) b R n sz ord pl D U fn rt Fn := dRF_w (by omega) hR
  have hv9 := hC9.1
  have hA9 := hR9.1.1.1
  have hb9 := hA9.1
  obtain ⟨S0, hS0⟩ : ∃ S0, S0 = wI S 0 6 (-1) := ⟨_, rfl⟩
  have hv0 : vC S0 n sz := by rw [hS0]; exact hv9
  refine sIni (ls := [some (.ref 0), none]) rfl ?_
  refine sL (pc' := 1) (i := .aload_n 0) rfl rfl ?_
  refine sKi (p := 2) rfl rfl ?_
  refine sPi (z := (-1)) (p := 5) rfl rfl (sk_0 _) rfl rfl rfl rfl ?_
  refine sKi (p := 6) rfl rfl ?_
  refine sL (pc' := 7) (i := .istore_n 1) (ls' := [some (.ref 0), some (.int (iI 0))]) rfl rfl ?_
  refine sItR (A := fun v => [some (.ref 0), some (.int (iI ((v : Nat) : Int)))]) (fun v S => ∃ pl1 b1 R1 D1 U1, dRF S b1 R1 n sz (skO n sz ord fn Fn v) pl1 D1 U1 fn rt Fn ∧ frD b R S0 b1 R1 S) n (⟨pl, b, R, D, U, hR9, by rw [hS0]; exact frD_refl _ _ _⟩) (fun v hi7 Sa hJ7 ih7 => ?_) (fun Saf hJ7 => ?_)
  · have hi7 := hi7
    obtain ⟨pl1, b1, R1, D1, U1, hRa, hfa⟩ := hJ7
    refine sL (pc' := 8) (i := .iload_n 1) rfl rfl ?_
    refine sL (pc' := 9) (i := .aload_n 0) rfl rfl ?_
    refine sGc (p := 12) rfl rfl (sk_0 _) rfl rfl rfl ?_
    refine sGi (p := 15) rfl rfl (sk_1 _) rfl rfl rfl (frD_vC hfa hb9 hv0).2.1 ?_
    refine sIc_ge (p := 18) rfl rfl ⟨by omega, by omega⟩ ⟨by omega, by omega⟩ (fun c1 => ?_) (fun c1 => ?_)
    · exfalso; omega
    · have c1 := c1
      refine sL (pc' := 19) (i := .aload_n 0) rfl rfl ?_
      refine sGc (p := 22) rfl rfl (sk_0 _) rfl rfl rfl ?_
      refine sL (pc' := 23) (i := .iload_n 1) rfl rfl ?_
      refine sCvQ (p := 26) (as := [_]) rfl rfl rfl rfl (by decide) (Nat.le_of_ble_eq_true rfl) rfl (Nat.le_of_ble_eq_true rfl) (sk_52 _) rfl (by omega) (c_sift (frD_vC hfa hb9 hv0) hRa hi7) ?_
      rintro _ Sz ⟨rfl, pl2, b2, R2, D2, U2, hRz, hfz⟩
      refine sInX (z := ((v : Nat) : Int)) (ls' := [some (.ref 0), some (.int (iI (((v : Nat) : Int) + 1)))]) (p := 29) rfl rfl (Nat.le_of_ble_eq_true rfl) rfl rfl ?_
      refine sL (i := .goto (-22)) rfl rfl ?_
      refine sFg (ls := [some (.ref 0), some (.int (iI ((v + 1 : Nat) : Int)))]) (xx_ll_le (And.intro rfl (And.intro rfl (True.intro)))) (ih7 _ ?_)
      refine ⟨pl2, b2, R2, D2, U2, ?_, frD_trans hfa hfz⟩
      rw [← plc_eq hRa.1.2.2.2.2 hi7] at hRz
      exact hRz
  · have hJ7 := hJ7
    obtain ⟨pl1, b1, R1, D1, U1, hRf, hff⟩ := hJ7
    refine sL (pc' := 8) (i := .iload_n 1) rfl rfl ?_
    refine sL (pc' := 9) (i := .aload_n 0) rfl rfl ?_
    refine sGc (p := 12) rfl rfl (sk_0 _) rfl rfl rfl ?_
    refine sGi (p := 15) rfl rfl (sk_1 _) rfl rfl rfl (frD_vC hff hb9 hv0).2.1 ?_
    refine sIc_ge (p := 18) rfl rfl ⟨by omega, by omega⟩ ⟨by omega, by omega⟩ (fun c2 => ?_) (fun c2 => ?_)
    · have c2 := c2
      refine sL (pc' := 33) (i := .aload_n 0) rfl rfl ?_
      refine sGc (p := 36) rfl rfl (sk_0 _) rfl rfl rfl ?_
      refine sGi (p := 39) rfl rfl (sk_52 _) rfl rfl rfl (dRF_live hvC.1 hRf).1 ?_
      refine sEn (i := .ireturn) rfl (rfl) ?_
      rw [hS0] at hff
      exact ⟨rfl, CI_D hC9 hA9 hff ⟨b1, R1, pl1, D1, U1, rt, hRf, fun i hi => by rw [hff.2.2.2.1 50 (by omega) (by omega) (by omega)]; exact (rI_ne (by decide) _).trans (hro i hi), Or.inl ⟨rfl, by rw [hff.2.2.2.1 0 (by omega) (by omega) (by omega)]; exact rI_at⟩, by have := hff.2.2.2.2.2.2.1; have e9 : tz (wI S 0 6 (-1)) = tz S := rfl; omega, by have := hff.2.2.2.2.2.2.2; have e9 : (wI S 0 6 (-1)).1 = S.1 := rfl; rw [e9] at this; omega⟩, frX_trans frX_0 (frX_D hA9 hff)⟩
    · exfalso; omega
end CY
