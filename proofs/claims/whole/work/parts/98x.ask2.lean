/-! ===== the class: questions, walking, the order ===== -/
section CX
variable {X : List Int32} {S : ST} {n fn Z : Nat} {sz ord : Nat → Nat} {wt : Nat → Int} {ro : Nat → Bool} {Fn : Nat → Nat → Bool} {nm : Nat → Int64} {sd : Option (Nat → Bool)} {tr tn : Int} {up lo : Int64}
theorem frX_Q {b R : Nat} {S' : ST} (hA : dA S b R) (h : frQ b S S') : frX S S' := by
  have hb := hA.1
  refine ⟨⟨[], by rw [h.1, List.append_nil]⟩, fun c h1 h2 => ⟨h.2.2.2 c (by omega) (by omega), by rw [h.2.2.1], by rw [h.2.1]⟩, fun c m hc => h.2.2.2 c (fun z => ?_) (fun z => ?_)⟩
  · rw [z, hA.2.2.2.2.2.2.2.2.2.2.2.2.1] at hc
    cases hc
  · rw [z, hA.2.2.2.2.2.2.2.2.2.2.2.2.2.1] at hc
    cases hc
theorem frX_D {b R b' R' : Nat} {S' : ST} (hA : dA S b R) (h : frD b R S b' R' S') : frX S S' := by
  have hb := hA.1
  have hq := h.2.2.2.1
  refine ⟨h.1, fun c h1 h2 => ⟨hq c (by omega) (by omega) (by omega), h.2.2.1 c (by omega), h.2.1 c (by omega)⟩, fun c m hc => ?_⟩
  have hl := kd_len hc
  refine hq c hl ?_ ?_
  · refine Classical.byContradiction fun z => ?_
    have : c = 52 ∨ c = 53 ∨ c = 54 ∨ c = 55 ∨ c = 56 ∨ c = 57 := by omega
    rcases this with q | q | q | q | q | q <;> (rw [q] at hc; first | (rw [sk_52] at hc; cases hc) | (rw [sk_53] at hc; cases hc) | (rw [sk_54] at hc; cases hc) | (rw [sk_55] at hc; cases hc) | (rw [sk_56] at hc; cases hc) | (rw [sk_57] at hc; cases hc))
  · refine Classical.byContradiction fun z => ?_
    obtain ⟨_, _, _, _, _, _, _, _, _, a0, a1, a2, a3, a4, a5⟩ := hA
    have : c = b ∨ c = b + 1 ∨ c = b + 2 ∨ c = b + 3 ∨ c = b + 4 ∨ c = b + 5 := by omega
    rcases this with q | q | q | q | q | q
    · rw [q, a0] at hc; cases hc
    · rw [q, a1] at hc; cases hc
    · rw [q, a2] at hc; cases hc
    · rw [q, a3] at hc; cases hc
    · rw [q, a4] at hc; cases hc
    · rw [q, a5] at hc; cases hc
/-- only the diagram's cells changed -/
theorem CI_D {b R b' R' : Nat} {S' : ST} {ord' : Nat → Nat} (h : CI S n sz wt ro fn Fn nm ord sd tr tn up lo Z) (hA : dA S b R) (hf : frD b R S b' R' S') (hd : cD S' n sz ord' fn Fn sd Z) : CI S' n sz wt ro fn Fn nm ord' sd tr tn up lo Z := by
  have hb := hA.1
  have hq : ∀ c, c < 52 → SI S' c = SI S c := fun c hc => hf.2.2.2.1 c (by omega) (Or.inl hc) (by omega)
  have hl : ∀ c, c < 203 → SL S' c = SL S c := fun c hc => hf.2.2.1 c (by omega)
  obtain ⟨hvC, hwC, ⟨wb, hgC⟩, ⟨f1, f2, f3, f4, f5, f6, f7⟩, _, t1, t2, t3, t4⟩ := h
  refine ⟨frD_vC hf hb hvC, ?_, ⟨wb, ?_⟩, ⟨?_, ?_, f3, fun i hi k hk => ?_, fun k hk => ?_, fun i hi => ?_, f7⟩, hd, ?_, ?_, ?_, ?_⟩
  · unfold wC at *
    rw [hq 4 (by omega), hq 5 (by omega)]
    exact hwC
  · unfold gC at *
    rw [hq 1 (by omega), hl 6 (by omega)]
    exact hgC
  · rw [hq 7 (by omega)]
    exact f1
  · rw [hq 7 (by omega)]
    exact f2
  · rw [hl (9 + i) (by omega)]
    exact f4 i hi k hk
  · rw [hl 51 (by omega)]
    exact f5 k hk
  · rw [hl 49 (by omega)]
    exact f6 i hi
  · rw [hq 0 (by omega)]
    exact t1
  · rw [hq 0 (by omega)]
    exact t2
  · rw [hl 0 (by omega)]
    exact t3
  · rw [hl 0 (by omega)]
    exact t4
theorem frD_Q {b R : Nat} {S' : ST} (h : frQ b S S') : frD b R S b R S' := ⟨⟨[], by rw [h.1, List.append_nil]⟩, fun c _ => by rw [h.2.1], fun c _ => by rw [h.2.2.1], fun c _ q1 q2 => h.2.2.2 c (by omega) (by omega), Or.inl rfl, Nat.le_refl _, by unfold tz; rw [h.1], by rw [h.1]; exact Nat.le_refl _⟩
/-- the standing node is put elsewhere -/
theorem CI_sd {z : Int} {sd' : Option (Nat → Bool)} (h : CI S n sz wt ro fn Fn nm ord sd tr tn up lo Z) (hd : cD (wI S 0 6 z) n sz ord fn Fn sd' Z) : CI (wI S 0 6 z) n sz wt ro fn Fn nm ord sd' tr tn up lo Z := by
  obtain ⟨⟨v1, v2, v3, v4, v5⟩, hwC, hgC, ⟨f1, f2, f3, f4, f5, f6, f7⟩, _, t1, t2, t3, t4⟩ := h
  exact ⟨⟨v1, (rI_ne (by decide) _).trans v2, (rI_ne (by decide) _).trans v3, fun k hk => (rI_ne (by decide) _).trans (v4 k hk), fun k hk => (rI_ne (by decide) _).trans (v5 k hk)⟩, fun i hi => by
    rw [rI_ne (by decide), rI_ne (by decide)]
    exact hwC i hi, hgC.imp (fun wb hg => ⟨(rI_ne (by decide) _).trans hg.1, hg.2⟩), ⟨(rI_ne (by decide) _).trans f1, (rI_ne (by decide) _).trans f2, f3, f4, f5, f6, f7⟩, hd, (rI_nj (by decide)).trans t1, (rI_nj (by decide)).trans t2, t3, t4⟩
theorem k_Size {x : Int} (h : CI S n sz wt ro fn Fn nm ord sd tr tn up lo Z) (hx : rg x) : sM X 18 142 [.ref 0, .int (iI x)] S (qQ (.int (iI (if x = -1 then ((NN n sz ord fn Fn : Nat) : Int) else if ¬ (0 ≤ x ∧ x < fn) then -101 else ((NF n sz ord (Fn x.toNat) : Nat) : Int)))) (fun S' => CI S' n sz wt ro fn Fn nm ord sd tr tn up lo Z) S) := by
  have hCI := h
  obtain ⟨hvC, hwC, ⟨wb, hgC⟩, ⟨hfn, hdr, h40, hF, hev, hnm, htb⟩, ⟨b, R, pl, D, U, rt, hR, hro, hsd, hz1, hz2⟩, t1, t2, t3, t4⟩ := h
  have hn := hvC.1.1
  have hT0 := hvC.1.2.2
  have x1 := hx.1
  have x2 := hx.2
  have hA := hR.1.1.1
  refine sIni (ls := [some (.ref 0), some (.int (iI x))]) rfl ?_
  refine sL (pc' := 1) (i := .iload_n 1) rfl rfl ?_
  refine sKi (p := 2) rfl rfl ?_
  refine sIc_ne (p := 5) rfl rfl ⟨by omega, by omega⟩ ⟨by omega, by omega⟩ (fun c1 => ?_) (fun c1 => ?_)
  · have c1 := c1
    refine sL (pc' := 14) (i := .aload_n 0) rfl rfl ?_
    refine sGc (p := 17) rfl rfl (sk_0 _) rfl rfl rfl ?_
    refine sL (pc' := 18) (i := .iload_n 1) rfl rfl ?_
    refine sCv (p := 21) (as := [_]) rfl rfl rfl rfl (by decide) (Nat.le_of_ble_eq_true rfl) rfl (Nat.le_of_ble_eq_true rfl) (sk_7 _) rfl (by omega) (c_fhas hfn h40 hx) ?_
    refine sBn (p := 24) rfl rfl (fun c2 => ?_) (fun c2 => ?_)
    · have c2 := c2
      have c2 := of_decide_eq_true c2
      obtain ⟨f0, rfl⟩ : ∃ f0 : Nat, x = (f0 : Int) := ⟨x.toNat, by omega⟩
      have hf0 : f0 < fn := by omega
      refine sL (pc' := 28) (i := .aload_n 0) rfl rfl ?_
      refine sGc (p := 31) rfl rfl (sk_0 _) rfl rfl rfl ?_
      refine sL (pc' := 32) (i := .aload_n 0) rfl rfl ?_
      refine sGc (p := 35) rfl rfl (sk_0 _) rfl rfl rfl ?_
      refine sL (pc' := 36) (i := .iload_n 1) rfl rfl ?_
      refine sCv (p := 39) (as := [_]) rfl rfl rfl rfl (by decide) (Nat.le_of_ble_eq_true rfl) rfl (Nat.le_of_ble_eq_true rfl) (sk_7 _) rfl (by omega) (c_rootOf (rt := fun i => ((rt i : Nat) : Int)) hfn h40 hf0 (hro _ hf0)) ?_
      refine sCvQ (p := 42) (as := [_]) rfl rfl rfl rfl (by decide) (Nat.le_of_ble_eq_true rfl) rfl (Nat.le_of_ble_eq_true rfl) (sk_52 _) rfl (by omega) (c_countNodes hvC hR hf0) ?_
      rintro _ Sq ⟨rfl, hR9, hf9⟩
      refine sEn (i := .ireturn) rfl (rfl) ?_
      refine ⟨congrArg (fun z => some (Value.int (iI z))) (by rw [if_neg (by omega), if_neg (by omega)]; rfl), CI_D hCI hA (frD_Q hf9) ⟨b, R, pl, D, U, rt, hR9, fun i hi => ?_, ?_, ?_, ?_⟩, frX_Q hA hf9⟩
      · rw [hf9.2.2.2 50 (by have := hA.1; omega) (by have := hA.1; omega)]; exact hro i hi
      · unfold cSd at *; rw [hf9.2.2.2 0 (by omega) (by omega)]; exact hsd
      · unfold tz at *; rw [hf9.1]; exact hz1
      · rw [hf9.1]; exact hz2
    · have c2 := c2
      have c2 := of_decide_eq_false c2
      refine sKb (p := 26) rfl rfl ?_
      refine sEn (i := .ireturn) rfl (rfl) ?_
      exact ⟨congrArg (fun z => some (Value.int (iI z))) (by rw [if_neg (by omega), if_pos (by omega)]), hCI, frX_refl _⟩
  · have c1 := c1
    refine sL (pc' := 6) (i := .aload_n 0) rfl rfl ?_
    refine sGc (p := 9) rfl rfl (sk_0 _) rfl rfl rfl ?_
    refine sGi (p := 12) rfl rfl (sk_52 _) rfl rfl rfl (dRF_live hvC.1 hR).1 ?_
    refine sEn (i := .ireturn) rfl (rfl) ?_
    exact ⟨congrArg (fun z => some (Value.int (iI z))) (by rw [if_pos (by omega)]), hCI, frX_refl _⟩
theorem c_tell {z : Int} (hvC : vC S n sz) : sM X 0 146 [.ref 0, .int (iI z)] S (sV none (wI (wI S 0 7 z) 0 8 ((n : Nat) : Int))) := by
  refine sIni (ls := [some (.ref 0), some (.int (iI z))]) rfl ?_
  refine sL (pc' := 1) (i := .aload_n 0) rfl rfl ?_
  refine sL (pc' := 2) (i := .iload_n 1) rfl rfl ?_
  refine sPi (z := z) (p := 5) rfl rfl (sk_0 _) rfl rfl rfl rfl ?_
  refine sL (pc' := 6) (i := .aload_n 0) rfl rfl ?_
  refine sL (pc' := 7) (i := .aload_n 0) rfl rfl ?_
  refine sGc (p := 10) rfl rfl (sk_0 _) rfl rfl rfl ?_
  refine sGi (p := 13) rfl rfl (sk_1 _) rfl rfl rfl ((rI_ne (by decide) _).trans hvC.2.1) ?_
  refine sPi (z := ((n : Nat) : Int)) (p := 16) rfl rfl (sk_0 _) rfl rfl rfl rfl ?_
  refine sEn (i := .return_) rfl (rfl) ?_
  exact ⟨rfl, rfl⟩
theorem k_Least {x : Int} (h : CI S n sz wt ro fn Fn nm ord sd tr tn up lo Z) (hx : rg x) : sM X 18 144 [.ref 0, .int (iI x)] S (qQ (.int (iI (if ¬ (0 ≤ x ∧ x < fn) then -101 else if lsM sz n (Fn x.toNat) (pr sz n) = -1 then 0 else 1))) (fun S' => CI S' n sz wt ro fn Fn nm ord sd (if (0 ≤ x ∧ x < fn) ∧ lsM sz n (Fn x.toNat) (pr sz n) ≠ -1 then lsM sz n (Fn x.toNat) (pr sz n) else tr) (if (0 ≤ x ∧ x < fn) ∧ lsM sz n (Fn x.toNat) (pr sz n) ≠ -1 then ((n : Nat) : Int) else tn) up lo Z) S) := by
  have hCI := h
  obtain ⟨hvC, hwC, ⟨wb, hgC⟩, ⟨hfn, hdr, h40, hF, hev, hnm, htb⟩, ⟨b, R, pl, D, U, rt, hR, hro, hsd, hz1, hz2⟩, t1, t2, t3, t4⟩ := h
  have hn := hvC.1.1
  have hT0 := hvC.1.2.2
  have x1 := hx.1
  have x2 := hx.2
  refine sIni (ls := [some (.ref 0), some (.int (iI x)), none]) rfl ?_
  refine sL (pc' := 1) (i := .aload_n 0) rfl rfl ?_
  refine sGc (p := 4) rfl rfl (sk_0 _) rfl rfl rfl ?_
  refine sL (pc' := 5) (i := .iload_n 1) rfl rfl ?_
  refine sCv (p := 8) (as := [_]) rfl rfl rfl rfl (by decide) (Nat.le_of_ble_eq_true rfl) rfl (Nat.le_of_ble_eq_true rfl) (sk_7 _) rfl (by omega) (c_fhas hfn h40 hx) ?_
  refine sBn (p := 11) rfl rfl (fun c1 => ?_) (fun c1 => ?_)
  · have c1 := c1
    have c1 := of_decide_eq_true c1
    obtain ⟨f0, rfl⟩ : ∃ f0 : Nat, x = (f0 : Int) := ⟨x.toNat, by omega⟩
    have hf0 : f0 < fn := by omega
    have hlb := lsM_b (sz := sz) (n := n) (f := Fn f0) (pr sz n)
    refine sL (pc' := 15) (i := .aload_n 0) rfl rfl ?_
    refine sGc (p := 18) rfl rfl (sk_0 _) rfl rfl rfl ?_
    refine sL (pc' := 19) (i := .iload_n 1) rfl rfl ?_
    refine sCv (p := 22) (as := [_]) rfl rfl rfl rfl (by decide) (Nat.le_of_ble_eq_true rfl) rfl (Nat.le_of_ble_eq_true rfl) (sk_7 _) rfl (by omega) (c_firstRun hvC (by omega) (hF f0 hf0)) ?_
    rw [fsr_lsM hvC.1]
    refine sL (pc' := 23) (i := .istore_n 2) (ls' := [some (.ref 0), some (.int (iI ((f0 : Nat) : Int))), some (.int (iI (lsM sz n (Fn f0) (pr sz n))))]) rfl rfl ?_
    refine sL (pc' := 24) (i := .iload_n 2) rfl rfl ?_
    refine sKi (p := 25) rfl rfl ?_
    refine sIc_ne (p := 28) rfl rfl ⟨by omega, by omega⟩ ⟨by omega, by omega⟩ (fun c2 => ?_) (fun c2 => ?_)
    · have c2 := c2
      refine sL (pc' := 31) (i := .aload_n 0) rfl rfl ?_
      refine sL (pc' := 32) (i := .iload_n 2) rfl rfl ?_
      refine sCv (p := 35) (as := [_]) rfl rfl rfl rfl (by decide) (Nat.le_of_ble_eq_true rfl) rfl (Nat.le_of_ble_eq_true rfl) (sk_0 _) rfl (by omega) (c_tell hvC) ?_
      refine sKi (p := 36) rfl rfl ?_
      refine sEn (i := .ireturn) rfl (rfl) ?_
      have hI9 : ∀ c, c ≠ 0 → c ≠ 1 → c ≠ 4 → c ≠ 5 → SI (wI (wI S 0 7 (lsM sz n (Fn f0) (pr sz n))) 0 8 ((n : Nat) : Int)) c = SI S c := fun c h0 _ _ _ => (u2_ne h0).trans (u2_ne h0)
      have hC9 := CI_upd (S' := (wI (wI S 0 7 (lsM sz n (Fn f0) (pr sz n))) 0 8 ((n : Nat) : Int))) hCI rfl rfl hI9 ((rI_ne (by decide) _).trans (rI_ne (by decide) _)) ((rI_ne (by decide) _).trans (rI_ne (by decide) _)) ((rI_nj (by decide)).trans (rI_nj (by decide))) (fun _ _ _ => rfl) (fun i hi => by rw [rI_ne (by decide), rI_ne (by decide), rI_ne (by decide), rI_ne (by decide)]; exact hwC i hi) ⟨wb, (rI_ne (by decide) _).trans ((rI_ne (by decide) _).trans hgC.1), hgC.2⟩
      rw [show SI (wI (wI S 0 7 (lsM sz n (Fn f0) (pr sz n))) 0 8 ((n : Nat) : Int)) 0 7 = lsM sz n (Fn f0) (pr sz n) from (rI_nj (by decide)).trans rI_at, show SI (wI (wI S 0 7 (lsM sz n (Fn f0) (pr sz n))) 0 8 ((n : Nat) : Int)) 0 8 = ((n : Nat) : Int) from rI_at, show SL (wI (wI S 0 7 (lsM sz n (Fn f0) (pr sz n))) 0 8 ((n : Nat) : Int)) = SL S from rfl, t3, t4] at hC9
      refine ⟨congrArg (fun z => some (Value.int (iI z))) (by rw [if_neg (by omega)]; show _ = if lsM sz n (Fn f0) (pr sz n) = -1 then (0 : Int) else 1; rw [if_neg (by assumption)]), ?_, frX_upd rfl rfl hI9 (fun _ _ _ => rfl)⟩
      rw [if_pos ⟨by omega, by assumption⟩, if_pos ⟨by omega, by assumption⟩]
      exact hC9
    · have c2 := c2
      refine sKi (p := 29) rfl rfl ?_
      refine sEn (i := .ireturn) rfl (rfl) ?_
      exact ⟨congrArg (fun z => some (Value.int (iI z))) (by rw [if_neg (by omega)]; show _ = if lsM sz n (Fn f0) (pr sz n) = -1 then (0 : Int) else 1; rw [if_pos (by assumption)]), by rw [if_neg (fun z => z.2 (by assumption)), if_neg (fun z => z.2 (by assumption))]; exact hCI, frX_refl _⟩
  · have c1 := c1
    have c1 := of_decide_eq_false c1
    refine sKb (p := 13) rfl rfl ?_
    refine sEn (i := .ireturn) rfl (rfl) ?_
    exact ⟨congrArg (fun z => some (Value.int (iI z))) (by rw [if_pos (by omega)]), by rw [if_neg (by omega), if_neg (by omega)]; exact hCI, frX_refl _⟩
theorem k_Told {x : Int} (h : CI S n sz wt ro fn Fn nm ord sd tr tn up lo Z) (hx : rg x) (htr : -1 ≤ tr ∧ tr < 1024) (htn : (tn = -1 ∨ 0 ≤ tr) ∧ -1 ≤ tn ∧ tn ≤ 10) : sM X 18 147 [.ref 0, .int (iI x)] S (qQ (.int (iI (rTold n tn (fun i => ((val sz tr.toNat i : Nat) : Int)) x))) (fun S' => CI S' n sz wt ro fn Fn nm ord sd tr tn up lo Z) S) := by
  have hCI := h
  obtain ⟨hvC, hwC, ⟨wb, hgC⟩, ⟨hfn, hdr, h40, hF, hev, hnm, htb⟩, ⟨b, R, pl, D, U, rt, hR, hro, hsd, hz1, hz2⟩, t1, t2, t3, t4⟩ := h
  have hn := hvC.1.1
  have hT0 := hvC.1.2.2
  have x1 := hx.1
  have x2 := hx.2
  refine sIni (ls := [some (.ref 0), some (.int (iI x))]) rfl ?_
  refine sL (pc' := 1) (i := .aload_n 0) rfl rfl ?_
  refine sGc (p := 4) rfl rfl (sk_0 _) rfl rfl rfl ?_
  refine sL (pc' := 5) (i := .iload_n 1) rfl rfl ?_
  refine sCv (p := 8) (as := [_]) rfl rfl rfl rfl (by decide) (Nat.le_of_ble_eq_true rfl) rfl (Nat.le_of_ble_eq_true rfl) (sk_1 _) rfl (by omega) (c_has hvC hx) ?_
  refine sBn (p := 11) rfl rfl (fun c1 => ?_) (fun c1 => ?_)
  · have c1 := c1
    have c1 := of_decide_eq_true c1
    obtain ⟨v, rfl⟩ : ∃ v : Nat, x = (v : Int) := ⟨x.toNat, by omega⟩
    have hvv : v < n := by omega
    refine sL (pc' := 15) (i := .iload_n 1) rfl rfl ?_
    refine sL (pc' := 16) (i := .aload_n 0) rfl rfl ?_
    refine sGi (p := 19) rfl rfl (sk_0 _) rfl rfl rfl t2 ?_
    refine sIc_lt (p := 22) rfl rfl ⟨by omega, by omega⟩ ⟨by omega, by omega⟩ (fun c2 => ?_) (fun c2 => ?_)
    · have c2 := c2
      refine sL (pc' := 26) (i := .aload_n 0) rfl rfl ?_
      refine sGc (p := 29) rfl rfl (sk_0 _) rfl rfl rfl ?_
      refine sL (pc' := 30) (i := .aload_n 0) rfl rfl ?_
      refine sGi (p := 33) rfl rfl (sk_0 _) rfl rfl rfl t1 ?_
      refine sL (pc' := 34) (i := .iload_n 1) rfl rfl ?_
      refine sCv (p := 37) (as := [_, _]) rfl rfl rfl rfl (by decide) (Nat.le_of_ble_eq_true rfl) rfl (Nat.le_of_ble_eq_true rfl) (sk_1 _) rfl (by omega) ((show sM X 0 18 [.ref 1, .int (iI tr), .int (iI ((v : Nat) : Int))] S (sV (some (.int (iI ((val sz tr.toNat v : Nat) : Int)))) S) by rw [show tr = ((tr.toNat : Nat) : Int) from by omega]; exact c_val hvC (by omega) hvv)) ?_
      refine sEn (i := .ireturn) rfl (rfl) ?_
      exact ⟨congrArg (fun z => some (Value.int (iI z))) (by unfold rTold; rw [if_neg (by omega), if_neg (by omega)]; rfl), hCI, frX_refl _⟩
    · have c2 := c2
      refine sKb (p := 24) rfl rfl ?_
      refine sEn (i := .ireturn) rfl (rfl) ?_
      exact ⟨congrArg (fun z => some (Value.int (iI z))) (by unfold rTold; rw [if_neg (by omega), if_pos (by omega)]), hCI, frX_refl _⟩
  · have c1 := c1
    have c1 := of_decide_eq_false c1
    refine sKb (p := 13) rfl rfl ?_
    refine sEn (i := .ireturn) rfl (rfl) ?_
    exact ⟨congrArg (fun z => some (Value.int (iI z))) (by unfold rTold; rw [if_pos (by omega)]), hCI, frX_refl _⟩
theorem hereC {g : Nat → Bool} {y : Nat} (h : CI S n sz wt ro fn Fn nm ord sd tr tn up lo Z) (hg : sd = some g) : sM X 18 154 [.ref 0] S (qQ (.int (iI (hrT n sz ord g))) (fun S' => CI S' n sz wt ro fn Fn nm ord sd tr tn up lo Z) S) := by
  have hCI := h
  obtain ⟨hvC, hwC, ⟨wb, hgC⟩, ⟨hfn, hdr, h40, hF, hev, hnm, htb⟩, ⟨b, R, pl, D, U, rt, hR, hro, hsd, hz1, hz2⟩, t1, t2, t3, t4⟩ := h
  have hn := hvC.1.1
  have hT0 := hvC.1.2.2
  have hT := hvC.1.pos (Nat.le_refl n)
  rcases hsd with ⟨a1, a2⟩ | ⟨g9, y9, a1, a2, a3, a4⟩
  · rw [a1] at hg
    cases hg
  · rw [a1] at hg
    cases hg
    have hA := hR.1.1.1
    have hP := hR.1.1.2.1
    have hUR := hR.1.1.2.2.2.2.2.2.2.1
    have hU2 := hR.1.1.2.2.2.2.2.2.2.2.1
    have hR2 := hA.2.2.1
    have hyU := dok_lt hP hU2 a3
    refine sIni (ls := [some (.ref 0)]) rfl ?_
    refine sL (pc' := 1) (i := .aload_n 0) rfl rfl ?_
    refine sGi (p := 4) rfl rfl (sk_0 _) rfl rfl rfl a2 ?_
    refine sKi (p := 5) rfl rfl ?_
    refine sIc_ne (p := 8) rfl rfl ⟨by omega, by omega⟩ ⟨by omega, by omega⟩ (fun c1 => ?_) (fun c1 => ?_)
    · have c1 := c1
      refine sL (pc' := 11) (i := .aload_n 0) rfl rfl ?_
      refine sGi (p := 14) rfl rfl (sk_0 _) rfl rfl rfl a2 ?_
      refine sIf_ne (p := 17) rfl rfl ⟨by omega, by omega⟩ (fun c2 => ?_) (fun c2 => ?_)
      · have c2 := c2
        refine sL (pc' := 21) (i := .aload_n 0) rfl rfl ?_
        refine sGi (p := 24) rfl rfl (sk_0 _) rfl rfl rfl a2 ?_
        refine sKi (p := 25) rfl rfl ?_
        refine sIc_ne (p := 28) rfl rfl ⟨by omega, by omega⟩ ⟨by omega, by omega⟩ (fun c3 => ?_) (fun c3 => ?_)
        · have c3 := c3
          have hlv : dl D y9 = true := by
            rcases a3 with q | q | q
            · omega
            · exact q
            · omega
          refine sL (pc' := 32) (i := .aload_n 0) rfl rfl ?_
          refine sGc (p := 35) rfl rfl (sk_0 _) rfl rfl rfl ?_
          refine sL (pc' := 36) (i := .aload_n 0) rfl rfl ?_
          refine sGi (p := 39) rfl rfl (sk_0 _) rfl rfl rfl a2 ?_
          refine sCv (p := 42) (as := [_]) rfl rfl rfl rfl (by decide) (Nat.le_of_ble_eq_true rfl) rfl (Nat.le_of_ble_eq_true rfl) (sk_52 _) rfl (by omega) (c_variableAt (z := ((dv D y9 : Nat) : Int)) hA hR.1.1.2.2.2.2.2.2.1 hUR ⟨by omega, hyU⟩ (hR.1.1.2.2.1.1 y9 hlv)) ?_
          refine sEn (i := .ireturn) rfl (rfl) ?_
          have h0 := live_lf hvC.1 hP hlv
          exact ⟨congrArg (fun z => some (Value.int (iI z))) (by unfold hrT; rw [← a4, if_neg (by rw [h0]; decide), if_neg (by rw [h0]; decide), hR.1.2.1 y9 hlv]), hCI, frX_refl _⟩
        · have c3 := c3
          refine sKb (p := 30) rfl rfl ?_
          refine sEn (i := .ireturn) rfl (rfl) ?_
          have h0 : lfv (pr sz n) (ds D y9) = 1 := by rw [show y9 = 1 from by omega, hP.2.2.2.2.2.1]; exact (lfv_1 (f := evr (pr sz n)) hT0 hT (fun r hr => decide_eq_false (by omega))).mpr (fun r hr => decide_eq_true hr)
          exact ⟨congrArg (fun z => some (Value.int (iI z))) (by unfold hrT; rw [← a4, if_neg (by rw [h0]; decide), if_pos h0]), hCI, frX_refl _⟩
      · have c2 := c2
        refine sKb (p := 19) rfl rfl ?_
        refine sEn (i := .ireturn) rfl (rfl) ?_
        have h0 : lfv (pr sz n) (ds D y9) = 0 := by rw [show y9 = 0 from by omega, hP.2.2.2.2.1]; exact (lfv_0 hT0 hT (fun _ _ => rfl)).mpr (fun _ _ => rfl)
        exact ⟨congrArg (fun z => some (Value.int (iI z))) (by unfold hrT; rw [← a4, if_pos h0]), hCI, frX_refl _⟩
    · exfalso; omega
theorem hereN (h : CI S n sz wt ro fn Fn nm ord sd tr tn up lo Z) (hg : sd = none) : sM X 18 154 [.ref 0] S (qQ (.int (iI (-1))) (fun S' => CI S' n sz wt ro fn Fn nm ord sd tr tn up lo Z) S) := by
  have hCI := h
  obtain ⟨hvC, hwC, ⟨wb, hgC⟩, ⟨hfn, hdr, h40, hF, hev, hnm, htb⟩, ⟨b, R, pl, D, U, rt, hR, hro, hsd, hz1, hz2⟩, t1, t2, t3, t4⟩ := h
  have hn := hvC.1.1
  have hT0 := hvC.1.2.2
  rcases hsd with ⟨a1, a2⟩ | ⟨g9, y9, a1, a2, a3, a4⟩
  · skip
    refine sIni (ls := [some (.ref 0)]) rfl ?_
    refine sL (pc' := 1) (i := .aload_n 0) rfl rfl ?_
    refine sGi (p := 4) rfl rfl (sk_0 _) rfl rfl rfl a2 ?_
    refine sKi (p := 5) rfl rfl ?_
    refine sIc_ne (p := 8) rfl rfl ⟨by omega, by omega⟩ ⟨by omega, by omega⟩ (fun c1 => ?_) (fun c1 => ?_)
    · exact absurd c1 (by decide)
    · have c1 := c1
      refine sKi (p := 9) rfl rfl ?_
      refine sEn (i := .ireturn) rfl (rfl) ?_
      exact ⟨rfl, hCI, frX_refl _⟩
  · rw [a1] at hg
    cases hg
end CX
