/-! ===== Functions: spreading, drafts, dependence, first and heaviest runs, weights ===== -/
def spW (S : ST) (Fn : Nat → Nat → Bool) (T0 T1 : Nat) : Nat → ST
  | 0 => wRw S 51 0 (evr T1)
  | i + 1 => wRw (spW S Fn T0 T1 i) (9 + i) 0 (fun r => decide (r < T1) && Fn i (r % T0))
theorem SI_spW (S : ST) (Fn : Nat → Nat → Bool) (T0 T1 : Nat) : ∀ i, SI (spW S Fn T0 T1 i) = SI S
  | 0 => rfl
  | i + 1 => SI_spW S Fn T0 T1 i
theorem kd_spW (S : ST) (Fn : Nat → Nat → Bool) (T0 T1 : Nat) : ∀ i, kd (spW S Fn T0 T1 i) = kd S
  | 0 => rfl
  | i + 1 => kd_spW S Fn T0 T1 i
theorem spW_row {S : ST} {Fn : Nat → Nat → Bool} {T0 T1 b o : Nat} {f : Nat → Bool} : ∀ {i : Nat}, i ≤ 40 → (∀ j, j < i → b ≠ 9 + j) → b ≠ 51 → rowS S b o f → rowS (spW S Fn T0 T1 i) b o f
  | 0, _, _, h51, h => rowS_ne (Or.inl h51) h
  | i + 1, hi, hj, h51, h => rowS_ne (Or.inl (hj i (by omega))) (spW_row (by omega) (fun j hh => hj j (by omega)) h51 h)
section FS
variable {X : List Int32} {S : ST} {n : Nat} {sz : Nat → Nat} {fn : Nat} {a b c : Nat} {f g h : Nat → Bool} {wt : Nat → Int} {ro : Nat → Bool}
theorem c_spread {T0 T1 : Nat} {Fn : Nat → Nat → Bool} (hfn : SI S 7 5 = (fn : Nat)) (h40 : fn ≤ 40) (hT : SI S 1 7 = (T1 : Nat)) (hT0 : 0 < T0) (h01 : T0 ≤ T1) (h1 : T1 ≤ 1024) (hev : rowS S 51 0 (evr T0)) (hF : ∀ i, i < fn → rowS S (9 + i) 0 (Fn i)) (hz : ∀ i, i < fn → ∀ r, T0 ≤ r → Fn i r = false) : sM X 2 65 [.ref 7, .int (iI (T0 : Nat))] S (sV none (spW S Fn T0 T1 fn)) := by
  have ev : wRw S 51 0 (fun r => decide (r < T1) && evr T0 (r % T0)) = wRw S 51 0 (evr T1) := wRw_eq (fun r _ => by
    unfold evr
    rw [decide_eq_true (Nat.mod_lt r hT0), Bool.and_true])
  refine sIni (ls := [some (.ref 7), some (.int (iI ((T0 : Nat) : Int))), none]) rfl ?_
  refine sL (pc' := 1) (i := .aload_n 0) rfl rfl ?_
  refine sL (pc' := 2) (i := .aload_n 0) rfl rfl ?_
  refine sGc (p := 5) rfl rfl (sk_7 _) rfl rfl rfl ?_
  refine sL (pc' := 6) (i := .iload_n 1) rfl rfl ?_
  refine sCv (p := 9) (as := [_, _]) rfl rfl rfl rfl (by decide) (Nat.le_of_ble_eq_true rfl) rfl (Nat.le_of_ble_eq_true rfl) (sk_7 _) rfl (by omega) (c_repeat hT hT0 h01 h1 (sk_51 _) hev (fun r hr => decide_eq_false (by omega))) ?_
  rw [ev]
  refine sKi (p := 10) rfl rfl ?_
  refine sL (pc' := 11) (i := .istore_n 2) (ls' := [some (.ref 7), some (.int (iI ((T0 : Nat) : Int))), some (.int (iI 0))]) rfl rfl ?_
  refine sIt (A := fun i => [some (.ref 7), some (.int (iI ((T0 : Nat) : Int))), some (.int (iI ((i : Nat) : Int)))]) (B := fun i => spW S Fn T0 T1 i) (fun _ => True) fn True.intro (fun i hi11 hI11 ih11 => ?_) (fun hI11 => ?_)
  · have hi11 := hi11
    refine sL (pc' := 12) (i := .iload_n 2) rfl rfl ?_
    refine sL (pc' := 13) (i := .aload_n 0) rfl rfl ?_
    refine sGi (p := 16) rfl rfl (sk_7 _) rfl rfl rfl ((congrFun (congrFun (SI_spW _ _ _ _ _) 7) 5).trans hfn) ?_
    refine sIc_ge (p := 19) rfl rfl ⟨by omega, by omega⟩ ⟨by omega, by omega⟩ (fun c1 => ?_) (fun c1 => ?_)
    · exfalso; omega
    · have c1 := c1
      refine sL (pc' := 20) (i := .aload_n 0) rfl rfl ?_
      refine sL (pc' := 21) (i := .aload_n 0) rfl rfl ?_
      refine sGc (p := 24) rfl rfl (sk_7 _) rfl rfl rfl ?_
      refine sL (pc' := 25) (i := .iload_n 2) rfl rfl ?_
      refine sAa (p := 26) (i := i) rfl rfl (sk_8 _) (by omega) (by omega) (rows_at (by omega)) ?_
      refine sL (pc' := 27) (i := .iload_n 1) rfl rfl ?_
      refine sCv (p := 30) (as := [_, _]) rfl rfl rfl rfl (by decide) (Nat.le_of_ble_eq_true rfl) rfl (Nat.le_of_ble_eq_true rfl) (sk_7 _) rfl (by omega) (c_repeat (S := spW S Fn T0 T1 i) (f := Fn i) ((congrFun (congrFun (SI_spW _ _ _ _ _) 1) 7).trans hT) hT0 h01 h1 (sk_rows _ (by omega)) (spW_row (by omega) (fun j hj => by omega) (by omega) (hF i hi11)) (hz i hi11)) ?_
      refine sInX (z := ((i : Nat) : Int)) (ls' := [some (.ref 7), some (.int (iI ((T0 : Nat) : Int))), some (.int (iI (((i : Nat) : Int) + 1)))]) (p := 33) rfl rfl (Nat.le_of_ble_eq_true rfl) rfl rfl ?_
      refine sL (i := .goto (-22)) rfl rfl ?_
      refine sRo (ls := [some (.ref 7), some (.int (iI ((T0 : Nat) : Int))), some (.int (iI ((i + 1 : Nat) : Int)))]) (T := spW S Fn T0 T1 (i + 1)) (And.intro rfl (And.intro rfl (And.intro rfl (True.intro)))) (rfl) (ih11 ?_)
      exact True.intro
  · have hI11 := hI11
    refine sL (pc' := 12) (i := .iload_n 2) rfl rfl ?_
    refine sL (pc' := 13) (i := .aload_n 0) rfl rfl ?_
    refine sGi (p := 16) rfl rfl (sk_7 _) rfl rfl rfl ((congrFun (congrFun (SI_spW _ _ _ _ _) 7) 5).trans hfn) ?_
    refine sIc_ge (p := 19) rfl rfl ⟨by omega, by omega⟩ ⟨by omega, by omega⟩ (fun c2 => ?_) (fun c2 => ?_)
    · have c2 := c2
      refine sEn (i := .return_) rfl (rfl) ?_
      exact ⟨rfl, rfl⟩
    · exfalso; omega
theorem cpy_row {S : ST} {a b : Nat} (hf : rowS S b 0 f) : wLA S a (fun k => if 0 ≤ k ∧ k < 0 + 16 then SL S b (0 + (k - 0)) else SL S a k) = wRw S a 0 f := by
  unfold wRw
  refine congrArg (wLA S a) (funext fun k => ?_)
  by_cases c : 0 ≤ k ∧ k < 0 + 16
  · rw [if_pos c, if_pos c, Nat.sub_zero]
    exact hf k (by omega)
  · rw [if_neg c, if_neg c]
theorem c_draft {dr : Nat} {x : Int64} (hfn : SI S 7 5 = (fn : Nat)) (hdr : SI S 7 6 = (dr : Nat)) (h40 : fn + dr < 40) (hk : kd S a = some (.inl (2, 16))) (hf : rowS S a 0 f) : sM X 1 63 [.ref 7, .long x, .ref a] S (sV none (wI (wL (wRw S (9 + (fn + dr)) 0 f) 49 (fn + dr) x) 7 6 ((dr + 1 : Nat) : Int))) := by
  refine sIni (ls := [some (.ref 7), some (.long x), none, some (.ref a), none]) rfl ?_
  refine sL (pc' := 1) (i := .aload_n 0) rfl rfl ?_
  refine sGi (p := 4) rfl rfl (sk_7 _) rfl rfl rfl hfn ?_
  refine sL (pc' := 5) (i := .aload_n 0) rfl rfl ?_
  refine sGi (p := 8) rfl rfl (sk_7 _) rfl rfl rfl hdr ?_
  refine sAd (p := 9) rfl rfl ?_
  refine sL (pc' := 11) (i := .istore 4) (ls' := [some (.ref 7), some (.long x), none, some (.ref a), some (.int (iI (((fn : Nat) : Int) + ((dr : Nat) : Int))))]) rfl rfl ?_
  refine sL (pc' := 13) (i := .iload 4) rfl rfl ?_
  refine sKb (p := 15) rfl rfl ?_
  refine sIc_lt (p := 18) rfl rfl ⟨by omega, by omega⟩ ⟨by omega, by omega⟩ (fun c1 => ?_) (fun c1 => ?_)
  · have c1 := c1
    refine sL (pc' := 20) (i := .aload_n 3) rfl rfl ?_
    refine sKi (p := 21) rfl rfl ?_
    refine sL (pc' := 22) (i := .aload_n 0) rfl rfl ?_
    refine sGc (p := 25) rfl rfl (sk_7 _) rfl rfl rfl ?_
    refine sL (pc' := 27) (i := .iload 4) rfl rfl ?_
    refine sAa (p := 28) (i := fn + dr) rfl rfl (sk_8 _) (by omega) (by omega) (rows_at h40) ?_
    refine sKi (p := 29) rfl rfl ?_
    refine sKb (p := 31) rfl rfl ?_
    refine sAcL (p := 34) (n := 16) (dp := 0) (sp := 0) rfl rfl hk (sk_rows _ h40) rfl rfl rfl (by omega) (by omega) ⟨by omega, by omega⟩ (by decide) ?_
    rw [cpy_row hf]
    refine sL (pc' := 35) (i := .aload_n 0) rfl rfl ?_
    refine sGc (p := 38) rfl rfl (sk_7 _) rfl rfl rfl ?_
    refine sL (pc' := 40) (i := .iload 4) rfl rfl ?_
    refine sL (pc' := 41) (i := .lload_n 1) rfl rfl ?_
    refine sWl (p := 42) (i := fn + dr) rfl rfl (sk_49 _) (by omega) ⟨by omega, by omega⟩ ?_
    refine sL (pc' := 43) (i := .aload_n 0) rfl rfl ?_
    refine sL (pc' := 44) (i := .dup) rfl rfl ?_
    refine sGi (p := 47) rfl rfl (sk_7 _) rfl rfl rfl hdr ?_
    refine sKi (p := 48) rfl rfl ?_
    refine sAd (p := 49) rfl rfl ?_
    refine sPi (z := (((dr : Nat) : Int) + 1)) (p := 52) rfl rfl (sk_7 _) rfl rfl rfl rfl ?_
    refine sEn (i := .return_) rfl (rfl) ?_
    exact ⟨rfl, rfl⟩
  · exfalso; omega
def smB (sz : Nat → Nat) (x : Int) (r : Nat) : Nat → Nat
  | 0 => 0
  | v + 1 => smB sz x r v + (if iB (iI x) v then val sz r v else 0)
theorem smB_le {n : Nat} {sz : Nat → Nat} (hw : wf n sz) (x : Int) (r : Nat) : ∀ {v : Nat}, v ≤ n → smB sz x r v ≤ 6 * v
  | 0, _ => Nat.le_refl _
  | v + 1, h => by
    have ih := smB_le hw x r (v := v) (by omega)
    have h1 := hw.val (v := v) (by omega) r
    have h2 := hw.2.1 v (by omega)
    show smB sz x r v + (if iB (iI x) v then val sz r v else 0) ≤ _
    split <;> omega
theorem smB_t {sz : Nat → Nat} {x : Int} {r v : Nat} (h : iB (iI x) v = true) : ((smB sz x r v : Nat) : Int) + ((val sz r v : Nat) : Int) = ((smB sz x r (v + 1) : Nat) : Int) := by
  show _ = ((smB sz x r v + (if iB (iI x) v then val sz r v else 0) : Nat) : Int)
  rw [h]
  rfl
theorem smB_f {sz : Nat → Nat} {x : Int} {r v : Nat} (h : iB (iI x) v = false) : ((smB sz x r v : Nat) : Int) = ((smB sz x r (v + 1) : Nat) : Int) := by
  show _ = ((smB sz x r v + (if iB (iI x) v then val sz r v else 0) : Nat) : Int)
  rw [h]
  rfl
def manP (n : Nat) (sz : Nat → Nat) (x y : Int) : Nat → Bool := fun r => decide (y ≤ ((smB sz x r n : Nat) : Int))
theorem c_markCounted (hv : vC S n sz) (hka : kd S a = some (.inl (2, 16))) (hfa : rowS S a 0 f) {x y : Int} (hx : rg x) (hy : rg y) : sM X 1 69 [.ref 7, .ref a, .int (iI x), .int (iI y)] S (sV none (wRw S a 0 (mk f (manP n sz x y) (pr sz n)))) := by
  have hT0 := hv.1.2.2
  have hn := hv.1.1
  have y1 := hy.1
  have y2 := hy.2
  refine sIni (ls := [some (.ref 7), some (.ref a), some (.int (iI x)), some (.int (iI y)), none, none, none]) rfl ?_
  refine sKi (p := 1) rfl rfl ?_
  refine sL (pc' := 3) (i := .istore 4) (ls' := [some (.ref 7), some (.ref a), some (.int (iI x)), some (.int (iI y)), some (.int (iI 0)), none, none]) rfl rfl ?_
  refine sSh (T := wRw S a 0 (mk f (manP n sz x y) 0)) (congrArg sH (mk_s hfa).symm) ?_
  refine sIt (A := fun i => [some (.ref 7), some (.ref a), some (.int (iI x)), some (.int (iI y)), some (.int (iI ((i : Nat) : Int))), none, none]) (B := fun i => wRw S a 0 (mk f (manP n sz x y) i)) (fun _ => True) (pr sz n) True.intro (fun i hi3 hI3 ih3 => ?_) (fun hI3 => ?_)
  · have hi3 := hi3
    refine sL (pc' := 5) (i := .iload 4) rfl rfl ?_
    refine sL (pc' := 6) (i := .aload_n 0) rfl rfl ?_
    refine sGc (p := 9) rfl rfl (sk_7 _) rfl rfl rfl ?_
    refine sGi (p := 12) rfl rfl (sk_1 _) rfl rfl rfl hv.2.2.1 ?_
    refine sIc_ge (p := 15) rfl rfl ⟨by omega, by omega⟩ ⟨by omega, by omega⟩ (fun c1 => ?_) (fun c1 => ?_)
    · exfalso; omega
    · have c1 := c1
      refine sKi (p := 16) rfl rfl ?_
      refine sL (pc' := 18) (i := .istore 5) (ls' := [some (.ref 7), some (.ref a), some (.int (iI x)), some (.int (iI y)), some (.int (iI ((i : Nat) : Int))), some (.int (iI 0)), none]) rfl rfl ?_
      refine sKi (p := 19) rfl rfl ?_
      refine sL (pc' := 21) (i := .istore 6) (ls' := [some (.ref 7), some (.ref a), some (.int (iI x)), some (.int (iI y)), some (.int (iI ((i : Nat) : Int))), some (.int (iI 0)), some (.int (iI 0))]) rfl rfl ?_
      refine sIt (A := fun v => [some (.ref 7), some (.ref a), some (.int (iI x)), some (.int (iI y)), some (.int (iI ((i : Nat) : Int))), some (.int (iI ((smB sz x i v : Nat) : Int))), some (.int (iI ((v : Nat) : Int)))]) (B := fun _ => wRw S a 0 (mk f (manP n sz x y) i)) (fun _ => True) n True.intro (fun v hi21 hI21 ih21 => ?_) (fun hI21 => ?_)
      · have hi21 := hi21
        have hsm := smB_le hv.1 x i (v := v) (by omega)
        refine sL (pc' := 23) (i := .iload 6) rfl rfl ?_
        refine sL (pc' := 24) (i := .aload_n 0) rfl rfl ?_
        refine sGc (p := 27) rfl rfl (sk_7 _) rfl rfl rfl ?_
        refine sGi (p := 30) rfl rfl (sk_1 _) rfl rfl rfl hv.2.1 ?_
        refine sIc_ge (p := 33) rfl rfl ⟨by omega, by omega⟩ ⟨by omega, by omega⟩ (fun c2 => ?_) (fun c2 => ?_)
        · exfalso; omega
        · have c2 := c2
          refine sL (pc' := 34) (i := .iload_n 2) rfl rfl ?_
          refine sL (pc' := 36) (i := .iload 6) rfl rfl ?_
          refine sMb (p := 39) (j := v) rfl rfl rfl rfl rfl rfl (by omega) ?_
          refine sBe (p := 42) rfl rfl (fun c3 => ?_) (fun c3 => ?_)
          · have c3 := c3
            refine sInX (z := ((v : Nat) : Int)) (ls' := [some (.ref 7), some (.ref a), some (.int (iI x)), some (.int (iI y)), some (.int (iI ((i : Nat) : Int))), some (.int (iI ((smB sz x i v : Nat) : Int))), some (.int (iI (((v : Nat) : Int) + 1)))]) (p := 61) rfl rfl (Nat.le_of_ble_eq_true rfl) rfl rfl ?_
            refine sL (i := .goto (-40)) rfl rfl ?_
            refine sRo (ls := [some (.ref 7), some (.ref a), some (.int (iI x)), some (.int (iI y)), some (.int (iI ((i : Nat) : Int))), some (.int (iI ((smB sz x i (v + 1) : Nat) : Int))), some (.int (iI ((v + 1 : Nat) : Int)))]) (T := _) (And.intro rfl (And.intro rfl (And.intro rfl (And.intro rfl (And.intro rfl (And.intro (congrArg (fun z => some (Value.int z)) (congrArg iI (smB_f (by assumption)))) (And.intro rfl (True.intro)))))))) (rfl) (ih21 ?_)
            exact True.intro
          · have c3 := c3
            refine sL (pc' := 44) (i := .iload 5) rfl rfl ?_
            refine sL (pc' := 45) (i := .aload_n 0) rfl rfl ?_
            refine sGc (p := 48) rfl rfl (sk_7 _) rfl rfl rfl ?_
            refine sL (pc' := 50) (i := .iload 4) rfl rfl ?_
            refine sL (pc' := 52) (i := .iload 6) rfl rfl ?_
            refine sCv (p := 55) (as := [_, _]) rfl rfl rfl rfl (by decide) (Nat.le_of_ble_eq_true rfl) rfl (Nat.le_of_ble_eq_true rfl) (sk_1 _) rfl (by omega) (c_val (S := wRw S a 0 (mk f (manP n sz x y) i)) hv (r := i) (v := v) (by omega) (by assumption)) ?_
            refine sAd (p := 56) rfl rfl ?_
            refine sL (pc' := 58) (i := .istore 5) (ls' := [some (.ref 7), some (.ref a), some (.int (iI x)), some (.int (iI y)), some (.int (iI ((i : Nat) : Int))), some (.int (iI (((smB sz x i v : Nat) : Int) + ((val sz i v : Nat) : Int)))), some (.int (iI ((v : Nat) : Int)))]) rfl rfl ?_
            refine sInX (z := ((v : Nat) : Int)) (ls' := [some (.ref 7), some (.ref a), some (.int (iI x)), some (.int (iI y)), some (.int (iI ((i : Nat) : Int))), some (.int (iI (((smB sz x i v : Nat) : Int) + ((val sz i v : Nat) : Int)))), some (.int (iI (((v : Nat) : Int) + 1)))]) (p := 61) rfl rfl (Nat.le_of_ble_eq_true rfl) rfl rfl ?_
            refine sL (i := .goto (-40)) rfl rfl ?_
            refine sRo (ls := [some (.ref 7), some (.ref a), some (.int (iI x)), some (.int (iI y)), some (.int (iI ((i : Nat) : Int))), some (.int (iI ((smB sz x i (v + 1) : Nat) : Int))), some (.int (iI ((v + 1 : Nat) : Int)))]) (T := _) (And.intro rfl (And.intro rfl (And.intro rfl (And.intro rfl (And.intro rfl (And.intro (congrArg (fun z => some (Value.int z)) (congrArg iI (smB_t (by assumption)))) (And.intro rfl (True.intro)))))))) (rfl) (ih21 ?_)
            exact True.intro
      · have hI21 := hI21
        have hsm := smB_le hv.1 x i (v := n) (Nat.le_refl n)
        refine sL (pc' := 23) (i := .iload 6) rfl rfl ?_
        refine sL (pc' := 24) (i := .aload_n 0) rfl rfl ?_
        refine sGc (p := 27) rfl rfl (sk_7 _) rfl rfl rfl ?_
        refine sGi (p := 30) rfl rfl (sk_1 _) rfl rfl rfl hv.2.1 ?_
        refine sIc_ge (p := 33) rfl rfl ⟨by omega, by omega⟩ ⟨by omega, by omega⟩ (fun c4 => ?_) (fun c4 => ?_)
        · have c4 := c4
          refine sL (pc' := 66) (i := .iload 5) rfl rfl ?_
          refine sL (pc' := 67) (i := .iload_n 3) rfl rfl ?_
          refine sIc_lt (p := 70) rfl rfl ⟨by omega, by omega⟩ ⟨by omega, by omega⟩ (fun c5 => ?_) (fun c5 => ?_)
          · have c5 := c5
            refine sInX (z := ((i : Nat) : Int)) (ls' := [some (.ref 7), some (.ref a), some (.int (iI x)), some (.int (iI y)), some (.int (iI (((i : Nat) : Int) + 1))), some (.int (iI ((smB sz x i n : Nat) : Int))), some (.int (iI ((n : Nat) : Int)))]) (p := 79) rfl rfl (Nat.le_of_ble_eq_true rfl) rfl rfl ?_
            refine sL (i := .goto (-76)) rfl rfl ?_
            refine sRo (ls := [some (.ref 7), some (.ref a), some (.int (iI x)), some (.int (iI y)), some (.int (iI ((i + 1 : Nat) : Int))), none, none]) (T := wRw S a 0 (mk f (manP n sz x y) (i + 1))) (And.intro rfl (And.intro rfl (And.intro rfl (And.intro rfl (And.intro rfl (True.intro)))))) (congrArg sH (mk_f (decide_eq_false (by omega)))) (ih3 ?_)
            exact True.intro
          · have c5 := c5
            refine sL (pc' := 71) (i := .aload_n 1) rfl rfl ?_
            refine sL (pc' := 73) (i := .iload 4) rfl rfl ?_
            refine sCs (p := 76) (as := [_, _]) rfl rfl rfl rfl (by decide) (Nat.le_of_ble_eq_true rfl) rfl (Nat.le_of_ble_eq_true rfl) rfl (by omega) (c_mark (S := wRw S a 0 (mk f (manP n sz x y) i)) (r := i) (f := mk f _ i) hka (rowS_wRw _ _ _ _) (by omega)) ?_
            refine sInX (z := ((i : Nat) : Int)) (ls' := [some (.ref 7), some (.ref a), some (.int (iI x)), some (.int (iI y)), some (.int (iI (((i : Nat) : Int) + 1))), some (.int (iI ((smB sz x i n : Nat) : Int))), some (.int (iI ((n : Nat) : Int)))]) (p := 79) rfl rfl (Nat.le_of_ble_eq_true rfl) rfl rfl ?_
            refine sL (i := .goto (-76)) rfl rfl ?_
            refine sRo (ls := [some (.ref 7), some (.ref a), some (.int (iI x)), some (.int (iI y)), some (.int (iI ((i + 1 : Nat) : Int))), none, none]) (T := wRw S a 0 (mk f (manP n sz x y) (i + 1))) (And.intro rfl (And.intro rfl (And.intro rfl (And.intro rfl (And.intro rfl (True.intro)))))) (congrArg sH (mk_t (decide_eq_true (by omega)))) (ih3 ?_)
            exact True.intro
        · exfalso; omega
  · have hI3 := hI3
    refine sL (pc' := 5) (i := .iload 4) rfl rfl ?_
    refine sL (pc' := 6) (i := .aload_n 0) rfl rfl ?_
    refine sGc (p := 9) rfl rfl (sk_7 _) rfl rfl rfl ?_
    refine sGi (p := 12) rfl rfl (sk_1 _) rfl rfl rfl hv.2.2.1 ?_
    refine sIc_ge (p := 15) rfl rfl ⟨by omega, by omega⟩ ⟨by omega, by omega⟩ (fun c6 => ?_) (fun c6 => ?_)
    · have c6 := c6
      refine sEn (i := .return_) rfl (rfl) ?_
      exact ⟨rfl, rfl⟩
    · exfalso; omega
def hgB (sz : Nat → Nat) (f : Nat → Bool) (v : Nat) : Nat → Bool := fun r => decide (0 < val sz r v) && (f r != f (r - pr sz v))
theorem c_hangsOn {i0 v : Nat} (hv : vC S n sz) (hi0 : i0 < 40) (hf : rowS S (9 + i0) 0 f) (hvv : v < n) : sM X 1 79 [.ref 7, .int (iI (i0 : Nat)), .int (iI (v : Nat))] S (sV (some (.int (iI (bI (anyB (hgB sz f v) (pr sz n)))))) S) := by
  have hT0 := hv.1.2.2
  have hs := hv.1.2.1 v hvv
  have hp := hv.1.pos (i := v) (by omega)
  refine sIni (ls := [some (.ref 7), some (.int (iI ((i0 : Nat) : Int))), some (.int (iI ((v : Nat) : Int))), none, none, none, none]) rfl ?_
  refine sL (pc' := 1) (i := .aload_n 0) rfl rfl ?_
  refine sL (pc' := 2) (i := .iload_n 1) rfl rfl ?_
  refine sCv (p := 5) (as := [_]) rfl rfl rfl rfl (by decide) (Nat.le_of_ble_eq_true rfl) rfl (Nat.le_of_ble_eq_true rfl) (sk_7 _) rfl (by omega) (c_row hi0) ?_
  refine sL (pc' := 6) (i := .astore_n 3) (ls' := [some (.ref 7), some (.int (iI ((i0 : Nat) : Int))), some (.int (iI ((v : Nat) : Int))), some (.ref (9 + i0)), none, none, none]) rfl rfl ?_
  refine sL (pc' := 7) (i := .aload_n 0) rfl rfl ?_
  refine sGc (p := 10) rfl rfl (sk_7 _) rfl rfl rfl ?_
  refine sL (pc' := 11) (i := .iload_n 2) rfl rfl ?_
  refine sCv (p := 14) (as := [_]) rfl rfl rfl rfl (by decide) (Nat.le_of_ble_eq_true rfl) rfl (Nat.le_of_ble_eq_true rfl) (sk_1 _) rfl (by omega) (c_str (S := S) hv (v := v) (by assumption)) ?_
  refine sL (pc' := 16) (i := .istore 4) (ls' := [some (.ref 7), some (.int (iI ((i0 : Nat) : Int))), some (.int (iI ((v : Nat) : Int))), some (.ref (9 + i0)), some (.int (iI ((pr sz v : Nat) : Int))), none, none]) rfl rfl ?_
  refine sKi (p := 17) rfl rfl ?_
  refine sL (pc' := 19) (i := .istore 5) (ls' := [some (.ref 7), some (.int (iI ((i0 : Nat) : Int))), some (.int (iI ((v : Nat) : Int))), some (.ref (9 + i0)), some (.int (iI ((pr sz v : Nat) : Int))), some (.int (iI 0)), none]) rfl rfl ?_
  refine sIt (A := fun i => [some (.ref 7), some (.int (iI ((i0 : Nat) : Int))), some (.int (iI ((v : Nat) : Int))), some (.ref (9 + i0)), some (.int (iI ((pr sz v : Nat) : Int))), some (.int (iI ((i : Nat) : Int))), none]) (B := fun _ => S) (fun i => anyB (hgB sz f v) i = false) (pr sz n) rfl (fun i hi19 hI19 ih19 => ?_) (fun hI19 => ?_)
  · have hi19 := hi19
    have hvl := hv.1.val hvv i
    refine sL (pc' := 21) (i := .iload 5) rfl rfl ?_
    refine sL (pc' := 22) (i := .aload_n 0) rfl rfl ?_
    refine sGc (p := 25) rfl rfl (sk_7 _) rfl rfl rfl ?_
    refine sGi (p := 28) rfl rfl (sk_1 _) rfl rfl rfl hv.2.2.1 ?_
    refine sIc_ge (p := 31) rfl rfl ⟨by omega, by omega⟩ ⟨by omega, by omega⟩ (fun c1 => ?_) (fun c1 => ?_)
    · exfalso; omega
    · have c1 := c1
      refine sL (pc' := 32) (i := .aload_n 0) rfl rfl ?_
      refine sGc (p := 35) rfl rfl (sk_7 _) rfl rfl rfl ?_
      refine sL (pc' := 37) (i := .iload 5) rfl rfl ?_
      refine sL (pc' := 38) (i := .iload_n 2) rfl rfl ?_
      refine sCv (p := 41) (as := [_, _]) rfl rfl rfl rfl (by decide) (Nat.le_of_ble_eq_true rfl) rfl (Nat.le_of_ble_eq_true rfl) (sk_1 _) rfl (by omega) (c_val (S := S) hv (r := i) (v := v) (by omega) (by assumption)) ?_
      refine sL (pc' := 43) (i := .istore 6) (ls' := [some (.ref 7), some (.int (iI ((i0 : Nat) : Int))), some (.int (iI ((v : Nat) : Int))), some (.ref (9 + i0)), some (.int (iI ((pr sz v : Nat) : Int))), some (.int (iI ((i : Nat) : Int))), some (.int (iI ((val sz i v : Nat) : Int)))]) rfl rfl ?_
      refine sL (pc' := 45) (i := .iload 6) rfl rfl ?_
      refine sIf_le (p := 48) rfl rfl ⟨by omega, by omega⟩ (fun c2 => ?_) (fun c2 => ?_)
      · have c2 := c2
        have ht : hgB sz f v i = false := by unfold hgB; rw [decide_eq_false (by omega)]; rfl
        refine sInX (z := ((i : Nat) : Int)) (ls' := [some (.ref 7), some (.int (iI ((i0 : Nat) : Int))), some (.int (iI ((v : Nat) : Int))), some (.ref (9 + i0)), some (.int (iI ((pr sz v : Nat) : Int))), some (.int (iI (((i : Nat) : Int) + 1))), some (.int (iI ((val sz i v : Nat) : Int)))]) (p := 71) rfl rfl (Nat.le_of_ble_eq_true rfl) rfl rfl ?_
        refine sL (i := .goto (-52)) rfl rfl ?_
        refine sRo (ls := [some (.ref 7), some (.int (iI ((i0 : Nat) : Int))), some (.int (iI ((v : Nat) : Int))), some (.ref (9 + i0)), some (.int (iI ((pr sz v : Nat) : Int))), some (.int (iI ((i + 1 : Nat) : Int))), none]) (T := _) (And.intro rfl (And.intro rfl (And.intro rfl (And.intro rfl (And.intro rfl (And.intro rfl (True.intro))))))) (rfl) (ih19 ?_)
        show (anyB (hgB sz f v) i || hgB sz f v i) = false
        rw [hI19, ht]
        rfl
      · have c2 := c2
        have hsp := run_split sz i v
        have hmul : pr sz v ≤ val sz i v * pr sz v := Nat.le_mul_of_pos_left _ (by omega)
        refine sL (pc' := 49) (i := .aload_n 3) rfl rfl ?_
        refine sL (pc' := 51) (i := .iload 5) rfl rfl ?_
        refine sCs (p := 54) (as := [_, _]) rfl rfl rfl rfl (by decide) (Nat.le_of_ble_eq_true rfl) rfl (Nat.le_of_ble_eq_true rfl) rfl (by omega) (c_so (r := i) (sk_rows _ hi0) hf (by omega)) ?_
        refine sL (pc' := 55) (i := .aload_n 3) rfl rfl ?_
        refine sL (pc' := 57) (i := .iload 5) rfl rfl ?_
        refine sL (pc' := 59) (i := .iload 4) rfl rfl ?_
        refine sSb (p := 60) rfl rfl ?_
        rw [show ((i : Nat) : Int) - ((pr sz v : Nat) : Int) = ((i - pr sz v : Nat) : Int) from by omega]
        refine sCs (p := 63) (as := [_, _]) rfl rfl rfl rfl (by decide) (Nat.le_of_ble_eq_true rfl) rfl (Nat.le_of_ble_eq_true rfl) rfl (by omega) (c_so (r := i - pr sz v) (sk_rows _ hi0) hf (by omega)) ?_
        refine sIb_eq (p := 66) rfl rfl (fun c3 => ?_) (fun c3 => ?_)
        · have c3 := c3
          have ht : hgB sz f v i = false := by unfold hgB; rw [c3, bne_self_eq_false, Bool.and_false]
          refine sInX (z := ((i : Nat) : Int)) (ls' := [some (.ref 7), some (.int (iI ((i0 : Nat) : Int))), some (.int (iI ((v : Nat) : Int))), some (.ref (9 + i0)), some (.int (iI ((pr sz v : Nat) : Int))), some (.int (iI (((i : Nat) : Int) + 1))), some (.int (iI ((val sz i v : Nat) : Int)))]) (p := 71) rfl rfl (Nat.le_of_ble_eq_true rfl) rfl rfl ?_
          refine sL (i := .goto (-52)) rfl rfl ?_
          refine sRo (ls := [some (.ref 7), some (.int (iI ((i0 : Nat) : Int))), some (.int (iI ((v : Nat) : Int))), some (.ref (9 + i0)), some (.int (iI ((pr sz v : Nat) : Int))), some (.int (iI ((i + 1 : Nat) : Int))), none]) (T := _) (And.intro rfl (And.intro rfl (And.intro rfl (And.intro rfl (And.intro rfl (And.intro rfl (True.intro))))))) (rfl) (ih19 ?_)
          show (anyB (hgB sz f v) i || hgB sz f v i) = false
          rw [hI19, ht]
          rfl
        · have c3 := c3
          have ht : hgB sz f v i = true := by unfold hgB; rw [decide_eq_true (by omega), Bool.true_and]; exact bne_iff_ne.mpr c3
          refine sKi (p := 67) rfl rfl ?_
          refine sEn (i := .ireturn) rfl (rfl) ?_
          exact ⟨by rw [show anyB (hgB sz f v) (pr sz n) = true from anyB_iff.mpr ⟨i, hi19, ht⟩]; rfl, rfl⟩
  · have hI19 := hI19
    refine sL (pc' := 21) (i := .iload 5) rfl rfl ?_
    refine sL (pc' := 22) (i := .aload_n 0) rfl rfl ?_
    refine sGc (p := 25) rfl rfl (sk_7 _) rfl rfl rfl ?_
    refine sGi (p := 28) rfl rfl (sk_1 _) rfl rfl rfl hv.2.2.1 ?_
    refine sIc_ge (p := 31) rfl rfl ⟨by omega, by omega⟩ ⟨by omega, by omega⟩ (fun c4 => ?_) (fun c4 => ?_)
    · have c4 := c4
      refine sKi (p := 75) rfl rfl ?_
      refine sEn (i := .ireturn) rfl (rfl) ?_
      exact ⟨by rw [hI19]; rfl, rfl⟩
    · exfalso; omega
/-- the run behind a run, the last variable changing first -/
def nxt (sz : Nat → Nat) : Nat → Nat → Nat
  | 0, r => r
  | v + 1, r => if val sz r v + 1 < sz v then r + pr sz v else nxt sz v (r - val sz r v * pr sz v)
def nxj (sz : Nat → Nat) (n r : Nat) : Nat → Nat
  | 0 => r
  | j + 1 => nxj sz n r j - val sz (nxj sz n r j) (n - 1 - j) * pr sz (n - 1 - j)
theorem nxj_le (sz : Nat → Nat) (n r : Nat) : ∀ j, nxj sz n r j ≤ r
  | 0 => Nat.le_refl _
  | j + 1 => Nat.le_trans (Nat.sub_le _ _) (nxj_le sz n r j)
theorem c_following {r : Nat} (hv : vC S n sz) (hr : r < pr sz n) : sM X 1 21 [.ref 1, .int (iI (r : Nat))] S (sV (some (.int (iI (nxt sz n r : Nat)))) S) := by
  have hT0 := hv.1.2.2
  have hn := hv.1.1
  refine sIni (ls := [some (.ref 1), some (.int (iI ((r : Nat) : Int))), none, none, none]) rfl ?_
  refine sL (pc' := 1) (i := .iload_n 1) rfl rfl ?_
  refine sL (pc' := 2) (i := .istore_n 2) (ls' := [some (.ref 1), some (.int (iI ((r : Nat) : Int))), some (.int (iI ((r : Nat) : Int))), none, none]) rfl rfl ?_
  refine sL (pc' := 3) (i := .aload_n 0) rfl rfl ?_
  refine sGi (p := 6) rfl rfl (sk_1 _) rfl rfl rfl hv.2.1 ?_
  refine sKi (p := 7) rfl rfl ?_
  refine sSb (p := 8) rfl rfl ?_
  refine sL (pc' := 9) (i := .istore_n 3) (ls' := [some (.ref 1), some (.int (iI ((r : Nat) : Int))), some (.int (iI ((r : Nat) : Int))), some (.int (iI (((n : Nat) : Int) - 1))), none]) rfl rfl ?_
  rw [show ((n : Nat) : Int) - 1 = ((n : Nat) : Int) - 1 - ((0 : Nat) : Int) from by omega]
  refine sIt (A := fun j => [some (.ref 1), some (.int (iI ((r : Nat) : Int))), some (.int (iI ((nxj sz n r j : Nat) : Int))), some (.int (iI (((n : Nat) : Int) - 1 - ((j : Nat) : Int)))), none]) (B := fun _ => S) (fun j => nxt sz n r = nxt sz (n - j) (nxj sz n r j)) n (by rw [Nat.sub_zero]; rfl) (fun j hi9 hI9 ih9 => ?_) (fun hI9 => ?_)
  · have hi9 := hi9
    have hle := nxj_le sz n r j
    have hvl := hv.1.val (v := n - 1 - j) (by omega) (nxj sz n r j)
    have hsz := hv.1.2.1 (n - 1 - j) (by omega)
    have hp2 := hv.1.le2 (i := n - 1 - j) (by omega)
    have hsp := run_split sz (nxj sz n r j) (n - 1 - j)
    have e1 : n - j = (n - 1 - j) + 1 := by omega
    refine sL (pc' := 10) (i := .iload_n 3) rfl rfl ?_
    refine sIf_lt (p := 13) rfl rfl ⟨by omega, by omega⟩ (fun c1 => ?_) (fun c1 => ?_)
    · exfalso; omega
    · have c1 := c1
      refine sL (pc' := 14) (i := .aload_n 0) rfl rfl ?_
      refine sL (pc' := 15) (i := .iload_n 2) rfl rfl ?_
      refine sL (pc' := 16) (i := .iload_n 3) rfl rfl ?_
      rw [show ((n : Nat) : Int) - 1 - ((j : Nat) : Int) = ((n - 1 - j : Nat) : Int) from by omega]
      refine sCv (p := 19) (as := [_, _]) rfl rfl rfl rfl (by decide) (Nat.le_of_ble_eq_true rfl) rfl (Nat.le_of_ble_eq_true rfl) (sk_1 _) rfl (by omega) (c_val hv (r := nxj sz n r j) (v := n - 1 - j) (by omega) (by omega)) ?_
      refine sL (pc' := 21) (i := .istore 4) (ls' := [some (.ref 1), some (.int (iI ((r : Nat) : Int))), some (.int (iI ((nxj sz n r j : Nat) : Int))), some (.int (iI ((n - 1 - j : Nat) : Int))), some (.int (iI ((val sz (nxj sz n r j) (n - 1 - j) : Nat) : Int)))]) rfl rfl ?_
      refine sL (pc' := 23) (i := .iload 4) rfl rfl ?_
      refine sKi (p := 24) rfl rfl ?_
      refine sAd (p := 25) rfl rfl ?_
      refine sL (pc' := 26) (i := .aload_n 0) rfl rfl ?_
      refine sGc (p := 29) rfl rfl (sk_1 _) rfl rfl rfl ?_
      refine sL (pc' := 30) (i := .iload_n 3) rfl rfl ?_
      refine sAi (p := 31) (i := n - 1 - j) rfl rfl (sk_2 _) (by omega) ⟨by omega, by omega⟩ (hv.2.2.2.1 _ (by omega)) ?_
      refine sIc_ge (p := 34) rfl rfl ⟨by omega, by omega⟩ ⟨by omega, by omega⟩ (fun c2 => ?_) (fun c2 => ?_)
      · have c2 := c2
        refine sL (pc' := 44) (i := .iload_n 2) rfl rfl ?_
        refine sL (pc' := 46) (i := .iload 4) rfl rfl ?_
        refine sL (pc' := 47) (i := .aload_n 0) rfl rfl ?_
        refine sGc (p := 50) rfl rfl (sk_1 _) rfl rfl rfl ?_
        refine sL (pc' := 51) (i := .iload_n 3) rfl rfl ?_
        refine sAi (p := 52) (i := n - 1 - j) rfl rfl (sk_3 _) (by omega) ⟨by omega, by omega⟩ (hv.2.2.2.2 _ (by omega)) ?_
        refine sMu (p := 53) rfl rfl ?_
        refine sSb (p := 54) rfl rfl ?_
        refine sL (pc' := 55) (i := .istore_n 2) (ls' := [some (.ref 1), some (.int (iI ((r : Nat) : Int))), some (.int (iI (((nxj sz n r j : Nat) : Int) - (((val sz (nxj sz n r j) (n - 1 - j) : Nat) : Int) * ((pr sz (n - 1 - j) : Nat) : Int))))), some (.int (iI ((n - 1 - j : Nat) : Int))), some (.int (iI ((val sz (nxj sz n r j) (n - 1 - j) : Nat) : Int)))]) rfl rfl ?_
        refine sInX (z := ((n - 1 - j : Nat) : Int)) (ls' := [some (.ref 1), some (.int (iI ((r : Nat) : Int))), some (.int (iI (((nxj sz n r j : Nat) : Int) - (((val sz (nxj sz n r j) (n - 1 - j) : Nat) : Int) * ((pr sz (n - 1 - j) : Nat) : Int))))), some (.int (iI (((n - 1 - j : Nat) : Int) + (-1)))), some (.int (iI ((val sz (nxj sz n r j) (n - 1 - j) : Nat) : Int)))]) (p := 58) rfl rfl (Nat.le_of_ble_eq_true rfl) rfl rfl ?_
        refine sL (i := .goto (-49)) rfl rfl ?_
        refine sRo (ls := [some (.ref 1), some (.int (iI ((r : Nat) : Int))), some (.int (iI ((nxj sz n r (j + 1) : Nat) : Int))), some (.int (iI (((n : Nat) : Int) - 1 - ((j + 1 : Nat) : Int)))), none]) (T := _) (And.intro rfl (And.intro rfl (And.intro (congrArg (fun z => some (Value.int z)) (congrArg iI (show ((nxj sz n r j : Nat) : Int) - ((val sz (nxj sz n r j) (n - 1 - j) : Nat) : Int) * ((pr sz (n - 1 - j) : Nat) : Int) = ((nxj sz n r j - val sz (nxj sz n r j) (n - 1 - j) * pr sz (n - 1 - j) : Nat) : Int) by rw [← Int.natCast_mul]; omega))) (And.intro (congrArg (fun z => some (Value.int (iI z))) (by omega)) (True.intro))))) (rfl) (ih9 ?_)
        rw [hI9, e1]
        show (if _ then _ else _) = _
        rw [if_neg (by omega), show n - (j + 1) = n - 1 - j from by omega]
        rfl
      · have c2 := c2
        refine sL (pc' := 35) (i := .iload_n 2) rfl rfl ?_
        refine sL (pc' := 36) (i := .aload_n 0) rfl rfl ?_
        refine sGc (p := 39) rfl rfl (sk_1 _) rfl rfl rfl ?_
        refine sL (pc' := 40) (i := .iload_n 3) rfl rfl ?_
        refine sAi (p := 41) (i := n - 1 - j) rfl rfl (sk_3 _) (by omega) ⟨by omega, by omega⟩ (hv.2.2.2.2 _ (by omega)) ?_
        refine sAd (p := 42) rfl rfl ?_
        refine sEn (i := .ireturn) rfl (rfl) ?_
        refine ⟨?_, rfl⟩
        rw [hI9, e1]
        show _ = some (Value.int (iI ((if _ then _ else _ : Nat) : Int)))
        rw [if_pos (by omega)]
        rfl
  · have hI9 := hI9
    refine sL (pc' := 10) (i := .iload_n 3) rfl rfl ?_
    refine sIf_lt (p := 13) rfl rfl ⟨by omega, by omega⟩ (fun c3 => ?_) (fun c3 => ?_)
    · have c3 := c3
      refine sL (pc' := 62) (i := .iload_n 2) rfl rfl ?_
      refine sEn (i := .ireturn) rfl (rfl) ?_
      exact ⟨by rw [hI9, Nat.sub_self]; rfl, rfl⟩
    · exfalso; omega
end FS
