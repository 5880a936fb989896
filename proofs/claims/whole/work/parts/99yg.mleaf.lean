/-! ===== the reference's reading: operand, leaves ===== -/
/-- the reference's functions and names -/
def mFn (S : ST) (fn : Nat) (Fn : Nat → Nat → Bool) (nc : Nat) (rn : Nat → Int64) (rof : Nat → Nat) : Prop := SI S 179 9 = ((fn : Nat) : Int) ∧ fn ≤ 40 ∧ (∀ i, i < fn → rowS S 185 (16 * i) (Fn i)) ∧ SI S 179 17 = ((nc : Nat) : Int) ∧ nc ≤ 40 ∧ (∀ i, i < nc → SL S 189 i = rn i) ∧ ∀ i, i < nc → SI S 190 i = ((rof i : Nat) : Int) ∧ rof i < fn
def nmJ (nm : Nat → Int64) (N : Nat) (rn : Nat → Int64) (rof : Nat → Nat) (nc : Nat) : Prop := ∀ x : Int64, x ≠ 0 → (fnd rn x nc 0 = -1 → fnd nm x N 0 = -1) ∧ (fnd rn x nc 0 ≠ -1 → fnd nm x N 0 = ((rof (fnd rn x nc 0).toNat : Nat) : Int))
theorem mFn_K {S S' : ST} {fn nc : Nat} {Fn : Nat → Nat → Bool} {rn : Nat → Int64} {rof : Nat → Nat} (h : mFn S fn Fn nc rn rof) (f : frK S S') : mFn S' fn Fn nc rn rof := by
  unfold mFn rowS at *
  rw [f.2.2.2.1 9 (by decide), f.2.2.2.1 17 (by decide), f.2.2.1 190 (by decide) (by decide) (by decide), f.2.2.2.2.1 185 (by decide) (by decide) (by decide), f.2.2.2.2.1 189 (by decide) (by decide) (by decide)]
  exact h
theorem tk_sm {y : Nat → Nat} {s i : Nat} : tk y s i = 35 ∨ tk y s i = 38 ∨ tk y s i = 124 ∨ tk y s i = 94 ∨ tk y s i = 33 ∨ tk y s i = 40 ∨ tk y s i = 41 ∨ tk y s i = 61 ∨ tk y s i = 58 ∨ tk y s i = 59 ∨ tk y s i = 46 ∨ tk y s i = 44 ∨ 256 ≤ tk y s i := by
  unfold tk tK wK
  repeat' split
  all_goals first | omega | (rename_i q; have := of_decide_eq_true q; omega)
/-- the tape's parts of the reference's reading: text and names as tokens -/
def lfN (n : Nat) (sz : Nat → Nat) (y : Nat → Nat) (s : Nat) (W : List (Int × Int)) (V : List (Nat → Bool)) (R : Nat × Nat × (Nat → Bool)) (S S' : ST) : Prop := frK S S' ∧ ((R.1 = 0 ∧ mN S' y s R.2.1 ∧ mS n S' (pfq n sz W R.2.2).1 ((pfq n sz W R.2.2).2 :: V)) ∨ (R.1 ≠ 0 ∧ mX S' y s R.1 (tA y s R.2.1)))
section MG
variable {X : List Int32} {S : ST} {y : Nat → Nat} {s i n : Nat} {sz : Nat → Nat} {W : List (Int × Int)} {V : List (Nat → Bool)} {C : Nat → Int64} {fn nc : Nat} {Fn : Nat → Nat → Bool} {nm rn : Nat → Int64} {rof : Nat → Nat}

theorem m_op_true (hv : vM S n sz) (h : mA S y s i) (q : tk y s i = 260) (hm : mS n S W V) (hb : V.length + 1 ≤ 220) : sM X 4 208 [.ref 179] S (fun r S' => r = some (.int (iI (bI true))) ∧ lfN n sz y s W V (0, i + 1, ivt (pr sz n) (fun _ => false)) S S') := by
  have hr0 := rc_b (k := tk y s i) (tK_lt _)
  have h30 : SI S 179 30 = ((V.length : Nat) : Int) := hm.1.2.1
  have e1 : rc (tk y s i) = 3 := by rw [q]; rfl
  have hJ : ivt (pr sz n) (fun _ => false) = (fun r => true && decide (r < pr sz n)) := ivt_not _ _
  refine sIni (ls := [some (.ref 179), none, none]) rfl ?_
  refine sL (pc' := 1) (i := .aload_n 0) rfl rfl ?_
  refine sGi (p := 4) rfl rfl (sk_179 _) rfl rfl rfl h.2.2.2.1 ?_
  refine sKb (p := 6) rfl rfl ?_
  refine sIc_ne (p := 9) rfl rfl ⟨by omega, by omega⟩ ⟨by omega, by omega⟩ (fun c1 => ?_) (fun c1 => ?_)
  · have c1 := c1
    refine sL (pc' := 28) (i := .aload_n 0) rfl rfl ?_
    refine sGi (p := 31) rfl rfl (sk_179 _) rfl rfl rfl h.2.2.2.1 ?_
    refine sKb (p := 33) rfl rfl ?_
    refine sIc_ne (p := 36) rfl rfl ⟨by omega, by omega⟩ ⟨by omega, by omega⟩ (fun c2 => ?_) (fun c2 => ?_)
    · have c2 := c2
      refine sL (pc' := 54) (i := .aload_n 0) rfl rfl ?_
      refine sGi (p := 57) rfl rfl (sk_179 _) rfl rfl rfl h.2.2.2.1 ?_
      refine sKi (p := 58) rfl rfl ?_
      refine sIc_eq (p := 61) rfl rfl ⟨by omega, by omega⟩ ⟨by omega, by omega⟩ (fun c3 => ?_) (fun c3 => ?_)
      · exfalso; omega
      · have c3 := c3
        refine sL (pc' := 62) (i := .aload_n 0) rfl rfl ?_
        refine sGi (p := 65) rfl rfl (sk_179 _) rfl rfl rfl h.2.2.2.1 ?_
        refine sKb (p := 67) rfl rfl ?_
        refine sIc_ne (p := 70) rfl rfl ⟨by omega, by omega⟩ ⟨by omega, by omega⟩ (fun c4 => ?_) (fun c4 => ?_)
        · have c4 := c4
          refine sL (pc' := 186) (i := .aload_n 0) rfl rfl ?_
          refine sGi (p := 189) rfl rfl (sk_179 _) rfl rfl rfl h.2.2.2.1 ?_
          refine sKb (p := 191) rfl rfl ?_
          refine sIc_ne (p := 194) rfl rfl ⟨by omega, by omega⟩ ⟨by omega, by omega⟩ (fun c5 => ?_) (fun c5 => ?_)
          · have c5 := c5
            refine sL (pc' := 221) (i := .aload_n 0) rfl rfl ?_
            refine sGi (p := 224) rfl rfl (sk_179 _) rfl rfl rfl h.2.2.2.1 ?_
            refine sKi (p := 225) rfl rfl ?_
            refine sIc_eq (p := 228) rfl rfl ⟨by omega, by omega⟩ ⟨by omega, by omega⟩ (fun c6 => ?_) (fun c6 => ?_)
            · have c6 := c6
              refine sL (pc' := 245) (i := .aload_n 0) rfl rfl ?_
              refine sGi (p := 248) rfl rfl (sk_179 _) rfl rfl rfl h.2.2.2.1 ?_
              refine sKi (p := 249) rfl rfl ?_
              refine sIc_ne (p := 252) rfl rfl ⟨by omega, by omega⟩ ⟨by omega, by omega⟩ (fun c7 => ?_) (fun c7 => ?_)
              · have c7 := c7
                refine sKi (p := 264) rfl rfl ?_
                refine sL (pc' := 265) (i := .istore_n 1) (ls' := [some (.ref 179), some (.int (iI (-1))), none]) rfl rfl ?_
                refine sL (pc' := 266) (i := .aload_n 0) rfl rfl ?_
                refine sGi (p := 269) rfl rfl (sk_179 _) rfl rfl rfl h.2.2.2.1 ?_
                refine sKi (p := 270) rfl rfl ?_
                refine sIc_ne (p := 273) rfl rfl ⟨by omega, by omega⟩ ⟨by omega, by omega⟩ (fun c8 => ?_) (fun c8 => ?_)
                · have c8 := c8
                  refine sKi (p := 290) rfl rfl ?_
                  refine sL (pc' := 291) (i := .istore_n 2) (ls' := [some (.ref 179), some (.int (iI (-1))), some (.int (iI 0))]) rfl rfl ?_
                  refine sSh (T := (wKw S 192 (16 * V.length) 0 (fun _ => true))) (congrArg sH (wKw_0 _ _ _ _).symm) ?_
                  refine sIt (A := fun k => [some (.ref 179), some (.int (iI (-1))), some (.int (iI ((k : Nat) : Int)))]) (B := fun k => (wKw S 192 (16 * V.length) k (fun _ => true))) (fun _ => True) 16 True.intro (fun k hi291 hI291 ih291 => ?_) (fun hI291 => ?_)
                  · have hi291 := hi291
                    refine sL (pc' := 292) (i := .iload_n 2) rfl rfl ?_
                    refine sKb (p := 294) rfl rfl ?_
                    refine sIc_ge (p := 297) rfl rfl ⟨by omega, by omega⟩ ⟨by omega, by omega⟩ (fun c9 => ?_) (fun c9 => ?_)
                    · exfalso; omega
                    · have c9 := c9
                      refine sL (pc' := 298) (i := .aload_n 0) rfl rfl ?_
                      refine sGc (p := 301) rfl rfl (sk_179 _) rfl rfl rfl ?_
                      refine sKb (p := 303) rfl rfl ?_
                      refine sL (pc' := 304) (i := .aload_n 0) rfl rfl ?_
                      refine sGi (p := 307) rfl rfl (sk_179 _) rfl rfl rfl h30 ?_
                      refine sMu (p := 308) rfl rfl ?_
                      refine sL (pc' := 309) (i := .iload_n 2) rfl rfl ?_
                      refine sAd (p := 310) rfl rfl ?_
                      refine sL (pc' := 311) (i := .aload_n 0) rfl rfl ?_
                      refine sGi (p := 314) rfl rfl (sk_179 _) rfl rfl rfl h.2.2.2.1 ?_
                      refine sKi (p := 315) rfl rfl ?_
                      refine sIc_ne (p := 318) rfl rfl ⟨by omega, by omega⟩ ⟨by omega, by omega⟩ (fun c10 => ?_) (fun c10 => ?_)
                      · exfalso; omega
                      · have c10 := c10
                        refine sL (pc' := 321) (i := .ldc2_w 135) rfl rfl ?_
                        refine sL (i := .goto 31) rfl rfl ?_
                        refine sWl (p := 353) (i := (16 * V.length) + k) rfl rfl (sk_192 _) (by omega) ⟨by omega, by omega⟩ ?_
                        refine sInX (z := ((k : Nat) : Int)) (ls' := [some (.ref 179), some (.int (iI (-1))), some (.int (iI (((k : Nat) : Int) + 1)))]) (p := 356) rfl rfl (Nat.le_of_ble_eq_true rfl) rfl rfl ?_
                        refine sL (i := .goto (-65)) rfl rfl ?_
                        refine sRo (ls := [some (.ref 179), some (.int (iI (-1))), some (.int (iI ((k + 1 : Nat) : Int)))]) (T := (wKw S 192 (16 * V.length) (k + 1) (fun _ => true))) (And.intro rfl (And.intro rfl (And.intro rfl (True.intro)))) (congrArg sH (wKw_s (by omega) ((pkw_1 _).symm))) (ih291 ?_)
                        exact True.intro
                  · have hI291 := hI291
                    refine sL (pc' := 292) (i := .iload_n 2) rfl rfl ?_
                    refine sKb (p := 294) rfl rfl ?_
                    refine sIc_ge (p := 297) rfl rfl ⟨by omega, by omega⟩ ⟨by omega, by omega⟩ (fun c11 => ?_) (fun c11 => ?_)
                    · have c11 := c11
                      refine sL (pc' := 360) (i := .aload_n 0) rfl rfl ?_
                      refine sL (pc' := 361) (i := .aload_n 0) rfl rfl ?_
                      refine sGc (p := 364) rfl rfl (sk_179 _) rfl rfl rfl ?_
                      refine sKb (p := 366) rfl rfl ?_
                      refine sL (pc' := 367) (i := .aload_n 0) rfl rfl ?_
                      refine sGi (p := 370) rfl rfl (sk_179 _) rfl rfl rfl h30 ?_
                      refine sMu (p := 371) rfl rfl ?_
                      refine sCv (p := 374) (as := [_, _]) rfl rfl rfl rfl (by decide) (Nat.le_of_ble_eq_true rfl) rfl (Nat.le_of_ble_eq_true rfl) (sk_179 _) rfl (by omega) (m_trim (o := 16 * V.length) (show vM _ n sz from hv) (sk_192 _) ⟨by omega, by omega⟩ (rowS_wRw S 192 (16 * V.length) (fun _ => true))) ?_
                      refine sL (pc' := 375) (i := .aload_n 0) rfl rfl ?_
                      refine sL (pc' := 376) (i := .dup) rfl rfl ?_
                      refine sGi (p := 379) rfl rfl (sk_179 _) rfl rfl rfl h30 ?_
                      refine sKi (p := 380) rfl rfl ?_
                      refine sAd (p := 381) rfl rfl ?_
                      refine sPi (z := (((V.length : Nat) : Int) + 1)) (p := 384) rfl rfl (sk_179 _) rfl rfl rfl rfl ?_
                      refine sL (i := .goto 12) rfl rfl ?_
                      show sT X 4 208 396 _ [] (wI (wRw (wRw S 192 (16 * V.length) (fun _ => true)) 192 (16 * V.length) (fun r => true && decide (r < pr sz n))) 179 30 (((V.length : Nat) : Int) + 1)) _
                      have k0 : SI (wRw (wRw S 192 (16 * V.length) (fun _ => true)) 192 (16 * V.length) (fun r => true && decide (r < pr sz n))) = SI S := rfl
                      have kr : rowS (wRw (wRw S 192 (16 * V.length) (fun _ => true)) 192 (16 * V.length) (fun r => true && decide (r < pr sz n))) 192 (16 * V.length) (ivt (pr sz n) (fun _ => false)) := Eq.mpr (congrArg (rowS (wRw (wRw S 192 (16 * V.length) (fun _ => true)) 192 (16 * V.length) (fun r => true && decide (r < pr sz n))) 192 (16 * V.length)) hJ) (rowS_wRw _ _ _ _)
                      have kl : ∀ k, k < 16 * V.length → SL (wRw (wRw S 192 (16 * V.length) (fun _ => true)) 192 (16 * V.length) (fun r => true && decide (r < pr sz n))) 192 k = SL S 192 k := fun k hk => (SL_wRw _ _ _ _ _ _).trans ((if_neg (by omega)).trans ((SL_wRw _ _ _ _ _ _).trans (if_neg (by omega))))
                      have kp : frP S (wRw (wRw S 192 (16 * V.length) (fun _ => true)) 192 (16 * V.length) (fun r => true && decide (r < pr sz n))) := frP_trans (frP_r (Or.inr rfl)) (frP_r (Or.inr rfl))
                      generalize (wRw (wRw S 192 (16 * V.length) (fun _ => true)) 192 (16 * V.length) (fun r => true && decide (r < pr sz n))) = S2 at *
                      have hp : frP S (wI S2 179 30 (((V.length : Nat) : Int) + 1)) := frP_trans kp (frP_w (Or.inl rfl))
                      have hmT : mS n (wI S2 179 30 (((V.length : Nat) : Int) + 1)) W ((ivt (pr sz n) (fun _ => false)) :: V) := mS_top hm hm.2.1 hm.2.2.1 hm.2.2.2.1 (Nat.le_refl _) hb ((rI_nj (by decide)).trans (by rw [k0]; exact hm.1.1)) rI_at ((rI_nj (by decide)).trans (by rw [k0]; exact hm.1.2.2)) ((show SI (wI S2 179 30 (((V.length : Nat) : Int) + 1)) 193 = SI S2 193 from rfl).trans (congrFun k0 193)) ((show SI (wI S2 179 30 (((V.length : Nat) : Int) + 1)) 194 = SI S2 194 from rfl).trans (congrFun k0 194)) kr kl
                      refine lf_tl (vM_P hv hp) (mG_P (mG_A h) hp) hmT ?_
                      intro S' h1 h2 h3
                      exact ⟨rfl, frK_trans (frK_P hp) h1, Or.inl ⟨rfl, h2, h3⟩⟩
                    · exact absurd c11 (by decide)
                · exfalso; omega
              · exfalso; omega
            · exfalso; omega
          · exfalso; omega
        · exfalso; omega
    · exfalso; omega
  · exfalso; omega
theorem m_op_false (hv : vM S n sz) (h : mA S y s i) (q : tk y s i = 261) (hm : mS n S W V) (hb : V.length + 1 ≤ 220) : sM X 4 208 [.ref 179] S (fun r S' => r = some (.int (iI (bI true))) ∧ lfN n sz y s W V (0, i + 1, (fun _ => false)) S S') := by
  have hr0 := rc_b (k := tk y s i) (tK_lt _)
  have h30 : SI S 179 30 = ((V.length : Nat) : Int) := hm.1.2.1
  have e1 : rc (tk y s i) = 4 := by rw [q]; rfl
  have hJ : (fun _ => false) = (fun r => false && decide (r < pr sz n)) := rfl
  refine sIni (ls := [some (.ref 179), none, none]) rfl ?_
  refine sL (pc' := 1) (i := .aload_n 0) rfl rfl ?_
  refine sGi (p := 4) rfl rfl (sk_179 _) rfl rfl rfl h.2.2.2.1 ?_
  refine sKb (p := 6) rfl rfl ?_
  refine sIc_ne (p := 9) rfl rfl ⟨by omega, by omega⟩ ⟨by omega, by omega⟩ (fun c1 => ?_) (fun c1 => ?_)
  · have c1 := c1
    refine sL (pc' := 28) (i := .aload_n 0) rfl rfl ?_
    refine sGi (p := 31) rfl rfl (sk_179 _) rfl rfl rfl h.2.2.2.1 ?_
    refine sKb (p := 33) rfl rfl ?_
    refine sIc_ne (p := 36) rfl rfl ⟨by omega, by omega⟩ ⟨by omega, by omega⟩ (fun c2 => ?_) (fun c2 => ?_)
    · have c2 := c2
      refine sL (pc' := 54) (i := .aload_n 0) rfl rfl ?_
      refine sGi (p := 57) rfl rfl (sk_179 _) rfl rfl rfl h.2.2.2.1 ?_
      refine sKi (p := 58) rfl rfl ?_
      refine sIc_eq (p := 61) rfl rfl ⟨by omega, by omega⟩ ⟨by omega, by omega⟩ (fun c3 => ?_) (fun c3 => ?_)
      · exfalso; omega
      · have c3 := c3
        refine sL (pc' := 62) (i := .aload_n 0) rfl rfl ?_
        refine sGi (p := 65) rfl rfl (sk_179 _) rfl rfl rfl h.2.2.2.1 ?_
        refine sKb (p := 67) rfl rfl ?_
        refine sIc_ne (p := 70) rfl rfl ⟨by omega, by omega⟩ ⟨by omega, by omega⟩ (fun c4 => ?_) (fun c4 => ?_)
        · have c4 := c4
          refine sL (pc' := 186) (i := .aload_n 0) rfl rfl ?_
          refine sGi (p := 189) rfl rfl (sk_179 _) rfl rfl rfl h.2.2.2.1 ?_
          refine sKb (p := 191) rfl rfl ?_
          refine sIc_ne (p := 194) rfl rfl ⟨by omega, by omega⟩ ⟨by omega, by omega⟩ (fun c5 => ?_) (fun c5 => ?_)
          · have c5 := c5
            refine sL (pc' := 221) (i := .aload_n 0) rfl rfl ?_
            refine sGi (p := 224) rfl rfl (sk_179 _) rfl rfl rfl h.2.2.2.1 ?_
            refine sKi (p := 225) rfl rfl ?_
            refine sIc_eq (p := 228) rfl rfl ⟨by omega, by omega⟩ ⟨by omega, by omega⟩ (fun c6 => ?_) (fun c6 => ?_)
            · exfalso; omega
            · have c6 := c6
              refine sL (pc' := 229) (i := .aload_n 0) rfl rfl ?_
              refine sGi (p := 232) rfl rfl (sk_179 _) rfl rfl rfl h.2.2.2.1 ?_
              refine sKi (p := 233) rfl rfl ?_
              refine sIc_eq (p := 236) rfl rfl ⟨by omega, by omega⟩ ⟨by omega, by omega⟩ (fun c7 => ?_) (fun c7 => ?_)
              · have c7 := c7
                refine sL (pc' := 245) (i := .aload_n 0) rfl rfl ?_
                refine sGi (p := 248) rfl rfl (sk_179 _) rfl rfl rfl h.2.2.2.1 ?_
                refine sKi (p := 249) rfl rfl ?_
                refine sIc_ne (p := 252) rfl rfl ⟨by omega, by omega⟩ ⟨by omega, by omega⟩ (fun c8 => ?_) (fun c8 => ?_)
                · have c8 := c8
                  refine sKi (p := 264) rfl rfl ?_
                  refine sL (pc' := 265) (i := .istore_n 1) (ls' := [some (.ref 179), some (.int (iI (-1))), none]) rfl rfl ?_
                  refine sL (pc' := 266) (i := .aload_n 0) rfl rfl ?_
                  refine sGi (p := 269) rfl rfl (sk_179 _) rfl rfl rfl h.2.2.2.1 ?_
                  refine sKi (p := 270) rfl rfl ?_
                  refine sIc_ne (p := 273) rfl rfl ⟨by omega, by omega⟩ ⟨by omega, by omega⟩ (fun c9 => ?_) (fun c9 => ?_)
                  · have c9 := c9
                    refine sKi (p := 290) rfl rfl ?_
                    refine sL (pc' := 291) (i := .istore_n 2) (ls' := [some (.ref 179), some (.int (iI (-1))), some (.int (iI 0))]) rfl rfl ?_
                    refine sSh (T := (wKw S 192 (16 * V.length) 0 (fun _ => false))) (congrArg sH (wKw_0 _ _ _ _).symm) ?_
                    refine sIt (A := fun k => [some (.ref 179), some (.int (iI (-1))), some (.int (iI ((k : Nat) : Int)))]) (B := fun k => (wKw S 192 (16 * V.length) k (fun _ => false))) (fun _ => True) 16 True.intro (fun k hi291 hI291 ih291 => ?_) (fun hI291 => ?_)
                    · have hi291 := hi291
                      refine sL (pc' := 292) (i := .iload_n 2) rfl rfl ?_
                      refine sKb (p := 294) rfl rfl ?_
                      refine sIc_ge (p := 297) rfl rfl ⟨by omega, by omega⟩ ⟨by omega, by omega⟩ (fun c10 => ?_) (fun c10 => ?_)
                      · exfalso; omega
                      · have c10 := c10
                        refine sL (pc' := 298) (i := .aload_n 0) rfl rfl ?_
                        refine sGc (p := 301) rfl rfl (sk_179 _) rfl rfl rfl ?_
                        refine sKb (p := 303) rfl rfl ?_
                        refine sL (pc' := 304) (i := .aload_n 0) rfl rfl ?_
                        refine sGi (p := 307) rfl rfl (sk_179 _) rfl rfl rfl h30 ?_
                        refine sMu (p := 308) rfl rfl ?_
                        refine sL (pc' := 309) (i := .iload_n 2) rfl rfl ?_
                        refine sAd (p := 310) rfl rfl ?_
                        refine sL (pc' := 311) (i := .aload_n 0) rfl rfl ?_
                        refine sGi (p := 314) rfl rfl (sk_179 _) rfl rfl rfl h.2.2.2.1 ?_
                        refine sKi (p := 315) rfl rfl ?_
                        refine sIc_ne (p := 318) rfl rfl ⟨by omega, by omega⟩ ⟨by omega, by omega⟩ (fun c11 => ?_) (fun c11 => ?_)
                        · have c11 := c11
                          refine sL (pc' := 325) (i := .aload_n 0) rfl rfl ?_
                          refine sGi (p := 328) rfl rfl (sk_179 _) rfl rfl rfl h.2.2.2.1 ?_
                          refine sKi (p := 329) rfl rfl ?_
                          refine sIc_ne (p := 332) rfl rfl ⟨by omega, by omega⟩ ⟨by omega, by omega⟩ (fun c12 => ?_) (fun c12 => ?_)
                          · exfalso; omega
                          · have c12 := c12
                            refine sKj0 (p := 333) rfl rfl rfl ?_
                            refine sL (i := .goto 19) rfl rfl ?_
                            refine sWl (p := 353) (i := (16 * V.length) + k) rfl rfl (sk_192 _) (by omega) ⟨by omega, by omega⟩ ?_
                            refine sInX (z := ((k : Nat) : Int)) (ls' := [some (.ref 179), some (.int (iI (-1))), some (.int (iI (((k : Nat) : Int) + 1)))]) (p := 356) rfl rfl (Nat.le_of_ble_eq_true rfl) rfl rfl ?_
                            refine sL (i := .goto (-65)) rfl rfl ?_
                            refine sRo (ls := [some (.ref 179), some (.int (iI (-1))), some (.int (iI ((k + 1 : Nat) : Int)))]) (T := (wKw S 192 (16 * V.length) (k + 1) (fun _ => false))) (And.intro rfl (And.intro rfl (And.intro rfl (True.intro)))) (congrArg sH (wKw_s (by omega) ((pkw_0 _).symm))) (ih291 ?_)
                            exact True.intro
                        · exfalso; omega
                    · have hI291 := hI291
                      refine sL (pc' := 292) (i := .iload_n 2) rfl rfl ?_
                      refine sKb (p := 294) rfl rfl ?_
                      refine sIc_ge (p := 297) rfl rfl ⟨by omega, by omega⟩ ⟨by omega, by omega⟩ (fun c13 => ?_) (fun c13 => ?_)
                      · have c13 := c13
                        refine sL (pc' := 360) (i := .aload_n 0) rfl rfl ?_
                        refine sL (pc' := 361) (i := .aload_n 0) rfl rfl ?_
                        refine sGc (p := 364) rfl rfl (sk_179 _) rfl rfl rfl ?_
                        refine sKb (p := 366) rfl rfl ?_
                        refine sL (pc' := 367) (i := .aload_n 0) rfl rfl ?_
                        refine sGi (p := 370) rfl rfl (sk_179 _) rfl rfl rfl h30 ?_
                        refine sMu (p := 371) rfl rfl ?_
                        refine sCv (p := 374) (as := [_, _]) rfl rfl rfl rfl (by decide) (Nat.le_of_ble_eq_true rfl) rfl (Nat.le_of_ble_eq_true rfl) (sk_179 _) rfl (by omega) (m_trim (o := 16 * V.length) (show vM _ n sz from hv) (sk_192 _) ⟨by omega, by omega⟩ (rowS_wRw S 192 (16 * V.length) (fun _ => false))) ?_
                        refine sL (pc' := 375) (i := .aload_n 0) rfl rfl ?_
                        refine sL (pc' := 376) (i := .dup) rfl rfl ?_
                        refine sGi (p := 379) rfl rfl (sk_179 _) rfl rfl rfl h30 ?_
                        refine sKi (p := 380) rfl rfl ?_
                        refine sAd (p := 381) rfl rfl ?_
                        refine sPi (z := (((V.length : Nat) : Int) + 1)) (p := 384) rfl rfl (sk_179 _) rfl rfl rfl rfl ?_
                        refine sL (i := .goto 12) rfl rfl ?_
                        show sT X 4 208 396 _ [] (wI (wRw (wRw S 192 (16 * V.length) (fun _ => false)) 192 (16 * V.length) (fun r => false && decide (r < pr sz n))) 179 30 (((V.length : Nat) : Int) + 1)) _
                        have k0 : SI (wRw (wRw S 192 (16 * V.length) (fun _ => false)) 192 (16 * V.length) (fun r => false && decide (r < pr sz n))) = SI S := rfl
                        have kr : rowS (wRw (wRw S 192 (16 * V.length) (fun _ => false)) 192 (16 * V.length) (fun r => false && decide (r < pr sz n))) 192 (16 * V.length) ((fun _ => false)) := Eq.mpr (congrArg (rowS (wRw (wRw S 192 (16 * V.length) (fun _ => false)) 192 (16 * V.length) (fun r => false && decide (r < pr sz n))) 192 (16 * V.length)) hJ) (rowS_wRw _ _ _ _)
                        have kl : ∀ k, k < 16 * V.length → SL (wRw (wRw S 192 (16 * V.length) (fun _ => false)) 192 (16 * V.length) (fun r => false && decide (r < pr sz n))) 192 k = SL S 192 k := fun k hk => (SL_wRw _ _ _ _ _ _).trans ((if_neg (by omega)).trans ((SL_wRw _ _ _ _ _ _).trans (if_neg (by omega))))
                        have kp : frP S (wRw (wRw S 192 (16 * V.length) (fun _ => false)) 192 (16 * V.length) (fun r => false && decide (r < pr sz n))) := frP_trans (frP_r (Or.inr rfl)) (frP_r (Or.inr rfl))
                        generalize (wRw (wRw S 192 (16 * V.length) (fun _ => false)) 192 (16 * V.length) (fun r => false && decide (r < pr sz n))) = S2 at *
                        have hp : frP S (wI S2 179 30 (((V.length : Nat) : Int) + 1)) := frP_trans kp (frP_w (Or.inl rfl))
                        have hmT : mS n (wI S2 179 30 (((V.length : Nat) : Int) + 1)) W (((fun _ => false)) :: V) := mS_top hm hm.2.1 hm.2.2.1 hm.2.2.2.1 (Nat.le_refl _) hb ((rI_nj (by decide)).trans (by rw [k0]; exact hm.1.1)) rI_at ((rI_nj (by decide)).trans (by rw [k0]; exact hm.1.2.2)) ((show SI (wI S2 179 30 (((V.length : Nat) : Int) + 1)) 193 = SI S2 193 from rfl).trans (congrFun k0 193)) ((show SI (wI S2 179 30 (((V.length : Nat) : Int) + 1)) 194 = SI S2 194 from rfl).trans (congrFun k0 194)) kr kl
                        refine lf_tl (vM_P hv hp) (mG_P (mG_A h) hp) hmT ?_
                        intro S' h1 h2 h3
                        exact ⟨rfl, frK_trans (frK_P hp) h1, Or.inl ⟨rfl, h2, h3⟩⟩
                      · exact absurd c13 (by decide)
                  · exfalso; omega
                · exfalso; omega
              · exfalso; omega
          · exfalso; omega
        · exfalso; omega
    · exfalso; omega
  · exfalso; omega
theorem m_op_name (hv : vM S n sz) (h : mA S y s i) (q : tk y s i = 258) (hi : i ≤ nT y s) (hag : agC C y s) (hnz : C i ≠ 0) (hF : mFn S fn Fn nc rn rof) (hnm : nmJ nm fn rn rof nc) (htb : ∀ f, f < fn → tbT (pr sz n) (Fn f)) (hm : mS n S W V) (hb : V.length + 1 ≤ 220) : sM X 4 208 [.ref 179] S (fun r S' => r = some (.int (iI (bI true))) ∧ lfN n sz y s W V (pNam C fn Fn nm i) S S') := by
  have hr0 := rc_b (k := tk y s i) (tK_lt _)
  have h30 : SI S 179 30 = ((V.length : Nat) : Int) := hm.1.2.1
  have e1 : rc (tk y s i) = 1 := by rw [q]; rfl
  have hx : SL S 179 26 = C i := by
    rw [hag i hi (Or.inl q)]
    exact h.2.2.2.2.2.2.1 q
  have hc40 := hF.2.2.2.2.1
  have hfn := hF.2.1
  have hj := hnm (C i) hnz
  unfold pNam
  rcases fnd_b (nm := rn) (x := C i) nc 0 with hf | hf
  · rw [if_pos (hj.1 hf)]
    refine sIni (ls := [some (.ref 179), none, none]) rfl ?_
    refine sL (pc' := 1) (i := .aload_n 0) rfl rfl ?_
    refine sGi (p := 4) rfl rfl (sk_179 _) rfl rfl rfl h.2.2.2.1 ?_
    refine sKb (p := 6) rfl rfl ?_
    refine sIc_ne (p := 9) rfl rfl ⟨by omega, by omega⟩ ⟨by omega, by omega⟩ (fun c1 => ?_) (fun c1 => ?_)
    · have c1 := c1
      refine sL (pc' := 28) (i := .aload_n 0) rfl rfl ?_
      refine sGi (p := 31) rfl rfl (sk_179 _) rfl rfl rfl h.2.2.2.1 ?_
      refine sKb (p := 33) rfl rfl ?_
      refine sIc_ne (p := 36) rfl rfl ⟨by omega, by omega⟩ ⟨by omega, by omega⟩ (fun c2 => ?_) (fun c2 => ?_)
      · have c2 := c2
        refine sL (pc' := 54) (i := .aload_n 0) rfl rfl ?_
        refine sGi (p := 57) rfl rfl (sk_179 _) rfl rfl rfl h.2.2.2.1 ?_
        refine sKi (p := 58) rfl rfl ?_
        refine sIc_eq (p := 61) rfl rfl ⟨by omega, by omega⟩ ⟨by omega, by omega⟩ (fun c3 => ?_) (fun c3 => ?_)
        · exfalso; omega
        · have c3 := c3
          refine sL (pc' := 62) (i := .aload_n 0) rfl rfl ?_
          refine sGi (p := 65) rfl rfl (sk_179 _) rfl rfl rfl h.2.2.2.1 ?_
          refine sKb (p := 67) rfl rfl ?_
          refine sIc_ne (p := 70) rfl rfl ⟨by omega, by omega⟩ ⟨by omega, by omega⟩ (fun c4 => ?_) (fun c4 => ?_)
          · have c4 := c4
            refine sL (pc' := 186) (i := .aload_n 0) rfl rfl ?_
            refine sGi (p := 189) rfl rfl (sk_179 _) rfl rfl rfl h.2.2.2.1 ?_
            refine sKb (p := 191) rfl rfl ?_
            refine sIc_ne (p := 194) rfl rfl ⟨by omega, by omega⟩ ⟨by omega, by omega⟩ (fun c5 => ?_) (fun c5 => ?_)
            · have c5 := c5
              refine sL (pc' := 221) (i := .aload_n 0) rfl rfl ?_
              refine sGi (p := 224) rfl rfl (sk_179 _) rfl rfl rfl h.2.2.2.1 ?_
              refine sKi (p := 225) rfl rfl ?_
              refine sIc_eq (p := 228) rfl rfl ⟨by omega, by omega⟩ ⟨by omega, by omega⟩ (fun c6 => ?_) (fun c6 => ?_)
              · exfalso; omega
              · have c6 := c6
                refine sL (pc' := 229) (i := .aload_n 0) rfl rfl ?_
                refine sGi (p := 232) rfl rfl (sk_179 _) rfl rfl rfl h.2.2.2.1 ?_
                refine sKi (p := 233) rfl rfl ?_
                refine sIc_eq (p := 236) rfl rfl ⟨by omega, by omega⟩ ⟨by omega, by omega⟩ (fun c7 => ?_) (fun c7 => ?_)
                · exfalso; omega
                · have c7 := c7
                  refine sL (pc' := 237) (i := .aload_n 0) rfl rfl ?_
                  refine sGi (p := 240) rfl rfl (sk_179 _) rfl rfl rfl h.2.2.2.1 ?_
                  refine sKi (p := 241) rfl rfl ?_
                  refine sIc_ne (p := 244) rfl rfl ⟨by omega, by omega⟩ ⟨by omega, by omega⟩ (fun c8 => ?_) (fun c8 => ?_)
                  · exfalso; omega
                  · have c8 := c8
                    refine sL (pc' := 245) (i := .aload_n 0) rfl rfl ?_
                    refine sGi (p := 248) rfl rfl (sk_179 _) rfl rfl rfl h.2.2.2.1 ?_
                    refine sKi (p := 249) rfl rfl ?_
                    refine sIc_ne (p := 252) rfl rfl ⟨by omega, by omega⟩ ⟨by omega, by omega⟩ (fun c9 => ?_) (fun c9 => ?_)
                    · exfalso; omega
                    · have c9 := c9
                      refine sL (pc' := 253) (i := .aload_n 0) rfl rfl ?_
                      refine sL (pc' := 254) (i := .aload_n 0) rfl rfl ?_
                      refine sGl (p := 257) rfl rfl (sk_179 _) rfl rfl rfl hx ?_
                      refine sCv (p := 260) (as := [_]) rfl rfl rfl rfl (by decide) (Nat.le_of_ble_eq_true rfl) rfl (Nat.le_of_ble_eq_true rfl) (sk_179 _) rfl (by omega) (m_findName (x := C i) hF.2.2.2.1 hc40 hF.2.2.2.2.2.1) ?_
                      rw [hf]
                      refine sL (i := .goto 4) rfl rfl ?_
                      refine sL (pc' := 265) (i := .istore_n 1) (ls' := [some (.ref 179), some (.int (iI (-1))), none]) rfl rfl ?_
                      refine sL (pc' := 266) (i := .aload_n 0) rfl rfl ?_
                      refine sGi (p := 269) rfl rfl (sk_179 _) rfl rfl rfl h.2.2.2.1 ?_
                      refine sKi (p := 270) rfl rfl ?_
                      refine sIc_ne (p := 273) rfl rfl ⟨by omega, by omega⟩ ⟨by omega, by omega⟩ (fun c10 => ?_) (fun c10 => ?_)
                      · exfalso; omega
                      · have c10 := c10
                        refine sL (pc' := 274) (i := .iload_n 1) rfl rfl ?_
                        refine sKi (p := 275) rfl rfl ?_
                        refine sIc_ne (p := 278) rfl rfl ⟨by omega, by omega⟩ ⟨by omega, by omega⟩ (fun c11 => ?_) (fun c11 => ?_)
                        · exact absurd c11 (by decide)
                        · have c11 := c11
                          refine sL (pc' := 279) (i := .aload_n 0) rfl rfl ?_
                          refine sKi (p := 280) rfl rfl ?_
                          refine sL (pc' := 281) (i := .aload_n 0) rfl rfl ?_
                          refine sGi (p := 284) rfl rfl (sk_179 _) rfl rfl rfl h.2.2.2.2.1 ?_
                          refine sCv (p := 287) (as := [_, _]) rfl rfl rfl rfl (by decide) (Nat.le_of_ble_eq_true rfl) rfl (Nat.le_of_ble_eq_true rfl) (sk_179 _) rfl (by omega) (m_bad (kz := 0) h.2.1 ⟨by decide, by decide⟩) ?_
                          refine sKi (p := 288) rfl rfl ?_
                          refine sEn (i := .ireturn) rfl (rfl) ?_
                          have hbd := mX_bd (k := 3) (q := tA y s i) h.1 h.2.1 ⟨by decide, by decide⟩ rfl (tP_le (i + 1)) h.2.2.1
                          exact ⟨rfl, frK_J hbd.2, Or.inr ⟨(show (3 : Nat) ≠ 0 by decide), hbd.1⟩⟩
            · exfalso; omega
          · exfalso; omega
      · exfalso; omega
    · exfalso; omega
  · have hf1 : fnd rn (C i) nc 0 ≠ -1 := by omega
    have hj2 := hj.2 hf1
    obtain ⟨kf, hkf⟩ : ∃ kf : Nat, fnd rn (C i) nc 0 = ((kf : Nat) : Int) := ⟨(fnd rn (C i) nc 0).toNat, by omega⟩
    rw [hkf] at hf hj2
    have hj2 : fnd nm (C i) fn 0 = ((rof kf : Nat) : Int) := hj2
    have hkn : kf < nc := by omega
    have hrf := hF.2.2.2.2.2.2 kf hkn
    rw [if_neg (by omega), hj2]
    have hrow := hF.2.2.1 (rof kf) hrf.2
    have hJ : Fn (rof kf) = (fun r => Fn (rof kf) r && decide (r < pr sz n)) := funext fun r => by
      by_cases c : r < pr sz n
      · rw [decide_eq_true c, Bool.and_true]
      · rw [decide_eq_false c, Bool.and_false]
        exact htb _ hrf.2 r (by omega)
    refine sIni (ls := [some (.ref 179), none, none]) rfl ?_
    refine sL (pc' := 1) (i := .aload_n 0) rfl rfl ?_
    refine sGi (p := 4) rfl rfl (sk_179 _) rfl rfl rfl h.2.2.2.1 ?_
    refine sKb (p := 6) rfl rfl ?_
    refine sIc_ne (p := 9) rfl rfl ⟨by omega, by omega⟩ ⟨by omega, by omega⟩ (fun c1 => ?_) (fun c1 => ?_)
    · have c1 := c1
      refine sL (pc' := 28) (i := .aload_n 0) rfl rfl ?_
      refine sGi (p := 31) rfl rfl (sk_179 _) rfl rfl rfl h.2.2.2.1 ?_
      refine sKb (p := 33) rfl rfl ?_
      refine sIc_ne (p := 36) rfl rfl ⟨by omega, by omega⟩ ⟨by omega, by omega⟩ (fun c2 => ?_) (fun c2 => ?_)
      · have c2 := c2
        refine sL (pc' := 54) (i := .aload_n 0) rfl rfl ?_
        refine sGi (p := 57) rfl rfl (sk_179 _) rfl rfl rfl h.2.2.2.1 ?_
        refine sKi (p := 58) rfl rfl ?_
        refine sIc_eq (p := 61) rfl rfl ⟨by omega, by omega⟩ ⟨by omega, by omega⟩ (fun c3 => ?_) (fun c3 => ?_)
        · exfalso; omega
        · have c3 := c3
          refine sL (pc' := 62) (i := .aload_n 0) rfl rfl ?_
          refine sGi (p := 65) rfl rfl (sk_179 _) rfl rfl rfl h.2.2.2.1 ?_
          refine sKb (p := 67) rfl rfl ?_
          refine sIc_ne (p := 70) rfl rfl ⟨by omega, by omega⟩ ⟨by omega, by omega⟩ (fun c4 => ?_) (fun c4 => ?_)
          · have c4 := c4
            refine sL (pc' := 186) (i := .aload_n 0) rfl rfl ?_
            refine sGi (p := 189) rfl rfl (sk_179 _) rfl rfl rfl h.2.2.2.1 ?_
            refine sKb (p := 191) rfl rfl ?_
            refine sIc_ne (p := 194) rfl rfl ⟨by omega, by omega⟩ ⟨by omega, by omega⟩ (fun c5 => ?_) (fun c5 => ?_)
            · have c5 := c5
              refine sL (pc' := 221) (i := .aload_n 0) rfl rfl ?_
              refine sGi (p := 224) rfl rfl (sk_179 _) rfl rfl rfl h.2.2.2.1 ?_
              refine sKi (p := 225) rfl rfl ?_
              refine sIc_eq (p := 228) rfl rfl ⟨by omega, by omega⟩ ⟨by omega, by omega⟩ (fun c6 => ?_) (fun c6 => ?_)
              · exfalso; omega
              · have c6 := c6
                refine sL (pc' := 229) (i := .aload_n 0) rfl rfl ?_
                refine sGi (p := 232) rfl rfl (sk_179 _) rfl rfl rfl h.2.2.2.1 ?_
                refine sKi (p := 233) rfl rfl ?_
                refine sIc_eq (p := 236) rfl rfl ⟨by omega, by omega⟩ ⟨by omega, by omega⟩ (fun c7 => ?_) (fun c7 => ?_)
                · exfalso; omega
                · have c7 := c7
                  refine sL (pc' := 237) (i := .aload_n 0) rfl rfl ?_
                  refine sGi (p := 240) rfl rfl (sk_179 _) rfl rfl rfl h.2.2.2.1 ?_
                  refine sKi (p := 241) rfl rfl ?_
                  refine sIc_ne (p := 244) rfl rfl ⟨by omega, by omega⟩ ⟨by omega, by omega⟩ (fun c8 => ?_) (fun c8 => ?_)
                  · exfalso; omega
                  · have c8 := c8
                    refine sL (pc' := 245) (i := .aload_n 0) rfl rfl ?_
                    refine sGi (p := 248) rfl rfl (sk_179 _) rfl rfl rfl h.2.2.2.1 ?_
                    refine sKi (p := 249) rfl rfl ?_
                    refine sIc_ne (p := 252) rfl rfl ⟨by omega, by omega⟩ ⟨by omega, by omega⟩ (fun c9 => ?_) (fun c9 => ?_)
                    · exfalso; omega
                    · have c9 := c9
                      refine sL (pc' := 253) (i := .aload_n 0) rfl rfl ?_
                      refine sL (pc' := 254) (i := .aload_n 0) rfl rfl ?_
                      refine sGl (p := 257) rfl rfl (sk_179 _) rfl rfl rfl hx ?_
                      refine sCv (p := 260) (as := [_]) rfl rfl rfl rfl (by decide) (Nat.le_of_ble_eq_true rfl) rfl (Nat.le_of_ble_eq_true rfl) (sk_179 _) rfl (by omega) (m_findName (x := C i) hF.2.2.2.1 hc40 hF.2.2.2.2.2.1) ?_
                      rw [hkf]
                      refine sL (i := .goto 4) rfl rfl ?_
                      refine sL (pc' := 265) (i := .istore_n 1) (ls' := [some (.ref 179), some (.int (iI ((kf : Nat) : Int))), none]) rfl rfl ?_
                      refine sL (pc' := 266) (i := .aload_n 0) rfl rfl ?_
                      refine sGi (p := 269) rfl rfl (sk_179 _) rfl rfl rfl h.2.2.2.1 ?_
                      refine sKi (p := 270) rfl rfl ?_
                      refine sIc_ne (p := 273) rfl rfl ⟨by omega, by omega⟩ ⟨by omega, by omega⟩ (fun c10 => ?_) (fun c10 => ?_)
                      · exfalso; omega
                      · have c10 := c10
                        refine sL (pc' := 274) (i := .iload_n 1) rfl rfl ?_
                        refine sKi (p := 275) rfl rfl ?_
                        refine sIc_ne (p := 278) rfl rfl ⟨by omega, by omega⟩ ⟨by omega, by omega⟩ (fun c11 => ?_) (fun c11 => ?_)
                        · have c11 := c11
                          refine sKi (p := 290) rfl rfl ?_
                          refine sL (pc' := 291) (i := .istore_n 2) (ls' := [some (.ref 179), some (.int (iI ((kf : Nat) : Int))), some (.int (iI 0))]) rfl rfl ?_
                          refine sSh (T := (wKw S 192 (16 * V.length) 0 (Fn (rof kf)))) (congrArg sH (wKw_0 _ _ _ _).symm) ?_
                          refine sIt (A := fun k => [some (.ref 179), some (.int (iI ((kf : Nat) : Int))), some (.int (iI ((k : Nat) : Int)))]) (B := fun k => (wKw S 192 (16 * V.length) k (Fn (rof kf)))) (fun _ => True) 16 True.intro (fun k hi291 hI291 ih291 => ?_) (fun hI291 => ?_)
                          · have hi291 := hi291
                            refine sL (pc' := 292) (i := .iload_n 2) rfl rfl ?_
                            refine sKb (p := 294) rfl rfl ?_
                            refine sIc_ge (p := 297) rfl rfl ⟨by omega, by omega⟩ ⟨by omega, by omega⟩ (fun c12 => ?_) (fun c12 => ?_)
                            · exfalso; omega
                            · have c12 := c12
                              refine sL (pc' := 298) (i := .aload_n 0) rfl rfl ?_
                              refine sGc (p := 301) rfl rfl (sk_179 _) rfl rfl rfl ?_
                              refine sKb (p := 303) rfl rfl ?_
                              refine sL (pc' := 304) (i := .aload_n 0) rfl rfl ?_
                              refine sGi (p := 307) rfl rfl (sk_179 _) rfl rfl rfl h30 ?_
                              refine sMu (p := 308) rfl rfl ?_
                              refine sL (pc' := 309) (i := .iload_n 2) rfl rfl ?_
                              refine sAd (p := 310) rfl rfl ?_
                              refine sL (pc' := 311) (i := .aload_n 0) rfl rfl ?_
                              refine sGi (p := 314) rfl rfl (sk_179 _) rfl rfl rfl h.2.2.2.1 ?_
                              refine sKi (p := 315) rfl rfl ?_
                              refine sIc_ne (p := 318) rfl rfl ⟨by omega, by omega⟩ ⟨by omega, by omega⟩ (fun c13 => ?_) (fun c13 => ?_)
                              · have c13 := c13
                                refine sL (pc' := 325) (i := .aload_n 0) rfl rfl ?_
                                refine sGi (p := 328) rfl rfl (sk_179 _) rfl rfl rfl h.2.2.2.1 ?_
                                refine sKi (p := 329) rfl rfl ?_
                                refine sIc_ne (p := 332) rfl rfl ⟨by omega, by omega⟩ ⟨by omega, by omega⟩ (fun c14 => ?_) (fun c14 => ?_)
                                · have c14 := c14
                                  refine sL (pc' := 337) (i := .aload_n 0) rfl rfl ?_
                                  refine sGc (p := 340) rfl rfl (sk_179 _) rfl rfl rfl ?_
                                  refine sKb (p := 342) rfl rfl ?_
                                  refine sL (pc' := 343) (i := .aload_n 0) rfl rfl ?_
                                  refine sGc (p := 346) rfl rfl (sk_179 _) rfl rfl rfl ?_
                                  refine sL (pc' := 347) (i := .iload_n 1) rfl rfl ?_
                                  refine sAi (p := 348) (i := kf) rfl rfl (sk_190 _) (by omega) ⟨by omega, by omega⟩ hrf.1 ?_
                                  refine sMu (p := 349) rfl rfl ?_
                                  refine sL (pc' := 350) (i := .iload_n 2) rfl rfl ?_
                                  refine sAd (p := 351) rfl rfl ?_
                                  refine sAl (p := 352) (i := (16 * (rof kf)) + k) rfl rfl (sk_185 _) (by omega) ⟨by omega, by omega⟩ (wKw_oo (by decide) hrow hi291) ?_
                                  refine sWl (p := 353) (i := (16 * V.length) + k) rfl rfl (sk_192 _) (by omega) ⟨by omega, by omega⟩ ?_
                                  refine sInX (z := ((k : Nat) : Int)) (ls' := [some (.ref 179), some (.int (iI ((kf : Nat) : Int))), some (.int (iI (((k : Nat) : Int) + 1)))]) (p := 356) rfl rfl (Nat.le_of_ble_eq_true rfl) rfl rfl ?_
                                  refine sL (i := .goto (-65)) rfl rfl ?_
                                  refine sRo (ls := [some (.ref 179), some (.int (iI ((kf : Nat) : Int))), some (.int (iI ((k + 1 : Nat) : Int)))]) (T := (wKw S 192 (16 * V.length) (k + 1) (Fn (rof kf)))) (And.intro rfl (And.intro rfl (And.intro rfl (True.intro)))) (congrArg sH (wKw_s (by omega) (rfl))) (ih291 ?_)
                                  exact True.intro
                                · exfalso; omega
                              · exfalso; omega
                          · have hI291 := hI291
                            refine sL (pc' := 292) (i := .iload_n 2) rfl rfl ?_
                            refine sKb (p := 294) rfl rfl ?_
                            refine sIc_ge (p := 297) rfl rfl ⟨by omega, by omega⟩ ⟨by omega, by omega⟩ (fun c15 => ?_) (fun c15 => ?_)
                            · have c15 := c15
                              refine sL (pc' := 360) (i := .aload_n 0) rfl rfl ?_
                              refine sL (pc' := 361) (i := .aload_n 0) rfl rfl ?_
                              refine sGc (p := 364) rfl rfl (sk_179 _) rfl rfl rfl ?_
                              refine sKb (p := 366) rfl rfl ?_
                              refine sL (pc' := 367) (i := .aload_n 0) rfl rfl ?_
                              refine sGi (p := 370) rfl rfl (sk_179 _) rfl rfl rfl h30 ?_
                              refine sMu (p := 371) rfl rfl ?_
                              refine sCv (p := 374) (as := [_, _]) rfl rfl rfl rfl (by decide) (Nat.le_of_ble_eq_true rfl) rfl (Nat.le_of_ble_eq_true rfl) (sk_179 _) rfl (by omega) (m_trim (o := 16 * V.length) (show vM _ n sz from hv) (sk_192 _) ⟨by omega, by omega⟩ (rowS_wRw S 192 (16 * V.length) (Fn (rof kf)))) ?_
                              refine sL (pc' := 375) (i := .aload_n 0) rfl rfl ?_
                              refine sL (pc' := 376) (i := .dup) rfl rfl ?_
                              refine sGi (p := 379) rfl rfl (sk_179 _) rfl rfl rfl h30 ?_
                              refine sKi (p := 380) rfl rfl ?_
                              refine sAd (p := 381) rfl rfl ?_
                              refine sPi (z := (((V.length : Nat) : Int) + 1)) (p := 384) rfl rfl (sk_179 _) rfl rfl rfl rfl ?_
                              refine sL (i := .goto 12) rfl rfl ?_
                              show sT X 4 208 396 _ [] (wI (wRw (wRw S 192 (16 * V.length) (Fn (rof kf))) 192 (16 * V.length) (fun r => Fn (rof kf) r && decide (r < pr sz n))) 179 30 (((V.length : Nat) : Int) + 1)) _
                              have k0 : SI (wRw (wRw S 192 (16 * V.length) (Fn (rof kf))) 192 (16 * V.length) (fun r => Fn (rof kf) r && decide (r < pr sz n))) = SI S := rfl
                              have kr : rowS (wRw (wRw S 192 (16 * V.length) (Fn (rof kf))) 192 (16 * V.length) (fun r => Fn (rof kf) r && decide (r < pr sz n))) 192 (16 * V.length) ((Fn (rof kf))) := Eq.mpr (congrArg (rowS (wRw (wRw S 192 (16 * V.length) (Fn (rof kf))) 192 (16 * V.length) (fun r => Fn (rof kf) r && decide (r < pr sz n))) 192 (16 * V.length)) hJ) (rowS_wRw _ _ _ _)
                              have kl : ∀ k, k < 16 * V.length → SL (wRw (wRw S 192 (16 * V.length) (Fn (rof kf))) 192 (16 * V.length) (fun r => Fn (rof kf) r && decide (r < pr sz n))) 192 k = SL S 192 k := fun k hk => (SL_wRw _ _ _ _ _ _).trans ((if_neg (by omega)).trans ((SL_wRw _ _ _ _ _ _).trans (if_neg (by omega))))
                              have kp : frP S (wRw (wRw S 192 (16 * V.length) (Fn (rof kf))) 192 (16 * V.length) (fun r => Fn (rof kf) r && decide (r < pr sz n))) := frP_trans (frP_r (Or.inr rfl)) (frP_r (Or.inr rfl))
                              generalize (wRw (wRw S 192 (16 * V.length) (Fn (rof kf))) 192 (16 * V.length) (fun r => Fn (rof kf) r && decide (r < pr sz n))) = S2 at *
                              have hp : frP S (wI S2 179 30 (((V.length : Nat) : Int) + 1)) := frP_trans kp (frP_w (Or.inl rfl))
                              have hmT : mS n (wI S2 179 30 (((V.length : Nat) : Int) + 1)) W (((Fn (rof kf))) :: V) := mS_top hm hm.2.1 hm.2.2.1 hm.2.2.2.1 (Nat.le_refl _) hb ((rI_nj (by decide)).trans (by rw [k0]; exact hm.1.1)) rI_at ((rI_nj (by decide)).trans (by rw [k0]; exact hm.1.2.2)) ((show SI (wI S2 179 30 (((V.length : Nat) : Int) + 1)) 193 = SI S2 193 from rfl).trans (congrFun k0 193)) ((show SI (wI S2 179 30 (((V.length : Nat) : Int) + 1)) 194 = SI S2 194 from rfl).trans (congrFun k0 194)) kr kl
                              refine lf_tl (vM_P hv hp) (mG_P (mG_A h) hp) hmT ?_
                              intro S' h1 h2 h3
                              exact ⟨rfl, frK_trans (frK_P hp) h1, Or.inl ⟨rfl, h2, h3⟩⟩
                            · exact absurd c15 (by decide)
                        · exfalso; omega
            · exfalso; omega
          · exfalso; omega
      · exfalso; omega
    · exfalso; omega
theorem m_op_none (hv : vM S n sz) (h : mA S y s i) (hq : tk y s i ≠ 33 ∧ tk y s i ≠ 40 ∧ tk y s i ≠ 262 ∧ tk y s i ≠ 263 ∧ tk y s i ≠ 35 ∧ tk y s i ≠ 260 ∧ tk y s i ≠ 261 ∧ tk y s i ≠ 258) : sM X 4 208 [.ref 179] S (fun r S' => r = some (.int (iI (bI true))) ∧ frK S S' ∧ mX S' y s 2 (tA y s i)) := by
  have hr0 := rc_b (k := tk y s i) (tK_lt _)
  have hks := tk_sm (y := y) (s := s) (i := i)
  have e1 : rc (tk y s i) ≠ 33 ∧ rc (tk y s i) ≠ 40 ∧ rc (tk y s i) ≠ 5 ∧ rc (tk y s i) ≠ 6 ∧ rc (tk y s i) ≠ 35 ∧ rc (tk y s i) ≠ 3 ∧ rc (tk y s i) ≠ 4 ∧ rc (tk y s i) ≠ 1 := by
    have h9 : tk y s i ≤ 265 := tK_lt _
    unfold rc
    repeat' split
    all_goals omega
  have hbd := mX_bd (k := 2) (q := tA y s i) h.1 h.2.1 ⟨by decide, by decide⟩ rfl (tP_le (i + 1)) h.2.2.1
  refine sIni (ls := [some (.ref 179), none, none]) rfl ?_
  refine sL (pc' := 1) (i := .aload_n 0) rfl rfl ?_
  refine sGi (p := 4) rfl rfl (sk_179 _) rfl rfl rfl h.2.2.2.1 ?_
  refine sKb (p := 6) rfl rfl ?_
  refine sIc_ne (p := 9) rfl rfl ⟨by omega, by omega⟩ ⟨by omega, by omega⟩ (fun c1 => ?_) (fun c1 => ?_)
  · have c1 := c1
    refine sL (pc' := 28) (i := .aload_n 0) rfl rfl ?_
    refine sGi (p := 31) rfl rfl (sk_179 _) rfl rfl rfl h.2.2.2.1 ?_
    refine sKb (p := 33) rfl rfl ?_
    refine sIc_ne (p := 36) rfl rfl ⟨by omega, by omega⟩ ⟨by omega, by omega⟩ (fun c2 => ?_) (fun c2 => ?_)
    · have c2 := c2
      refine sL (pc' := 54) (i := .aload_n 0) rfl rfl ?_
      refine sGi (p := 57) rfl rfl (sk_179 _) rfl rfl rfl h.2.2.2.1 ?_
      refine sKi (p := 58) rfl rfl ?_
      refine sIc_eq (p := 61) rfl rfl ⟨by omega, by omega⟩ ⟨by omega, by omega⟩ (fun c3 => ?_) (fun c3 => ?_)
      · exfalso; omega
      · have c3 := c3
        refine sL (pc' := 62) (i := .aload_n 0) rfl rfl ?_
        refine sGi (p := 65) rfl rfl (sk_179 _) rfl rfl rfl h.2.2.2.1 ?_
        refine sKb (p := 67) rfl rfl ?_
        refine sIc_ne (p := 70) rfl rfl ⟨by omega, by omega⟩ ⟨by omega, by omega⟩ (fun c4 => ?_) (fun c4 => ?_)
        · have c4 := c4
          refine sL (pc' := 186) (i := .aload_n 0) rfl rfl ?_
          refine sGi (p := 189) rfl rfl (sk_179 _) rfl rfl rfl h.2.2.2.1 ?_
          refine sKb (p := 191) rfl rfl ?_
          refine sIc_ne (p := 194) rfl rfl ⟨by omega, by omega⟩ ⟨by omega, by omega⟩ (fun c5 => ?_) (fun c5 => ?_)
          · have c5 := c5
            refine sL (pc' := 221) (i := .aload_n 0) rfl rfl ?_
            refine sGi (p := 224) rfl rfl (sk_179 _) rfl rfl rfl h.2.2.2.1 ?_
            refine sKi (p := 225) rfl rfl ?_
            refine sIc_eq (p := 228) rfl rfl ⟨by omega, by omega⟩ ⟨by omega, by omega⟩ (fun c6 => ?_) (fun c6 => ?_)
            · exfalso; omega
            · have c6 := c6
              refine sL (pc' := 229) (i := .aload_n 0) rfl rfl ?_
              refine sGi (p := 232) rfl rfl (sk_179 _) rfl rfl rfl h.2.2.2.1 ?_
              refine sKi (p := 233) rfl rfl ?_
              refine sIc_eq (p := 236) rfl rfl ⟨by omega, by omega⟩ ⟨by omega, by omega⟩ (fun c7 => ?_) (fun c7 => ?_)
              · exfalso; omega
              · have c7 := c7
                refine sL (pc' := 237) (i := .aload_n 0) rfl rfl ?_
                refine sGi (p := 240) rfl rfl (sk_179 _) rfl rfl rfl h.2.2.2.1 ?_
                refine sKi (p := 241) rfl rfl ?_
                refine sIc_ne (p := 244) rfl rfl ⟨by omega, by omega⟩ ⟨by omega, by omega⟩ (fun c8 => ?_) (fun c8 => ?_)
                · have c8 := c8
                  refine sL (pc' := 388) (i := .aload_n 0) rfl rfl ?_
                  refine sKi (p := 389) rfl rfl ?_
                  refine sL (pc' := 390) (i := .aload_n 0) rfl rfl ?_
                  refine sGi (p := 393) rfl rfl (sk_179 _) rfl rfl rfl h.2.2.2.2.1 ?_
                  refine sCv (p := 396) (as := [_, _]) rfl rfl rfl rfl (by decide) (Nat.le_of_ble_eq_true rfl) rfl (Nat.le_of_ble_eq_true rfl) (sk_179 _) rfl (by omega) (m_bad (kz := 0) h.2.1 ⟨by decide, by decide⟩) ?_
                  exact lf_tx hbd.1 ⟨rfl, frK_J hbd.2, hbd.1⟩
                · exfalso; omega
          · exfalso; omega
        · exfalso; omega
    · exfalso; omega
  · exfalso; omega
theorem m_op_atom (hv : vM S n sz) (h : mA S y s i) (q : tk y s i = 35) (hi : i ≤ nT y s) (hag : agC C y s) (hm : mS n S W V) (hb : V.length + 1 ≤ 220) : sM X 4 208 [.ref 179] S (fun r S' => r = some (.int (iI (bI true))) ∧ lfN n sz y s W V (pAtm (tk y s) C n sz i) S S') := by
  have hr0 := rc_b (k := tk y s i) (tK_lt _)
  have h30 : SI S 179 30 = ((V.length : Nat) : Int) := hm.1.2.1
  have e1 : rc (tk y s i) = 35 := by rw [q]; rfl
  by_cases q0 : (pVar (tk y s) C n i).1 = 0
  · have hpv := pVar_v q0
    obtain ⟨v, hv9⟩ : ∃ v : Nat, (pVar (tk y s) C n i).2.2 = ((v : Nat) : Int) := ⟨(pVar (tk y s) C n i).2.2.toNat, by omega⟩
    have hvn : v < n := by omega
    have hi1 := nT_lt hi (by omega) (by omega)
    have hi2 := nT_lt (y := y) (s := s) (j := i + 1) (by omega) (by omega) (by omega)
    have hat : pAtm (tk y s) C n sz i = vlR (tk y s) C n sz v i := by
      unfold pAtm vlR
      rw [if_neg (fun z => z q0), hv9, hpv.2.1]
      rfl
    rw [hat]
    have hval : ∀ S1, vM S1 n sz → mA S1 y s (i + 1) → mS n S1 W V → sM X 3 207 [.ref 179, .int (iI ((v : Nat) : Int)), .int (iI ((tA y s i : Nat) : Int))] S1 (fun r S' => r = none ∧ lfQ n y s W V (vlR (tk y s) C n sz v i) S1 S') := fun S1 h1 h2 h3 => m_value h1 h2 hi2 hag hvn h3 hb
    generalize vlR (tk y s) C n sz v i = R at *
    refine sIni (ls := [some (.ref 179), none, none]) rfl ?_
    refine sL (pc' := 1) (i := .aload_n 0) rfl rfl ?_
    refine sGi (p := 4) rfl rfl (sk_179 _) rfl rfl rfl h.2.2.2.1 ?_
    refine sKb (p := 6) rfl rfl ?_
    refine sIc_ne (p := 9) rfl rfl ⟨by omega, by omega⟩ ⟨by omega, by omega⟩ (fun c1 => ?_) (fun c1 => ?_)
    · have c1 := c1
      refine sL (pc' := 28) (i := .aload_n 0) rfl rfl ?_
      refine sGi (p := 31) rfl rfl (sk_179 _) rfl rfl rfl h.2.2.2.1 ?_
      refine sKb (p := 33) rfl rfl ?_
      refine sIc_ne (p := 36) rfl rfl ⟨by omega, by omega⟩ ⟨by omega, by omega⟩ (fun c2 => ?_) (fun c2 => ?_)
      · have c2 := c2
        refine sL (pc' := 54) (i := .aload_n 0) rfl rfl ?_
        refine sGi (p := 57) rfl rfl (sk_179 _) rfl rfl rfl h.2.2.2.1 ?_
        refine sKi (p := 58) rfl rfl ?_
        refine sIc_eq (p := 61) rfl rfl ⟨by omega, by omega⟩ ⟨by omega, by omega⟩ (fun c3 => ?_) (fun c3 => ?_)
        · exfalso; omega
        · have c3 := c3
          refine sL (pc' := 62) (i := .aload_n 0) rfl rfl ?_
          refine sGi (p := 65) rfl rfl (sk_179 _) rfl rfl rfl h.2.2.2.1 ?_
          refine sKb (p := 67) rfl rfl ?_
          refine sIc_ne (p := 70) rfl rfl ⟨by omega, by omega⟩ ⟨by omega, by omega⟩ (fun c4 => ?_) (fun c4 => ?_)
          · have c4 := c4
            refine sL (pc' := 186) (i := .aload_n 0) rfl rfl ?_
            refine sGi (p := 189) rfl rfl (sk_179 _) rfl rfl rfl h.2.2.2.1 ?_
            refine sKb (p := 191) rfl rfl ?_
            refine sIc_ne (p := 194) rfl rfl ⟨by omega, by omega⟩ ⟨by omega, by omega⟩ (fun c5 => ?_) (fun c5 => ?_)
            · exfalso; omega
            · have c5 := c5
              refine sL (pc' := 195) (i := .aload_n 0) rfl rfl ?_
              refine sGi (p := 198) rfl rfl (sk_179 _) rfl rfl rfl h.2.2.2.2.1 ?_
              refine sL (pc' := 199) (i := .istore_n 1) (ls' := [some (.ref 179), some (.int (iI ((tA y s i : Nat) : Int))), none]) rfl rfl ?_
              refine sL (pc' := 200) (i := .aload_n 0) rfl rfl ?_
              refine sCvQ (p := 203) (as := []) rfl rfl rfl rfl (by decide) (Nat.le_of_ble_eq_true rfl) rfl (Nat.le_of_ble_eq_true rfl) (sk_179 _) rfl (by omega) (m_variable hv h hi hag) ?_
              rintro _ S1 ⟨z, rfl, hf1, hV1⟩
              have hm1 := mS_J hm hf1
              have hv1 := vM_fr hv hf1
              obtain ⟨hz, hA1⟩ : z = (pVar (tk y s) C n i).2.2 ∧ mA S1 y s (i + 1) := by
                rcases hV1 with ⟨_, q1, q2⟩ | ⟨q1, _⟩
                · exact ⟨q1, q2⟩
                · exact absurd q0 q1
              rw [hv9] at hz
              subst hz
              refine sL (pc' := 204) (i := .istore_n 2) (ls' := [some (.ref 179), some (.int (iI ((tA y s i : Nat) : Int))), some (.int (iI ((v : Nat) : Int)))]) rfl rfl ?_
              refine sL (pc' := 205) (i := .aload_n 0) rfl rfl ?_
              refine sGi (p := 208) rfl rfl (sk_179 _) rfl rfl rfl hA1.2.1 ?_
              refine sIf_ne (p := 211) rfl rfl ⟨by omega, by omega⟩ (fun c6 => ?_) (fun c6 => ?_)
              · exact absurd c6 (by decide)
              · have c6 := c6
                refine sL (pc' := 212) (i := .aload_n 0) rfl rfl ?_
                refine sL (pc' := 213) (i := .iload_n 2) rfl rfl ?_
                refine sL (pc' := 214) (i := .iload_n 1) rfl rfl ?_
                refine sCvQ (p := 217) (as := [_, _]) rfl rfl rfl rfl (by decide) (Nat.le_of_ble_eq_true rfl) rfl (Nat.le_of_ble_eq_true rfl) (sk_179 _) rfl (by omega) (hval S1 hv1 hA1 hm1) ?_
                rintro _ S2 ⟨rfl, hf2, hd2⟩
                have hv2 := vM_K hv1 hf2
                refine sL (i := .goto 179) rfl rfl ?_
                rcases hd2 with ⟨r1, r2, r3⟩ | ⟨r1, r2⟩
                · refine lf_tl hv2 r2 r3 ?_
                  intro S' h1 h2 h3
                  exact ⟨rfl, frK_trans (frK_trans (frK_J hf1) hf2) h1, Or.inl ⟨r1, h2, h3⟩⟩
                · exact lf_tx r2 ⟨rfl, frK_trans (frK_J hf1) hf2, Or.inr ⟨r1, r2⟩⟩
          · exfalso; omega
      · exfalso; omega
    · exfalso; omega
  · unfold pAtm
    rw [if_pos q0]
    refine sIni (ls := [some (.ref 179), none, none]) rfl ?_
    refine sL (pc' := 1) (i := .aload_n 0) rfl rfl ?_
    refine sGi (p := 4) rfl rfl (sk_179 _) rfl rfl rfl h.2.2.2.1 ?_
    refine sKb (p := 6) rfl rfl ?_
    refine sIc_ne (p := 9) rfl rfl ⟨by omega, by omega⟩ ⟨by omega, by omega⟩ (fun c1 => ?_) (fun c1 => ?_)
    · have c1 := c1
      refine sL (pc' := 28) (i := .aload_n 0) rfl rfl ?_
      refine sGi (p := 31) rfl rfl (sk_179 _) rfl rfl rfl h.2.2.2.1 ?_
      refine sKb (p := 33) rfl rfl ?_
      refine sIc_ne (p := 36) rfl rfl ⟨by omega, by omega⟩ ⟨by omega, by omega⟩ (fun c2 => ?_) (fun c2 => ?_)
      · have c2 := c2
        refine sL (pc' := 54) (i := .aload_n 0) rfl rfl ?_
        refine sGi (p := 57) rfl rfl (sk_179 _) rfl rfl rfl h.2.2.2.1 ?_
        refine sKi (p := 58) rfl rfl ?_
        refine sIc_eq (p := 61) rfl rfl ⟨by omega, by omega⟩ ⟨by omega, by omega⟩ (fun c3 => ?_) (fun c3 => ?_)
        · exfalso; omega
        · have c3 := c3
          refine sL (pc' := 62) (i := .aload_n 0) rfl rfl ?_
          refine sGi (p := 65) rfl rfl (sk_179 _) rfl rfl rfl h.2.2.2.1 ?_
          refine sKb (p := 67) rfl rfl ?_
          refine sIc_ne (p := 70) rfl rfl ⟨by omega, by omega⟩ ⟨by omega, by omega⟩ (fun c4 => ?_) (fun c4 => ?_)
          · have c4 := c4
            refine sL (pc' := 186) (i := .aload_n 0) rfl rfl ?_
            refine sGi (p := 189) rfl rfl (sk_179 _) rfl rfl rfl h.2.2.2.1 ?_
            refine sKb (p := 191) rfl rfl ?_
            refine sIc_ne (p := 194) rfl rfl ⟨by omega, by omega⟩ ⟨by omega, by omega⟩ (fun c5 => ?_) (fun c5 => ?_)
            · exfalso; omega
            · have c5 := c5
              refine sL (pc' := 195) (i := .aload_n 0) rfl rfl ?_
              refine sGi (p := 198) rfl rfl (sk_179 _) rfl rfl rfl h.2.2.2.2.1 ?_
              refine sL (pc' := 199) (i := .istore_n 1) (ls' := [some (.ref 179), some (.int (iI ((tA y s i : Nat) : Int))), none]) rfl rfl ?_
              refine sL (pc' := 200) (i := .aload_n 0) rfl rfl ?_
              refine sCvQ (p := 203) (as := []) rfl rfl rfl rfl (by decide) (Nat.le_of_ble_eq_true rfl) rfl (Nat.le_of_ble_eq_true rfl) (sk_179 _) rfl (by omega) (m_variable hv h hi hag) ?_
              rintro _ S1 ⟨z, rfl, hf1, hV1⟩
              have hm1 := mS_J hm hf1
              have hv1 := vM_fr hv hf1
              have hX1 : mX S1 y s (pVar (tk y s) C n i).1 (tA y s (pVar (tk y s) C n i).2.1) := by
                rcases hV1 with ⟨q1, _⟩ | ⟨_, q1⟩
                · exact absurd q1 q0
                · exact q1
              have hxk := hX1.2.2.1
              refine sL (pc' := 204) (i := .istore_n 2) (ls' := [some (.ref 179), some (.int (iI ((tA y s i : Nat) : Int))), some (.int (iI z))]) rfl rfl ?_
              refine sL (pc' := 205) (i := .aload_n 0) rfl rfl ?_
              refine sGi (p := 208) rfl rfl (sk_179 _) rfl rfl rfl hX1.2.1 ?_
              refine sIf_ne (p := 211) rfl rfl ⟨by omega, by omega⟩ (fun c6 => ?_) (fun c6 => ?_)
              · have c6 := c6
                refine sL (i := .goto 179) rfl rfl ?_
                exact lf_tx hX1 ⟨rfl, frK_J hf1, Or.inr ⟨q0, hX1⟩⟩
              · exfalso; omega
          · exfalso; omega
      · exfalso; omega
    · exfalso; omega
end MG
