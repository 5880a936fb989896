/-! ===== the reference's reading: the stacks ===== -/
/-- waits and what they are about, top first -/
def wS (S : ST) : List (Int × Int) → Prop
  | [] => True
  | e :: W => SI S 193 W.length = e.1 ∧ SI S 194 W.length = e.2 ∧ wS S W
/-- the pile, top first -/
def pS (S : ST) : List (Nat → Bool) → Prop
  | [] => True
  | f :: V => rowS S 192 (16 * V.length) f ∧ pS S V
def dpW : List (Int × Int) → Nat
  | [] => 0
  | e :: W => (if e.1 = 300 ∨ e.1 = 303 ∨ e.1 = 40 then 1 else 0) + dpW W
def bnW : List (Int × Int) → Nat
  | [] => 0
  | e :: W => (if 0 < rk5 e.1 then 1 else 0) + bnW W
def okE (n : Nat) (e : Int × Int) : Prop := e.1 = 300 ∨ e.1 = 303 ∨ e.1 = 40 ∨ 0 < rk5 e.1 ∨ ((e.1 = 301 ∨ e.1 = 302) ∧ 0 ≤ e.2 ∧ e.2 < n)
def okW (n : Nat) : List (Int × Int) → Prop
  | [] => True
  | e :: W => okE n e ∧ okW n W
def mS (n : Nat) (S : ST) (W : List (Int × Int)) (V : List (Nat → Bool)) : Prop := (SI S 179 33 = ((W.length : Nat) : Int) ∧ SI S 179 30 = ((V.length : Nat) : Int) ∧ SI S 179 34 = ((dpW W : Nat) : Int)) ∧ wS S W ∧ pS S V ∧ okW n W ∧ W.length ≤ 420 ∧ V.length ≤ 220
def frP (S S' : ST) : Prop := S'.1 = S.1 ∧ SR S' = SR S ∧ (∀ c, c ≠ 179 → c ≠ 193 → c ≠ 194 → SI S' c = SI S c) ∧ (∀ j, j ≠ 30 → j ≠ 33 → j ≠ 34 → SI S' 179 j = SI S 179 j) ∧ (∀ c, c ≠ 186 → c ≠ 192 → SL S' c = SL S c)
theorem frP_refl (S : ST) : frP S S := ⟨rfl, rfl, fun _ _ _ _ => rfl, fun _ _ _ _ => rfl, fun _ _ _ => rfl⟩
theorem frP_trans {S T V : ST} (h : frP S T) (k : frP T V) : frP S V := ⟨k.1.trans h.1, k.2.1.trans h.2.1, fun c a b d => (k.2.2.1 c a b d).trans (h.2.2.1 c a b d), fun c a b d => (k.2.2.2.1 c a b d).trans (h.2.2.2.1 c a b d), fun c a b => (k.2.2.2.2 c a b).trans (h.2.2.2.2 c a b)⟩
theorem frP_w {S : ST} {k : Nat} {z : Int} (h : k = 30 ∨ k = 33 ∨ k = 34) : frP S (wI S 179 k z) := ⟨rfl, rfl, fun c c1 _ _ => funext fun j => rI_ne c1 j, fun j j1 j2 j3 => rI_nj (by omega), fun _ _ _ => rfl⟩
theorem frP_a {S : ST} {c k : Nat} {z : Int} (h : c = 193 ∨ c = 194) : frP S (wI S c k z) := ⟨rfl, rfl, fun c' _ h1 h2 => funext fun j => rI_ne (by omega) j, fun j _ _ _ => rI_ne (by omega) j, fun _ _ _ => rfl⟩
theorem frP_r {S : ST} {a o : Nat} {f : Nat → Bool} (h : a = 186 ∨ a = 192) : frP S (wRw S a o f) := ⟨rfl, rfl, fun _ _ _ _ => rfl, fun _ _ _ _ => rfl, fun c h1 h2 => SL_wRw_ne (by omega)⟩
theorem vM_P {S S' : ST} {n : Nat} {sz : Nat → Nat} (h : vM S n sz) (f : frP S S') : vM S' n sz := by
  unfold vM at *
  rw [f.2.2.1 180 (by decide) (by decide) (by decide), f.2.2.1 181 (by decide) (by decide) (by decide), f.2.2.2.1 1 (by decide) (by decide) (by decide), f.2.2.2.1 4 (by decide) (by decide) (by decide)]
  exact h
theorem mt_P {S S' : ST} {y : Nat → Nat} {s : Nat} (h : mt S y s) (f : frP S S') : mt S' y s := by
  unfold mt at *
  rw [f.2.2.1 188 (by decide) (by decide) (by decide), f.2.2.2.1 22 (by decide) (by decide) (by decide)]
  exact h
theorem mA_P {S S' : ST} {y : Nat → Nat} {s i : Nat} (h : mA S y s i) (f : frP S S') : mA S' y s i := by
  refine ⟨mt_P h.1 f, ?_⟩
  have h2 := h.2
  rw [f.2.2.2.2 179 (by decide) (by decide), f.2.2.2.1 14 (by decide) (by decide) (by decide), f.2.2.2.1 23 (by decide) (by decide) (by decide), f.2.2.2.1 24 (by decide) (by decide) (by decide), f.2.2.2.1 25 (by decide) (by decide) (by decide), f.2.2.2.1 27 (by decide) (by decide) (by decide)]
  exact h2
theorem mX_P {S S' : ST} {y : Nat → Nat} {s k p : Nat} (h : mX S y s k p) (f : frP S S') : mX S' y s k p := by
  refine ⟨mt_P h.1 f, ?_⟩
  have h2 := h.2
  rw [f.2.2.2.1 14 (by decide) (by decide) (by decide), f.2.2.2.1 23 (by decide) (by decide) (by decide), f.2.2.2.1 28 (by decide) (by decide) (by decide)]
  exact h2
theorem wS_fr {S S' : ST} : ∀ W : List (Int × Int), (∀ k, k < W.length → SI S' 193 k = SI S 193 k ∧ SI S' 194 k = SI S 194 k) → wS S W → wS S' W
  | [], _, _ => True.intro
  | e :: W, h, hw => ⟨(h W.length (Nat.lt_succ_self _)).1.trans hw.1, (h W.length (Nat.lt_succ_self _)).2.trans hw.2.1, wS_fr W (fun k hk => h k (Nat.lt_succ_of_lt hk)) hw.2.2⟩
theorem pS_fr {S S' : ST} : ∀ V : List (Nat → Bool), (∀ k, k < 16 * V.length → SL S' 192 k = SL S 192 k) → pS S V → pS S' V
  | [], _, _ => True.intro
  | f :: V, h, hp => by
    have e1 : (f :: V).length = V.length + 1 := rfl
    refine ⟨fun k hk => (h _ ?_).trans (hp.1 k hk), pS_fr V (fun k hk => h k ?_) hp.2⟩
    · rw [e1]
      omega
    · rw [e1]
      omega
/-- another row on the top, waits taken away -/
theorem mS_top {n : Nat} {S S' : ST} {W0 W : List (Int × Int)} {V0 V : List (Nat → Bool)} {g : Nat → Bool} (h : mS n S W0 V0) (hW : wS S W) (hV : pS S V) (hok : okW n W) (hl : W.length ≤ W0.length) (hl2 : V.length + 1 ≤ 220) (h33 : SI S' 179 33 = ((W.length : Nat) : Int)) (h30 : SI S' 179 30 = ((V.length + 1 : Nat) : Int)) (h34 : SI S' 179 34 = ((dpW W : Nat) : Int)) (h3 : SI S' 193 = SI S 193) (h4 : SI S' 194 = SI S 194) (hg : rowS S' 192 (16 * V.length) g) (hr : ∀ k, k < 16 * V.length → SL S' 192 k = SL S 192 k) : mS n S' W (g :: V) :=
  ⟨⟨h33, h30, h34⟩, wS_fr W (fun k _ => ⟨congrFun h3 k, congrFun h4 k⟩) hW, ⟨hg, pS_fr V hr hV⟩, hok, Nat.le_trans hl h.2.2.2.2.1, hl2⟩
theorem ivt_not (T : Nat) (f : Nat → Bool) : ivt T f = fun r => !f r && decide (r < T) := funext fun r => by
  unfold ivt evr
  show (decide (r < T) && !f r && decide (r < T)) = _
  by_cases h : r < T
  · rw [decide_eq_true h, Bool.true_and]
  · rw [decide_eq_false h, Bool.and_false, Bool.and_false]
/-- a prefix applied -/
def aE (n : Nat) (sz : Nat → Nat) (e : Int × Int) (f : Nat → Bool) : Nat → Bool := if e.1 = 300 then ivt (pr sz n) f else if e.1 = 303 then f else cut (pr sz n) (qnt sz (decide (e.1 = 302)) f e.2.toNat)
def pfq (n : Nat) (sz : Nat → Nat) : List (Int × Int) → (Nat → Bool) → List (Int × Int) × (Nat → Bool)
  | [], f => ([], f)
  | e :: W, f => if 300 ≤ e.1 then pfq n sz W (aE n sz e f) else (e :: W, f)
section MZ
variable {X : List Int32} {n : Nat} {sz : Nat → Nat}
theorem pfq_p {e : Int × Int} {W : List (Int × Int)} {f : Nat → Bool} (h : 300 ≤ e.1) : pfq n sz (e :: W) f = pfq n sz W (aE n sz e f) := if_pos h
theorem pfq_n {e : Int × Int} {W : List (Int × Int)} {f : Nat → Bool} (h : ¬ 300 ≤ e.1) : pfq n sz (e :: W) f = (e :: W, f) := if_neg h
theorem rk5_b (t : Int) : 0 ≤ rk5 t ∧ rk5 t ≤ 5 ∧ (0 < rk5 t → t = 201 ∨ t = 200 ∨ t = 124 ∨ t = 94 ∨ t = 38) := by
  unfold rk5
  repeat' split
  all_goals omega

theorem pfq_hd {Q : Option Value → ST → Prop} {V : List (Nat → Bool)} : ∀ (W : List (Int × Int)) (f : Nat → Bool) (S : ST), vM S n sz → mS n S W (f :: V) → (∀ S', frP S S' → mS n S' (pfq n sz W f).1 ((pfq n sz W f).2 :: V) → Q none S') → sT X 3 202 0 [some (.ref 179), none, none] [] S (sE X 202 Q)
  | [], f, S, hv, hm, hq => by
    have h33 : SI S 179 33 = ((0 : Nat) : Int) := hm.1.1
    refine sL (pc' := 1) (i := .aload_n 0) rfl rfl ?_
    refine sGi (p := 4) rfl rfl (sk_179 _) rfl rfl rfl h33 ?_
    refine sIf_le (p := 7) rfl rfl ⟨by omega, by omega⟩ (fun c1 => ?_) (fun c1 => ?_)
    · have c1 := c1
      refine sEn (i := .return_) rfl (rfl) ?_
      exact hq S (frP_refl S) hm
    · exact absurd c1 (by decide)
  | (x, a) :: W, f, S, hv, hm, hq => by
    have e1 : ((x, a) :: W).length = W.length + 1 := rfl
    have e2 : (f :: V).length = V.length + 1 := rfl
    have h33 : SI S 179 33 = ((W.length + 1 : Nat) : Int) := hm.1.1
    have h30 : SI S 179 30 = ((V.length + 1 : Nat) : Int) := hm.1.2.1
    have hb1 : W.length + 1 ≤ 420 := hm.2.2.2.2.1
    have hb2 : V.length + 1 ≤ 220 := hm.2.2.2.2.2
    have hf : rowS S 192 (16 * V.length) f := hm.2.2.1.1
    have hw1 : SI S 193 W.length = x := hm.2.1.1
    have hw2 : SI S 194 W.length = a := hm.2.1.2.1
    have hok : x = 300 ∨ x = 303 ∨ x = 40 ∨ 0 < rk5 x ∨ ((x = 301 ∨ x = 302) ∧ 0 ≤ a ∧ a < n) := hm.2.2.2.1.1
    have hrb := rk5_b x
    by_cases q : 300 ≤ x
    · rw [pfq_p (e := (x, a)) q] at hq
      have hx : x = 300 ∨ x = 303 ∨ x = 301 ∨ x = 302 := by
        omega
      rcases hx with rfl | rfl | hx
      · have hae : aE n sz (300, a) f = (fun r => !f r && decide (r < pr sz n)) := (if_pos rfl).trans (ivt_not _ _)
        have h34 : SI S 179 34 = ((1 + dpW W : Nat) : Int) := hm.1.2.2
        refine sL (pc' := 1) (i := .aload_n 0) rfl rfl ?_
        refine sGi (p := 4) rfl rfl (sk_179 _) rfl rfl rfl h33 ?_
        refine sIf_le (p := 7) rfl rfl ⟨by omega, by omega⟩ (fun c1 => ?_) (fun c1 => ?_)
        · exfalso; omega
        · have c1 := c1
          refine sL (pc' := 8) (i := .aload_n 0) rfl rfl ?_
          refine sGc (p := 11) rfl rfl (sk_179 _) rfl rfl rfl ?_
          refine sL (pc' := 12) (i := .aload_n 0) rfl rfl ?_
          refine sGi (p := 15) rfl rfl (sk_179 _) rfl rfl rfl h33 ?_
          refine sKi (p := 16) rfl rfl ?_
          refine sSb (p := 17) rfl rfl ?_
          rw [show (((W.length + 1 : Nat) : Int) - 1) = ((W.length : Nat) : Int) from by omega]
          refine sAi (p := 18) (i := W.length) rfl rfl (sk_193 _) (by omega) ⟨by omega, by omega⟩ hw1 ?_
          refine sKs (p := 21) rfl rfl ?_
          refine sIc_lt (p := 24) rfl rfl ⟨by omega, by omega⟩ ⟨by omega, by omega⟩ (fun c2 => ?_) (fun c2 => ?_)
          · exact absurd c2 (by decide)
          · have c2 := c2
            refine sL (pc' := 25) (i := .aload_n 0) rfl rfl ?_
            refine sL (pc' := 26) (i := .dup) rfl rfl ?_
            refine sGi (p := 29) rfl rfl (sk_179 _) rfl rfl rfl h33 ?_
            refine sKi (p := 30) rfl rfl ?_
            refine sSb (p := 31) rfl rfl ?_
            rw [show (((W.length + 1 : Nat) : Int) - 1) = ((W.length : Nat) : Int) from by omega]
            refine sPi (z := ((W.length : Nat) : Int)) (p := 34) rfl rfl (sk_179 _) rfl rfl rfl rfl ?_
            refine sKb (p := 36) rfl rfl ?_
            refine sL (pc' := 37) (i := .aload_n 0) rfl rfl ?_
            refine sGi (p := 40) rfl rfl (sk_179 _) rfl rfl rfl ((rI_nj (by decide)).trans h30) ?_
            refine sKi (p := 41) rfl rfl ?_
            refine sSb (p := 42) rfl rfl ?_
            rw [show (((V.length + 1 : Nat) : Int) - 1) = ((V.length : Nat) : Int) from by omega]
            refine sMu (p := 43) rfl rfl ?_
            refine sL (pc' := 44) (i := .istore_n 1) (ls' := [some (.ref 179), some (.int (iI (16 * ((V.length : Nat) : Int)))), none]) rfl rfl ?_
            refine sL (pc' := 45) (i := .aload_n 0) rfl rfl ?_
            refine sGc (p := 48) rfl rfl (sk_179 _) rfl rfl rfl ?_
            refine sL (pc' := 49) (i := .aload_n 0) rfl rfl ?_
            refine sGi (p := 52) (z := ((W.length : Nat) : Int)) rfl rfl (sk_179 _) rfl rfl rfl rfl ?_
            refine sAi (p := 53) (i := W.length) rfl rfl (sk_193 _) (by omega) ⟨by omega, by omega⟩ ((rI_ne (by decide) _).trans hw1) ?_
            refine sKs (p := 56) rfl rfl ?_
            refine sIc_ne (p := 59) rfl rfl ⟨by omega, by omega⟩ ⟨by omega, by omega⟩ (fun c3 => ?_) (fun c3 => ?_)
            · exact absurd c3 (by decide)
            · have c3 := c3
              refine sKi (p := 60) rfl rfl ?_
              refine sL (pc' := 61) (i := .istore_n 2) (ls' := [some (.ref 179), some (.int (iI (16 * ((V.length : Nat) : Int)))), some (.int (iI 0))]) rfl rfl ?_
              refine sSh (T := (wKw (wI S 179 33 ((W.length : Nat) : Int)) 192 (16 * V.length) 0 (fun r => !f r))) (congrArg sH (wKw_0 _ _ _ _).symm) ?_
              refine sIt (A := fun i => [some (.ref 179), some (.int (iI (16 * ((V.length : Nat) : Int)))), some (.int (iI ((i : Nat) : Int)))]) (B := fun i => (wKw (wI S 179 33 ((W.length : Nat) : Int)) 192 (16 * V.length) i (fun r => !f r))) (fun _ => True) 16 True.intro (fun i hi61 hI61 ih61 => ?_) (fun hI61 => ?_)
              · have hi61 := hi61
                refine sL (pc' := 62) (i := .iload_n 2) rfl rfl ?_
                refine sKb (p := 64) rfl rfl ?_
                refine sIc_ge (p := 67) rfl rfl ⟨by omega, by omega⟩ ⟨by omega, by omega⟩ (fun c4 => ?_) (fun c4 => ?_)
                · exfalso; omega
                · have c4 := c4
                  refine sL (pc' := 68) (i := .aload_n 0) rfl rfl ?_
                  refine sGc (p := 71) rfl rfl (sk_179 _) rfl rfl rfl ?_
                  refine sL (pc' := 72) (i := .iload_n 1) rfl rfl ?_
                  refine sL (pc' := 73) (i := .iload_n 2) rfl rfl ?_
                  refine sAd (p := 74) rfl rfl ?_
                  refine sL (pc' := 75) (i := .aload_n 0) rfl rfl ?_
                  refine sGc (p := 78) rfl rfl (sk_179 _) rfl rfl rfl ?_
                  refine sL (pc' := 79) (i := .iload_n 1) rfl rfl ?_
                  refine sL (pc' := 80) (i := .iload_n 2) rfl rfl ?_
                  refine sAd (p := 81) rfl rfl ?_
                  refine sAl (p := 82) (i := (16 * V.length) + i) rfl rfl (sk_192 _) (by omega) ⟨by omega, by omega⟩ (wKw_ss hf hi61) ?_
                  refine sL (pc' := 85) (i := .ldc2_w 135) rfl rfl ?_
                  refine sL (pc' := 86) (i := .lxor) rfl rfl ?_
                  refine sWl (p := 87) (i := (16 * V.length) + i) rfl rfl (sk_192 _) (by omega) ⟨by omega, by omega⟩ ?_
                  refine sInX (z := ((i : Nat) : Int)) (ls' := [some (.ref 179), some (.int (iI (16 * ((V.length : Nat) : Int)))), some (.int (iI (((i : Nat) : Int) + 1)))]) (p := 90) rfl rfl (Nat.le_of_ble_eq_true rfl) rfl rfl ?_
                  refine sL (i := .goto (-29)) rfl rfl ?_
                  refine sRo (ls := [some (.ref 179), some (.int (iI (16 * ((V.length : Nat) : Int)))), some (.int (iI ((i + 1 : Nat) : Int)))]) (T := (wKw (wI S 179 33 ((W.length : Nat) : Int)) 192 (16 * V.length) (i + 1) (fun r => !f r))) (And.intro rfl (And.intro rfl (And.intro rfl (True.intro)))) (congrArg sH (wKw_s (by omega) (pkw_not _ _))) (ih61 ?_)
                  exact True.intro
              · have hI61 := hI61
                refine sL (pc' := 62) (i := .iload_n 2) rfl rfl ?_
                refine sKb (p := 64) rfl rfl ?_
                refine sIc_ge (p := 67) rfl rfl ⟨by omega, by omega⟩ ⟨by omega, by omega⟩ (fun c5 => ?_) (fun c5 => ?_)
                · have c5 := c5
                  refine sL (pc' := 94) (i := .aload_n 0) rfl rfl ?_
                  refine sL (pc' := 95) (i := .aload_n 0) rfl rfl ?_
                  refine sGc (p := 98) rfl rfl (sk_179 _) rfl rfl rfl ?_
                  refine sL (pc' := 99) (i := .iload_n 1) rfl rfl ?_
                  refine sCv (p := 102) (as := [_, _]) rfl rfl rfl rfl (by decide) (Nat.le_of_ble_eq_true rfl) rfl (Nat.le_of_ble_eq_true rfl) (sk_179 _) rfl (by omega) (m_trim (o := 16 * V.length) (vM_P hv (frP_trans (frP_w (k := 33) (Or.inr (Or.inl rfl))) (frP_r (Or.inr rfl)))) (sk_192 _) ⟨by omega, by omega⟩ (rowS_wRw (wI S 179 33 ((W.length : Nat) : Int)) 192 (16 * V.length) (fun r => !f r))) ?_
                  refine sL (pc' := 103) (i := .aload_n 0) rfl rfl ?_
                  refine sL (pc' := 104) (i := .dup) rfl rfl ?_
                  refine sGi (p := 107) rfl rfl (sk_179 _) rfl rfl rfl (show SI (wI S 179 33 ((W.length : Nat) : Int)) 179 34 = _ from (rI_nj (by decide)).trans h34) ?_
                  refine sKi (p := 108) rfl rfl ?_
                  refine sSb (p := 109) rfl rfl ?_
                  rw [show (((1 + dpW W : Nat) : Int) - 1) = ((dpW W : Nat) : Int) from by omega]
                  refine sPi (z := ((dpW W : Nat) : Int)) (p := 112) rfl rfl (sk_179 _) rfl rfl rfl rfl ?_
                  refine sL (i := .goto 97) rfl rfl ?_
                  refine sL (i := .goto (-209)) rfl rfl ?_
                  show sT X 3 202 0 _ [] (wI (wRw (wRw (wI S 179 33 ((W.length : Nat) : Int)) 192 (16 * V.length) (fun r => !f r)) 192 (16 * V.length) (fun r => !f r && decide (r < pr sz n))) 179 34 ((dpW W : Nat) : Int)) _
                  have k33 : SI (wRw (wRw (wI S 179 33 ((W.length : Nat) : Int)) 192 (16 * V.length) (fun r => !f r)) 192 (16 * V.length) (fun r => !f r && decide (r < pr sz n))) 179 33 = ((W.length : Nat) : Int) := (show SI (wI S 179 33 ((W.length : Nat) : Int)) 179 33 = _ from rI_at)
                  have k30 : SI (wRw (wRw (wI S 179 33 ((W.length : Nat) : Int)) 192 (16 * V.length) (fun r => !f r)) 192 (16 * V.length) (fun r => !f r && decide (r < pr sz n))) 179 30 = ((V.length + 1 : Nat) : Int) := (show SI (wI S 179 33 ((W.length : Nat) : Int)) 179 30 = _ from (rI_nj (by decide)).trans h30)
                  have k3 : SI (wRw (wRw (wI S 179 33 ((W.length : Nat) : Int)) 192 (16 * V.length) (fun r => !f r)) 192 (16 * V.length) (fun r => !f r && decide (r < pr sz n))) 193 = SI S 193 := rfl
                  have k4 : SI (wRw (wRw (wI S 179 33 ((W.length : Nat) : Int)) 192 (16 * V.length) (fun r => !f r)) 192 (16 * V.length) (fun r => !f r && decide (r < pr sz n))) 194 = SI S 194 := rfl
                  have kr : rowS (wRw (wRw (wI S 179 33 ((W.length : Nat) : Int)) 192 (16 * V.length) (fun r => !f r)) 192 (16 * V.length) (fun r => !f r && decide (r < pr sz n))) 192 (16 * V.length) (fun r => !f r && decide (r < pr sz n)) := rowS_wRw _ _ _ _
                  have kl : ∀ k, k < 16 * V.length → SL (wRw (wRw (wI S 179 33 ((W.length : Nat) : Int)) 192 (16 * V.length) (fun r => !f r)) 192 (16 * V.length) (fun r => !f r && decide (r < pr sz n))) 192 k = SL S 192 k := (fun k hk => (SL_wRw _ _ _ _ _ _).trans ((if_neg (by omega)).trans ((SL_wRw _ _ _ _ _ _).trans (if_neg (by omega)))))
                  have kp : frP S (wRw (wRw (wI S 179 33 ((W.length : Nat) : Int)) 192 (16 * V.length) (fun r => !f r)) 192 (16 * V.length) (fun r => !f r && decide (r < pr sz n))) := frP_trans (frP_trans (frP_w (Or.inr (Or.inl rfl))) (frP_r (Or.inr rfl))) (frP_r (Or.inr rfl))
                  generalize (wRw (wRw (wI S 179 33 ((W.length : Nat) : Int)) 192 (16 * V.length) (fun r => !f r)) 192 (16 * V.length) (fun r => !f r && decide (r < pr sz n))) = S2 at *
                  have kf : frP S (wI S2 179 34 ((dpW W : Nat) : Int)) := frP_trans kp (frP_w (Or.inr (Or.inr rfl)))
                  have km : mS n (wI S2 179 34 ((dpW W : Nat) : Int)) W ((fun r => !f r && decide (r < pr sz n)) :: V) := mS_top hm hm.2.1.2.2 hm.2.2.1.2 hm.2.2.2.1.2 (by rw [e1]; omega) hb2 ((rI_nj (by decide)).trans k33) ((rI_nj (by decide)).trans k30) rI_at ((show SI (wI S2 179 34 ((dpW W : Nat) : Int)) 193 = SI S2 193 from rfl).trans k3) ((show SI (wI S2 179 34 ((dpW W : Nat) : Int)) 194 = SI S2 194 from rfl).trans k4) kr kl
                  refine sFg (ls := [some (.ref 179), none, none]) (xx_ll_le (And.intro rfl (True.intro))) (pfq_hd (V := V) W (fun r => !f r && decide (r < pr sz n)) _ (vM_P hv kf) km ?_)
                  intro S' hf' hm'
                  refine hq S' (frP_trans kf hf') ?_
                  rw [hae]
                  exact hm'
                · exact absurd c5 (by decide)
      · have hae : aE n sz (303, a) f = f := rfl
        have h34 : SI S 179 34 = ((1 + dpW W : Nat) : Int) := hm.1.2.2
        refine sL (pc' := 1) (i := .aload_n 0) rfl rfl ?_
        refine sGi (p := 4) rfl rfl (sk_179 _) rfl rfl rfl h33 ?_
        refine sIf_le (p := 7) rfl rfl ⟨by omega, by omega⟩ (fun c1 => ?_) (fun c1 => ?_)
        · exfalso; omega
        · have c1 := c1
          refine sL (pc' := 8) (i := .aload_n 0) rfl rfl ?_
          refine sGc (p := 11) rfl rfl (sk_179 _) rfl rfl rfl ?_
          refine sL (pc' := 12) (i := .aload_n 0) rfl rfl ?_
          refine sGi (p := 15) rfl rfl (sk_179 _) rfl rfl rfl h33 ?_
          refine sKi (p := 16) rfl rfl ?_
          refine sSb (p := 17) rfl rfl ?_
          rw [show (((W.length + 1 : Nat) : Int) - 1) = ((W.length : Nat) : Int) from by omega]
          refine sAi (p := 18) (i := W.length) rfl rfl (sk_193 _) (by omega) ⟨by omega, by omega⟩ hw1 ?_
          refine sKs (p := 21) rfl rfl ?_
          refine sIc_lt (p := 24) rfl rfl ⟨by omega, by omega⟩ ⟨by omega, by omega⟩ (fun c2 => ?_) (fun c2 => ?_)
          · exact absurd c2 (by decide)
          · have c2 := c2
            refine sL (pc' := 25) (i := .aload_n 0) rfl rfl ?_
            refine sL (pc' := 26) (i := .dup) rfl rfl ?_
            refine sGi (p := 29) rfl rfl (sk_179 _) rfl rfl rfl h33 ?_
            refine sKi (p := 30) rfl rfl ?_
            refine sSb (p := 31) rfl rfl ?_
            rw [show (((W.length + 1 : Nat) : Int) - 1) = ((W.length : Nat) : Int) from by omega]
            refine sPi (z := ((W.length : Nat) : Int)) (p := 34) rfl rfl (sk_179 _) rfl rfl rfl rfl ?_
            refine sKb (p := 36) rfl rfl ?_
            refine sL (pc' := 37) (i := .aload_n 0) rfl rfl ?_
            refine sGi (p := 40) rfl rfl (sk_179 _) rfl rfl rfl ((rI_nj (by decide)).trans h30) ?_
            refine sKi (p := 41) rfl rfl ?_
            refine sSb (p := 42) rfl rfl ?_
            rw [show (((V.length + 1 : Nat) : Int) - 1) = ((V.length : Nat) : Int) from by omega]
            refine sMu (p := 43) rfl rfl ?_
            refine sL (pc' := 44) (i := .istore_n 1) (ls' := [some (.ref 179), some (.int (iI (16 * ((V.length : Nat) : Int)))), none]) rfl rfl ?_
            refine sL (pc' := 45) (i := .aload_n 0) rfl rfl ?_
            refine sGc (p := 48) rfl rfl (sk_179 _) rfl rfl rfl ?_
            refine sL (pc' := 49) (i := .aload_n 0) rfl rfl ?_
            refine sGi (p := 52) (z := ((W.length : Nat) : Int)) rfl rfl (sk_179 _) rfl rfl rfl rfl ?_
            refine sAi (p := 53) (i := W.length) rfl rfl (sk_193 _) (by omega) ⟨by omega, by omega⟩ ((rI_ne (by decide) _).trans hw1) ?_
            refine sKs (p := 56) rfl rfl ?_
            refine sIc_ne (p := 59) rfl rfl ⟨by omega, by omega⟩ ⟨by omega, by omega⟩ (fun c3 => ?_) (fun c3 => ?_)
            · have c3 := c3
              refine sL (pc' := 116) (i := .aload_n 0) rfl rfl ?_
              refine sGc (p := 119) rfl rfl (sk_179 _) rfl rfl rfl ?_
              refine sL (pc' := 120) (i := .aload_n 0) rfl rfl ?_
              refine sGi (p := 123) (z := ((W.length : Nat) : Int)) rfl rfl (sk_179 _) rfl rfl rfl rfl ?_
              refine sAi (p := 124) (i := W.length) rfl rfl (sk_193 _) (by omega) ⟨by omega, by omega⟩ ((rI_ne (by decide) _).trans hw1) ?_
              refine sKs (p := 127) rfl rfl ?_
              refine sIc_ne (p := 130) rfl rfl ⟨by omega, by omega⟩ ⟨by omega, by omega⟩ (fun c4 => ?_) (fun c4 => ?_)
              · exact absurd c4 (by decide)
              · have c4 := c4
                refine sL (pc' := 131) (i := .aload_n 0) rfl rfl ?_
                refine sL (pc' := 132) (i := .dup) rfl rfl ?_
                refine sGi (p := 135) rfl rfl (sk_179 _) rfl rfl rfl (show SI (wI S 179 33 ((W.length : Nat) : Int)) 179 34 = _ from (rI_nj (by decide)).trans h34) ?_
                refine sKi (p := 136) rfl rfl ?_
                refine sSb (p := 137) rfl rfl ?_
                rw [show (((1 + dpW W : Nat) : Int) - 1) = ((dpW W : Nat) : Int) from by omega]
                refine sPi (z := ((dpW W : Nat) : Int)) (p := 140) rfl rfl (sk_179 _) rfl rfl rfl rfl ?_
                refine sL (i := .goto 69) rfl rfl ?_
                refine sL (i := .goto (-209)) rfl rfl ?_
                show sT X 3 202 0 _ [] (wI (wI S 179 33 ((W.length : Nat) : Int)) 179 34 ((dpW W : Nat) : Int)) _
                have k33 : SI (wI S 179 33 ((W.length : Nat) : Int)) 179 33 = ((W.length : Nat) : Int) := (show SI (wI S 179 33 ((W.length : Nat) : Int)) 179 33 = _ from rI_at)
                have k30 : SI (wI S 179 33 ((W.length : Nat) : Int)) 179 30 = ((V.length + 1 : Nat) : Int) := (show SI (wI S 179 33 ((W.length : Nat) : Int)) 179 30 = _ from (rI_nj (by decide)).trans h30)
                have k3 : SI (wI S 179 33 ((W.length : Nat) : Int)) 193 = SI S 193 := rfl
                have k4 : SI (wI S 179 33 ((W.length : Nat) : Int)) 194 = SI S 194 := rfl
                have kr : rowS (wI S 179 33 ((W.length : Nat) : Int)) 192 (16 * V.length) f := hf
                have kl : ∀ k, k < 16 * V.length → SL (wI S 179 33 ((W.length : Nat) : Int)) 192 k = SL S 192 k := fun k hk => rfl
                have kp : frP S (wI S 179 33 ((W.length : Nat) : Int)) := frP_w (Or.inr (Or.inl rfl))
                generalize (wI S 179 33 ((W.length : Nat) : Int)) = S2 at *
                have kf : frP S (wI S2 179 34 ((dpW W : Nat) : Int)) := frP_trans kp (frP_w (Or.inr (Or.inr rfl)))
                have km : mS n (wI S2 179 34 ((dpW W : Nat) : Int)) W (f :: V) := mS_top hm hm.2.1.2.2 hm.2.2.1.2 hm.2.2.2.1.2 (by rw [e1]; omega) hb2 ((rI_nj (by decide)).trans k33) ((rI_nj (by decide)).trans k30) rI_at ((show SI (wI S2 179 34 ((dpW W : Nat) : Int)) 193 = SI S2 193 from rfl).trans k3) ((show SI (wI S2 179 34 ((dpW W : Nat) : Int)) 194 = SI S2 194 from rfl).trans k4) kr kl
                refine sFg (ls := [some (.ref 179), none, none]) (xx_ll_le (And.intro rfl (True.intro))) (pfq_hd (V := V) W f _ (vM_P hv kf) km ?_)
                intro S' hf' hm'
                refine hq S' (frP_trans kf hf') ?_
                rw [hae]
                exact hm'
            · exact absurd c3 (by decide)
      · obtain ⟨v, rfl⟩ : ∃ v : Nat, a = ((v : Nat) : Int) := by
          exact ⟨a.toNat, by omega⟩
        have hvn : v < n := by omega
        rcases hx with rfl | rfl
        · have hae : aE n sz (301, ((v : Nat) : Int)) f = (cut (pr sz n) (qnt sz false f v)) := rfl
          have h34 : SI S 179 34 = ((dpW W : Nat) : Int) := hm.1.2.2.trans (congrArg (fun z : Nat => ((z : Nat) : Int)) (Nat.zero_add _))
          refine sL (pc' := 1) (i := .aload_n 0) rfl rfl ?_
          refine sGi (p := 4) rfl rfl (sk_179 _) rfl rfl rfl h33 ?_
          refine sIf_le (p := 7) rfl rfl ⟨by omega, by omega⟩ (fun c1 => ?_) (fun c1 => ?_)
          · exfalso; omega
          · have c1 := c1
            refine sL (pc' := 8) (i := .aload_n 0) rfl rfl ?_
            refine sGc (p := 11) rfl rfl (sk_179 _) rfl rfl rfl ?_
            refine sL (pc' := 12) (i := .aload_n 0) rfl rfl ?_
            refine sGi (p := 15) rfl rfl (sk_179 _) rfl rfl rfl h33 ?_
            refine sKi (p := 16) rfl rfl ?_
            refine sSb (p := 17) rfl rfl ?_
            rw [show (((W.length + 1 : Nat) : Int) - 1) = ((W.length : Nat) : Int) from by omega]
            refine sAi (p := 18) (i := W.length) rfl rfl (sk_193 _) (by omega) ⟨by omega, by omega⟩ hw1 ?_
            refine sKs (p := 21) rfl rfl ?_
            refine sIc_lt (p := 24) rfl rfl ⟨by omega, by omega⟩ ⟨by omega, by omega⟩ (fun c2 => ?_) (fun c2 => ?_)
            · exact absurd c2 (by decide)
            · have c2 := c2
              refine sL (pc' := 25) (i := .aload_n 0) rfl rfl ?_
              refine sL (pc' := 26) (i := .dup) rfl rfl ?_
              refine sGi (p := 29) rfl rfl (sk_179 _) rfl rfl rfl h33 ?_
              refine sKi (p := 30) rfl rfl ?_
              refine sSb (p := 31) rfl rfl ?_
              rw [show (((W.length + 1 : Nat) : Int) - 1) = ((W.length : Nat) : Int) from by omega]
              refine sPi (z := ((W.length : Nat) : Int)) (p := 34) rfl rfl (sk_179 _) rfl rfl rfl rfl ?_
              refine sKb (p := 36) rfl rfl ?_
              refine sL (pc' := 37) (i := .aload_n 0) rfl rfl ?_
              refine sGi (p := 40) rfl rfl (sk_179 _) rfl rfl rfl ((rI_nj (by decide)).trans h30) ?_
              refine sKi (p := 41) rfl rfl ?_
              refine sSb (p := 42) rfl rfl ?_
              rw [show (((V.length + 1 : Nat) : Int) - 1) = ((V.length : Nat) : Int) from by omega]
              refine sMu (p := 43) rfl rfl ?_
              refine sL (pc' := 44) (i := .istore_n 1) (ls' := [some (.ref 179), some (.int (iI (16 * ((V.length : Nat) : Int)))), none]) rfl rfl ?_
              refine sL (pc' := 45) (i := .aload_n 0) rfl rfl ?_
              refine sGc (p := 48) rfl rfl (sk_179 _) rfl rfl rfl ?_
              refine sL (pc' := 49) (i := .aload_n 0) rfl rfl ?_
              refine sGi (p := 52) (z := ((W.length : Nat) : Int)) rfl rfl (sk_179 _) rfl rfl rfl rfl ?_
              refine sAi (p := 53) (i := W.length) rfl rfl (sk_193 _) (by omega) ⟨by omega, by omega⟩ ((rI_ne (by decide) _).trans hw1) ?_
              refine sKs (p := 56) rfl rfl ?_
              refine sIc_ne (p := 59) rfl rfl ⟨by omega, by omega⟩ ⟨by omega, by omega⟩ (fun c3 => ?_) (fun c3 => ?_)
              · have c3 := c3
                refine sL (pc' := 116) (i := .aload_n 0) rfl rfl ?_
                refine sGc (p := 119) rfl rfl (sk_179 _) rfl rfl rfl ?_
                refine sL (pc' := 120) (i := .aload_n 0) rfl rfl ?_
                refine sGi (p := 123) (z := ((W.length : Nat) : Int)) rfl rfl (sk_179 _) rfl rfl rfl rfl ?_
                refine sAi (p := 124) (i := W.length) rfl rfl (sk_193 _) (by omega) ⟨by omega, by omega⟩ ((rI_ne (by decide) _).trans hw1) ?_
                refine sKs (p := 127) rfl rfl ?_
                refine sIc_ne (p := 130) rfl rfl ⟨by omega, by omega⟩ ⟨by omega, by omega⟩ (fun c4 => ?_) (fun c4 => ?_)
                · have c4 := c4
                  refine sL (pc' := 144) (i := .aload_n 0) rfl rfl ?_
                  refine sL (pc' := 145) (i := .aload_n 0) rfl rfl ?_
                  refine sGc (p := 148) rfl rfl (sk_179 _) rfl rfl rfl ?_
                  refine sL (pc' := 149) (i := .iload_n 1) rfl rfl ?_
                  refine sL (pc' := 150) (i := .aload_n 0) rfl rfl ?_
                  refine sGc (p := 153) rfl rfl (sk_179 _) rfl rfl rfl ?_
                  refine sL (pc' := 154) (i := .aload_n 0) rfl rfl ?_
                  refine sGi (p := 157) (z := ((W.length : Nat) : Int)) rfl rfl (sk_179 _) rfl rfl rfl rfl ?_
                  refine sAi (p := 158) (i := W.length) rfl rfl (sk_194 _) (by omega) ⟨by omega, by omega⟩ ((rI_ne (by decide) _).trans hw2) ?_
                  refine sL (pc' := 159) (i := .aload_n 0) rfl rfl ?_
                  refine sGc (p := 162) rfl rfl (sk_179 _) rfl rfl rfl ?_
                  refine sL (pc' := 163) (i := .aload_n 0) rfl rfl ?_
                  refine sGi (p := 166) (z := ((W.length : Nat) : Int)) rfl rfl (sk_179 _) rfl rfl rfl rfl ?_
                  refine sAi (p := 167) (i := W.length) rfl rfl (sk_193 _) (by omega) ⟨by omega, by omega⟩ ((rI_ne (by decide) _).trans hw1) ?_
                  refine sKs (p := 170) rfl rfl ?_
                  refine sIc_ne (p := 173) rfl rfl ⟨by omega, by omega⟩ ⟨by omega, by omega⟩ (fun c5 => ?_) (fun c5 => ?_)
                  · have c5 := c5
                    refine sKi (p := 178) rfl rfl ?_
                    refine sCv (p := 181) (as := [_, _, _, _]) rfl rfl rfl rfl (by decide) (Nat.le_of_ble_eq_true rfl) rfl (Nat.le_of_ble_eq_true rfl) (sk_179 _) rfl (by omega) (m_quantified (o := 16 * V.length) (v := v) (all := false) (vM_P hv (frP_w (k := 33) (Or.inr (Or.inl rfl)))) (sk_192 _) ⟨by omega, by omega⟩ (by decide) hf hvn) ?_
                    refine sKi (p := 182) rfl rfl ?_
                    refine sL (pc' := 183) (i := .istore_n 2) (ls' := [some (.ref 179), some (.int (iI (16 * ((V.length : Nat) : Int)))), some (.int (iI 0))]) rfl rfl ?_
                    refine sSh (T := (wKw (wRw (wI S 179 33 ((W.length : Nat) : Int)) 186 0 (cut (pr sz n) (qnt sz false f v))) 192 (16 * V.length) 0 (cut (pr sz n) (qnt sz false f v)))) (congrArg sH (wKw_0 _ _ _ _).symm) ?_
                    refine sIt (A := fun i => [some (.ref 179), some (.int (iI (16 * ((V.length : Nat) : Int)))), some (.int (iI ((i : Nat) : Int)))]) (B := fun i => (wKw (wRw (wI S 179 33 ((W.length : Nat) : Int)) 186 0 (cut (pr sz n) (qnt sz false f v))) 192 (16 * V.length) i (cut (pr sz n) (qnt sz false f v)))) (fun _ => True) 16 True.intro (fun i hi183 hI183 ih183 => ?_) (fun hI183 => ?_)
                    · have hi183 := hi183
                      refine sL (pc' := 184) (i := .iload_n 2) rfl rfl ?_
                      refine sKb (p := 186) rfl rfl ?_
                      refine sIc_ge (p := 189) rfl rfl ⟨by omega, by omega⟩ ⟨by omega, by omega⟩ (fun c6 => ?_) (fun c6 => ?_)
                      · exfalso; omega
                      · have c6 := c6
                        refine sL (pc' := 190) (i := .aload_n 0) rfl rfl ?_
                        refine sGc (p := 193) rfl rfl (sk_179 _) rfl rfl rfl ?_
                        refine sL (pc' := 194) (i := .iload_n 1) rfl rfl ?_
                        refine sL (pc' := 195) (i := .iload_n 2) rfl rfl ?_
                        refine sAd (p := 196) rfl rfl ?_
                        refine sL (pc' := 197) (i := .aload_n 0) rfl rfl ?_
                        refine sGc (p := 200) rfl rfl (sk_179 _) rfl rfl rfl ?_
                        refine sL (pc' := 201) (i := .iload_n 2) rfl rfl ?_
                        refine sAl (p := 202) (i := i) rfl rfl (sk_186 _) (by omega) ⟨by omega, by omega⟩ (wKw_o (by decide) (rowS_wRw (wI S 179 33 ((W.length : Nat) : Int)) 186 0 (cut (pr sz n) (qnt sz false f v))) hi183) ?_
                        refine sWl (p := 203) (i := (16 * V.length) + i) rfl rfl (sk_192 _) (by omega) ⟨by omega, by omega⟩ ?_
                        refine sInX (z := ((i : Nat) : Int)) (ls' := [some (.ref 179), some (.int (iI (16 * ((V.length : Nat) : Int)))), some (.int (iI (((i : Nat) : Int) + 1)))]) (p := 206) rfl rfl (Nat.le_of_ble_eq_true rfl) rfl rfl ?_
                        refine sL (i := .goto (-23)) rfl rfl ?_
                        refine sRo (ls := [some (.ref 179), some (.int (iI (16 * ((V.length : Nat) : Int)))), some (.int (iI ((i + 1 : Nat) : Int)))]) (T := (wKw (wRw (wI S 179 33 ((W.length : Nat) : Int)) 186 0 (cut (pr sz n) (qnt sz false f v))) 192 (16 * V.length) (i + 1) (cut (pr sz n) (qnt sz false f v)))) (And.intro rfl (And.intro rfl (And.intro rfl (True.intro)))) (congrArg sH (wKw_s (by omega) rfl)) (ih183 ?_)
                        exact True.intro
                    · have hI183 := hI183
                      refine sL (pc' := 184) (i := .iload_n 2) rfl rfl ?_
                      refine sKb (p := 186) rfl rfl ?_
                      refine sIc_ge (p := 189) rfl rfl ⟨by omega, by omega⟩ ⟨by omega, by omega⟩ (fun c7 => ?_) (fun c7 => ?_)
                      · have c7 := c7
                        refine sL (i := .goto (-209)) rfl rfl ?_
                        show sT X 3 202 0 _ [] (wRw (wRw (wI S 179 33 ((W.length : Nat) : Int)) 186 0 (cut (pr sz n) (qnt sz false f v))) 192 (16 * V.length) (cut (pr sz n) (qnt sz false f v))) _
                        have k33 : SI (wRw (wRw (wI S 179 33 ((W.length : Nat) : Int)) 186 0 (cut (pr sz n) (qnt sz false f v))) 192 (16 * V.length) (cut (pr sz n) (qnt sz false f v))) 179 33 = ((W.length : Nat) : Int) := (show SI (wI S 179 33 ((W.length : Nat) : Int)) 179 33 = _ from rI_at)
                        have k30 : SI (wRw (wRw (wI S 179 33 ((W.length : Nat) : Int)) 186 0 (cut (pr sz n) (qnt sz false f v))) 192 (16 * V.length) (cut (pr sz n) (qnt sz false f v))) 179 30 = ((V.length + 1 : Nat) : Int) := (show SI (wI S 179 33 ((W.length : Nat) : Int)) 179 30 = _ from (rI_nj (by decide)).trans h30)
                        have k3 : SI (wRw (wRw (wI S 179 33 ((W.length : Nat) : Int)) 186 0 (cut (pr sz n) (qnt sz false f v))) 192 (16 * V.length) (cut (pr sz n) (qnt sz false f v))) 193 = SI S 193 := rfl
                        have k4 : SI (wRw (wRw (wI S 179 33 ((W.length : Nat) : Int)) 186 0 (cut (pr sz n) (qnt sz false f v))) 192 (16 * V.length) (cut (pr sz n) (qnt sz false f v))) 194 = SI S 194 := rfl
                        have kr : rowS (wRw (wRw (wI S 179 33 ((W.length : Nat) : Int)) 186 0 (cut (pr sz n) (qnt sz false f v))) 192 (16 * V.length) (cut (pr sz n) (qnt sz false f v))) 192 (16 * V.length) (cut (pr sz n) (qnt sz false f v)) := rowS_wRw _ _ _ _
                        have kl : ∀ k, k < 16 * V.length → SL (wRw (wRw (wI S 179 33 ((W.length : Nat) : Int)) 186 0 (cut (pr sz n) (qnt sz false f v))) 192 (16 * V.length) (cut (pr sz n) (qnt sz false f v))) 192 k = SL S 192 k := (fun k hk => (SL_wRw _ _ _ _ _ _).trans ((if_neg (by omega)).trans ((SL_wRw _ _ _ _ _ _).trans (if_neg (by omega)))))
                        have kp : frP S (wRw (wRw (wI S 179 33 ((W.length : Nat) : Int)) 186 0 (cut (pr sz n) (qnt sz false f v))) 192 (16 * V.length) (cut (pr sz n) (qnt sz false f v))) := frP_trans (frP_trans (frP_w (Or.inr (Or.inl rfl))) (frP_r (Or.inl rfl))) (frP_r (Or.inr rfl))
                        have k34 : SI (wRw (wRw (wI S 179 33 ((W.length : Nat) : Int)) 186 0 (cut (pr sz n) (qnt sz false f v))) 192 (16 * V.length) (cut (pr sz n) (qnt sz false f v))) 179 34 = ((dpW W : Nat) : Int) := (show SI (wI S 179 33 ((W.length : Nat) : Int)) 179 34 = _ from (rI_nj (by decide)).trans h34)
                        generalize (wRw (wRw (wI S 179 33 ((W.length : Nat) : Int)) 186 0 (cut (pr sz n) (qnt sz false f v))) 192 (16 * V.length) (cut (pr sz n) (qnt sz false f v))) = S2 at *
                        have kf : frP S S2 := kp
                        have km : mS n S2 W ((cut (pr sz n) (qnt sz false f v)) :: V) := mS_top hm hm.2.1.2.2 hm.2.2.1.2 hm.2.2.2.1.2 (by rw [e1]; omega) hb2 k33 k30 k34 k3 k4 kr kl
                        refine sFg (ls := [some (.ref 179), none, none]) (xx_ll_le (And.intro rfl (True.intro))) (pfq_hd (V := V) W (cut (pr sz n) (qnt sz false f v)) _ (vM_P hv kf) km ?_)
                        intro S' hf' hm'
                        refine hq S' (frP_trans kf hf') ?_
                        rw [hae]
                        exact hm'
                      · exact absurd c7 (by decide)
                  · exact absurd c5 (by decide)
                · exact absurd c4 (by decide)
              · exact absurd c3 (by decide)
        · have hae : aE n sz (302, ((v : Nat) : Int)) f = (cut (pr sz n) (qnt sz true f v)) := rfl
          have h34 : SI S 179 34 = ((dpW W : Nat) : Int) := hm.1.2.2.trans (congrArg (fun z : Nat => ((z : Nat) : Int)) (Nat.zero_add _))
          refine sL (pc' := 1) (i := .aload_n 0) rfl rfl ?_
          refine sGi (p := 4) rfl rfl (sk_179 _) rfl rfl rfl h33 ?_
          refine sIf_le (p := 7) rfl rfl ⟨by omega, by omega⟩ (fun c1 => ?_) (fun c1 => ?_)
          · exfalso; omega
          · have c1 := c1
            refine sL (pc' := 8) (i := .aload_n 0) rfl rfl ?_
            refine sGc (p := 11) rfl rfl (sk_179 _) rfl rfl rfl ?_
            refine sL (pc' := 12) (i := .aload_n 0) rfl rfl ?_
            refine sGi (p := 15) rfl rfl (sk_179 _) rfl rfl rfl h33 ?_
            refine sKi (p := 16) rfl rfl ?_
            refine sSb (p := 17) rfl rfl ?_
            rw [show (((W.length + 1 : Nat) : Int) - 1) = ((W.length : Nat) : Int) from by omega]
            refine sAi (p := 18) (i := W.length) rfl rfl (sk_193 _) (by omega) ⟨by omega, by omega⟩ hw1 ?_
            refine sKs (p := 21) rfl rfl ?_
            refine sIc_lt (p := 24) rfl rfl ⟨by omega, by omega⟩ ⟨by omega, by omega⟩ (fun c2 => ?_) (fun c2 => ?_)
            · exact absurd c2 (by decide)
            · have c2 := c2
              refine sL (pc' := 25) (i := .aload_n 0) rfl rfl ?_
              refine sL (pc' := 26) (i := .dup) rfl rfl ?_
              refine sGi (p := 29) rfl rfl (sk_179 _) rfl rfl rfl h33 ?_
              refine sKi (p := 30) rfl rfl ?_
              refine sSb (p := 31) rfl rfl ?_
              rw [show (((W.length + 1 : Nat) : Int) - 1) = ((W.length : Nat) : Int) from by omega]
              refine sPi (z := ((W.length : Nat) : Int)) (p := 34) rfl rfl (sk_179 _) rfl rfl rfl rfl ?_
              refine sKb (p := 36) rfl rfl ?_
              refine sL (pc' := 37) (i := .aload_n 0) rfl rfl ?_
              refine sGi (p := 40) rfl rfl (sk_179 _) rfl rfl rfl ((rI_nj (by decide)).trans h30) ?_
              refine sKi (p := 41) rfl rfl ?_
              refine sSb (p := 42) rfl rfl ?_
              rw [show (((V.length + 1 : Nat) : Int) - 1) = ((V.length : Nat) : Int) from by omega]
              refine sMu (p := 43) rfl rfl ?_
              refine sL (pc' := 44) (i := .istore_n 1) (ls' := [some (.ref 179), some (.int (iI (16 * ((V.length : Nat) : Int)))), none]) rfl rfl ?_
              refine sL (pc' := 45) (i := .aload_n 0) rfl rfl ?_
              refine sGc (p := 48) rfl rfl (sk_179 _) rfl rfl rfl ?_
              refine sL (pc' := 49) (i := .aload_n 0) rfl rfl ?_
              refine sGi (p := 52) (z := ((W.length : Nat) : Int)) rfl rfl (sk_179 _) rfl rfl rfl rfl ?_
              refine sAi (p := 53) (i := W.length) rfl rfl (sk_193 _) (by omega) ⟨by omega, by omega⟩ ((rI_ne (by decide) _).trans hw1) ?_
              refine sKs (p := 56) rfl rfl ?_
              refine sIc_ne (p := 59) rfl rfl ⟨by omega, by omega⟩ ⟨by omega, by omega⟩ (fun c3 => ?_) (fun c3 => ?_)
              · have c3 := c3
                refine sL (pc' := 116) (i := .aload_n 0) rfl rfl ?_
                refine sGc (p := 119) rfl rfl (sk_179 _) rfl rfl rfl ?_
                refine sL (pc' := 120) (i := .aload_n 0) rfl rfl ?_
                refine sGi (p := 123) (z := ((W.length : Nat) : Int)) rfl rfl (sk_179 _) rfl rfl rfl rfl ?_
                refine sAi (p := 124) (i := W.length) rfl rfl (sk_193 _) (by omega) ⟨by omega, by omega⟩ ((rI_ne (by decide) _).trans hw1) ?_
                refine sKs (p := 127) rfl rfl ?_
                refine sIc_ne (p := 130) rfl rfl ⟨by omega, by omega⟩ ⟨by omega, by omega⟩ (fun c4 => ?_) (fun c4 => ?_)
                · have c4 := c4
                  refine sL (pc' := 144) (i := .aload_n 0) rfl rfl ?_
                  refine sL (pc' := 145) (i := .aload_n 0) rfl rfl ?_
                  refine sGc (p := 148) rfl rfl (sk_179 _) rfl rfl rfl ?_
                  refine sL (pc' := 149) (i := .iload_n 1) rfl rfl ?_
                  refine sL (pc' := 150) (i := .aload_n 0) rfl rfl ?_
                  refine sGc (p := 153) rfl rfl (sk_179 _) rfl rfl rfl ?_
                  refine sL (pc' := 154) (i := .aload_n 0) rfl rfl ?_
                  refine sGi (p := 157) (z := ((W.length : Nat) : Int)) rfl rfl (sk_179 _) rfl rfl rfl rfl ?_
                  refine sAi (p := 158) (i := W.length) rfl rfl (sk_194 _) (by omega) ⟨by omega, by omega⟩ ((rI_ne (by decide) _).trans hw2) ?_
                  refine sL (pc' := 159) (i := .aload_n 0) rfl rfl ?_
                  refine sGc (p := 162) rfl rfl (sk_179 _) rfl rfl rfl ?_
                  refine sL (pc' := 163) (i := .aload_n 0) rfl rfl ?_
                  refine sGi (p := 166) (z := ((W.length : Nat) : Int)) rfl rfl (sk_179 _) rfl rfl rfl rfl ?_
                  refine sAi (p := 167) (i := W.length) rfl rfl (sk_193 _) (by omega) ⟨by omega, by omega⟩ ((rI_ne (by decide) _).trans hw1) ?_
                  refine sKs (p := 170) rfl rfl ?_
                  refine sIc_ne (p := 173) rfl rfl ⟨by omega, by omega⟩ ⟨by omega, by omega⟩ (fun c5 => ?_) (fun c5 => ?_)
                  · exact absurd c5 (by decide)
                  · have c5 := c5
                    refine sKi (p := 174) rfl rfl ?_
                    refine sL (i := .goto 4) rfl rfl ?_
                    refine sCv (p := 181) (as := [_, _, _, _]) rfl rfl rfl rfl (by decide) (Nat.le_of_ble_eq_true rfl) rfl (Nat.le_of_ble_eq_true rfl) (sk_179 _) rfl (by omega) (m_quantified (o := 16 * V.length) (v := v) (all := true) (vM_P hv (frP_w (k := 33) (Or.inr (Or.inl rfl)))) (sk_192 _) ⟨by omega, by omega⟩ (by decide) hf hvn) ?_
                    refine sKi (p := 182) rfl rfl ?_
                    refine sL (pc' := 183) (i := .istore_n 2) (ls' := [some (.ref 179), some (.int (iI (16 * ((V.length : Nat) : Int)))), some (.int (iI 0))]) rfl rfl ?_
                    refine sSh (T := (wKw (wRw (wI S 179 33 ((W.length : Nat) : Int)) 186 0 (cut (pr sz n) (qnt sz true f v))) 192 (16 * V.length) 0 (cut (pr sz n) (qnt sz true f v)))) (congrArg sH (wKw_0 _ _ _ _).symm) ?_
                    refine sIt (A := fun i => [some (.ref 179), some (.int (iI (16 * ((V.length : Nat) : Int)))), some (.int (iI ((i : Nat) : Int)))]) (B := fun i => (wKw (wRw (wI S 179 33 ((W.length : Nat) : Int)) 186 0 (cut (pr sz n) (qnt sz true f v))) 192 (16 * V.length) i (cut (pr sz n) (qnt sz true f v)))) (fun _ => True) 16 True.intro (fun i hi183 hI183 ih183 => ?_) (fun hI183 => ?_)
                    · have hi183 := hi183
                      refine sL (pc' := 184) (i := .iload_n 2) rfl rfl ?_
                      refine sKb (p := 186) rfl rfl ?_
                      refine sIc_ge (p := 189) rfl rfl ⟨by omega, by omega⟩ ⟨by omega, by omega⟩ (fun c6 => ?_) (fun c6 => ?_)
                      · exfalso; omega
                      · have c6 := c6
                        refine sL (pc' := 190) (i := .aload_n 0) rfl rfl ?_
                        refine sGc (p := 193) rfl rfl (sk_179 _) rfl rfl rfl ?_
                        refine sL (pc' := 194) (i := .iload_n 1) rfl rfl ?_
                        refine sL (pc' := 195) (i := .iload_n 2) rfl rfl ?_
                        refine sAd (p := 196) rfl rfl ?_
                        refine sL (pc' := 197) (i := .aload_n 0) rfl rfl ?_
                        refine sGc (p := 200) rfl rfl (sk_179 _) rfl rfl rfl ?_
                        refine sL (pc' := 201) (i := .iload_n 2) rfl rfl ?_
                        refine sAl (p := 202) (i := i) rfl rfl (sk_186 _) (by omega) ⟨by omega, by omega⟩ (wKw_o (by decide) (rowS_wRw (wI S 179 33 ((W.length : Nat) : Int)) 186 0 (cut (pr sz n) (qnt sz true f v))) hi183) ?_
                        refine sWl (p := 203) (i := (16 * V.length) + i) rfl rfl (sk_192 _) (by omega) ⟨by omega, by omega⟩ ?_
                        refine sInX (z := ((i : Nat) : Int)) (ls' := [some (.ref 179), some (.int (iI (16 * ((V.length : Nat) : Int)))), some (.int (iI (((i : Nat) : Int) + 1)))]) (p := 206) rfl rfl (Nat.le_of_ble_eq_true rfl) rfl rfl ?_
                        refine sL (i := .goto (-23)) rfl rfl ?_
                        refine sRo (ls := [some (.ref 179), some (.int (iI (16 * ((V.length : Nat) : Int)))), some (.int (iI ((i + 1 : Nat) : Int)))]) (T := (wKw (wRw (wI S 179 33 ((W.length : Nat) : Int)) 186 0 (cut (pr sz n) (qnt sz true f v))) 192 (16 * V.length) (i + 1) (cut (pr sz n) (qnt sz true f v)))) (And.intro rfl (And.intro rfl (And.intro rfl (True.intro)))) (congrArg sH (wKw_s (by omega) rfl)) (ih183 ?_)
                        exact True.intro
                    · have hI183 := hI183
                      refine sL (pc' := 184) (i := .iload_n 2) rfl rfl ?_
                      refine sKb (p := 186) rfl rfl ?_
                      refine sIc_ge (p := 189) rfl rfl ⟨by omega, by omega⟩ ⟨by omega, by omega⟩ (fun c7 => ?_) (fun c7 => ?_)
                      · have c7 := c7
                        refine sL (i := .goto (-209)) rfl rfl ?_
                        show sT X 3 202 0 _ [] (wRw (wRw (wI S 179 33 ((W.length : Nat) : Int)) 186 0 (cut (pr sz n) (qnt sz true f v))) 192 (16 * V.length) (cut (pr sz n) (qnt sz true f v))) _
                        have k33 : SI (wRw (wRw (wI S 179 33 ((W.length : Nat) : Int)) 186 0 (cut (pr sz n) (qnt sz true f v))) 192 (16 * V.length) (cut (pr sz n) (qnt sz true f v))) 179 33 = ((W.length : Nat) : Int) := (show SI (wI S 179 33 ((W.length : Nat) : Int)) 179 33 = _ from rI_at)
                        have k30 : SI (wRw (wRw (wI S 179 33 ((W.length : Nat) : Int)) 186 0 (cut (pr sz n) (qnt sz true f v))) 192 (16 * V.length) (cut (pr sz n) (qnt sz true f v))) 179 30 = ((V.length + 1 : Nat) : Int) := (show SI (wI S 179 33 ((W.length : Nat) : Int)) 179 30 = _ from (rI_nj (by decide)).trans h30)
                        have k3 : SI (wRw (wRw (wI S 179 33 ((W.length : Nat) : Int)) 186 0 (cut (pr sz n) (qnt sz true f v))) 192 (16 * V.length) (cut (pr sz n) (qnt sz true f v))) 193 = SI S 193 := rfl
                        have k4 : SI (wRw (wRw (wI S 179 33 ((W.length : Nat) : Int)) 186 0 (cut (pr sz n) (qnt sz true f v))) 192 (16 * V.length) (cut (pr sz n) (qnt sz true f v))) 194 = SI S 194 := rfl
                        have kr : rowS (wRw (wRw (wI S 179 33 ((W.length : Nat) : Int)) 186 0 (cut (pr sz n) (qnt sz true f v))) 192 (16 * V.length) (cut (pr sz n) (qnt sz true f v))) 192 (16 * V.length) (cut (pr sz n) (qnt sz true f v)) := rowS_wRw _ _ _ _
                        have kl : ∀ k, k < 16 * V.length → SL (wRw (wRw (wI S 179 33 ((W.length : Nat) : Int)) 186 0 (cut (pr sz n) (qnt sz true f v))) 192 (16 * V.length) (cut (pr sz n) (qnt sz true f v))) 192 k = SL S 192 k := (fun k hk => (SL_wRw _ _ _ _ _ _).trans ((if_neg (by omega)).trans ((SL_wRw _ _ _ _ _ _).trans (if_neg (by omega)))))
                        have kp : frP S (wRw (wRw (wI S 179 33 ((W.length : Nat) : Int)) 186 0 (cut (pr sz n) (qnt sz true f v))) 192 (16 * V.length) (cut (pr sz n) (qnt sz true f v))) := frP_trans (frP_trans (frP_w (Or.inr (Or.inl rfl))) (frP_r (Or.inl rfl))) (frP_r (Or.inr rfl))
                        have k34 : SI (wRw (wRw (wI S 179 33 ((W.length : Nat) : Int)) 186 0 (cut (pr sz n) (qnt sz true f v))) 192 (16 * V.length) (cut (pr sz n) (qnt sz true f v))) 179 34 = ((dpW W : Nat) : Int) := (show SI (wI S 179 33 ((W.length : Nat) : Int)) 179 34 = _ from (rI_nj (by decide)).trans h34)
                        generalize (wRw (wRw (wI S 179 33 ((W.length : Nat) : Int)) 186 0 (cut (pr sz n) (qnt sz true f v))) 192 (16 * V.length) (cut (pr sz n) (qnt sz true f v))) = S2 at *
                        have kf : frP S S2 := kp
                        have km : mS n S2 W ((cut (pr sz n) (qnt sz true f v)) :: V) := mS_top hm hm.2.1.2.2 hm.2.2.1.2 hm.2.2.2.1.2 (by rw [e1]; omega) hb2 k33 k30 k34 k3 k4 kr kl
                        refine sFg (ls := [some (.ref 179), none, none]) (xx_ll_le (And.intro rfl (True.intro))) (pfq_hd (V := V) W (cut (pr sz n) (qnt sz true f v)) _ (vM_P hv kf) km ?_)
                        intro S' hf' hm'
                        refine hq S' (frP_trans kf hf') ?_
                        rw [hae]
                        exact hm'
                      · exact absurd c7 (by decide)
                · exact absurd c4 (by decide)
              · exact absurd c3 (by decide)
    · rw [pfq_n (e := (x, a)) q] at hq
      have hxb : 0 ≤ x := by
        omega
      refine sL (pc' := 1) (i := .aload_n 0) rfl rfl ?_
      refine sGi (p := 4) rfl rfl (sk_179 _) rfl rfl rfl h33 ?_
      refine sIf_le (p := 7) rfl rfl ⟨by omega, by omega⟩ (fun c1 => ?_) (fun c1 => ?_)
      · exfalso; omega
      · have c1 := c1
        refine sL (pc' := 8) (i := .aload_n 0) rfl rfl ?_
        refine sGc (p := 11) rfl rfl (sk_179 _) rfl rfl rfl ?_
        refine sL (pc' := 12) (i := .aload_n 0) rfl rfl ?_
        refine sGi (p := 15) rfl rfl (sk_179 _) rfl rfl rfl h33 ?_
        refine sKi (p := 16) rfl rfl ?_
        refine sSb (p := 17) rfl rfl ?_
        rw [show (((W.length + 1 : Nat) : Int) - 1) = ((W.length : Nat) : Int) from by omega]
        refine sAi (p := 18) (i := W.length) rfl rfl (sk_193 _) (by omega) ⟨by omega, by omega⟩ hw1 ?_
        refine sKs (p := 21) rfl rfl ?_
        refine sIc_lt (p := 24) rfl rfl ⟨by omega, by omega⟩ ⟨by omega, by omega⟩ (fun c2 => ?_) (fun c2 => ?_)
        · have c2 := c2
          refine sEn (i := .return_) rfl (rfl) ?_
          exact hq S (frP_refl S) hm
        · exfalso; omega
theorem m_prefixes {S : ST} {W : List (Int × Int)} {f : Nat → Bool} {V : List (Nat → Bool)} (hv : vM S n sz) (hm : mS n S W (f :: V)) : sM X 3 202 [.ref 179] S (fun r S' => r = none ∧ frP S S' ∧ mS n S' (pfq n sz W f).1 ((pfq n sz W f).2 :: V)) :=
  sIni (ls := [some (.ref 179), none, none]) rfl (pfq_hd W f S hv hm (fun S' h1 h2 => ⟨rfl, h1, h2⟩))
end MZ
