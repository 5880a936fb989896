/-! ===== the reference's reading: reduce ===== -/
def opc (c : Int) : Nat := if c = 38 then 0 else if c = 124 then 1 else if c = 94 then 2 else if c = 200 then 3 else 4
def jnT (T op : Nat) (f g : Nat → Bool) : Nat → Bool := fun r => jn op (f r) (g r) && decide (r < T)
def rdc (T : Nat) (L : Int) : List (Int × Int) → List (Nat → Bool) → List (Int × Int) × List (Nat → Bool)
  | [], V => ([], V)
  | e :: W, V => if L ≤ rk5 e.1 then (match V with
    | g :: f :: V' => rdc T L W (jnT T (opc e.1) f g :: V')
    | V' => (e :: W, V')) else (e :: W, V)
theorem rdc_nil {T : Nat} {L : Int} {V : List (Nat → Bool)} : rdc T L [] V = ([], V) := rfl
theorem rdc_p {T : Nat} {L : Int} {e : Int × Int} {W : List (Int × Int)} {f g : Nat → Bool} {V : List (Nat → Bool)} (h : L ≤ rk5 e.1) : rdc T L (e :: W) (g :: f :: V) = rdc T L W (jnT T (opc e.1) f g :: V) := if_pos h
theorem rdc_n {T : Nat} {L : Int} {e : Int × Int} {W : List (Int × Int)} {V : List (Nat → Bool)} (h : ¬ L ≤ rk5 e.1) : rdc T L (e :: W) V = (e :: W, V) := if_neg h
section NA
variable {X : List Int32} {n : Nat} {sz : Nat → Nat}
theorem m_joinTop {S : ST} {c : Int} {q : Nat} {f g : Nat → Bool} (hc : 0 < rk5 c) (hv : vM S n sz) (ht : SI S 179 30 = ((q + 2 : Nat) : Int)) (hq : q + 2 ≤ 220) (hf : rowS S 192 (16 * q) f) (hg : rowS S 192 (16 * q + 16) g) : sM X 1 201 [.ref 179, .int (iI c)] S (sV none (wI (wRw S 192 (16 * q) (jnT (pr sz n) (opc c) f g)) 179 30 ((q + 1 : Nat) : Int))) := by
  rcases (rk5_b c).2.2 hc with rfl | rfl | rfl | rfl | rfl
  · exact m_joinTop_201 hv ht hq hf hg
  · exact m_joinTop_200 hv ht hq hf hg
  · exact m_joinTop_124 hv ht hq hf hg
  · exact m_joinTop_94 hv ht hq hf hg
  · exact m_joinTop_38 hv ht hq hf hg
theorem rdc_hd {L : Int} (hL : 1 ≤ L ∧ L ≤ 6) {Q : Option Value → ST → Prop} : ∀ (W : List (Int × Int)) (V : List (Nat → Bool)) (S : ST), vM S n sz → mS n S W V → bnW W + 1 = V.length → (∀ S', frP S S' → mS n S' (rdc (pr sz n) L W V).1 (rdc (pr sz n) L W V).2 → Q none S') → sT X 2 203 0 [some (.ref 179), some (.int (iI L))] [] S (sE X 203 Q)
  | [], V, S, hv, hm, hn, hq => by
    have h33 : SI S 179 33 = ((0 : Nat) : Int) := hm.1.1
    refine sL (pc' := 1) (i := .aload_n 0) rfl rfl ?_
    refine sGi (p := 4) rfl rfl (sk_179 _) rfl rfl rfl h33 ?_
    refine sIf_le (p := 7) rfl rfl ⟨by omega, by omega⟩ (fun c1 => ?_) (fun c1 => ?_)
    · have c1 := c1
      refine sEn (i := .return_) rfl (rfl) ?_
      exact hq S (frP_refl S) hm
    · exact absurd c1 (by decide)
  | (x, a) :: W, V, S, hv, hm, hn, hq => by
    have e1 : ((x, a) :: W).length = W.length + 1 := rfl
    have h33 : SI S 179 33 = ((W.length + 1 : Nat) : Int) := hm.1.1
    have hb1 : W.length + 1 ≤ 420 := hm.2.2.2.2.1
    have hw1 : SI S 193 W.length = x := hm.2.1.1
    have hok : x = 300 ∨ x = 303 ∨ x = 40 ∨ 0 < rk5 x ∨ ((x = 301 ∨ x = 302) ∧ 0 ≤ a ∧ a < n) := hm.2.2.2.1.1
    have hrb := rk5_b x
    have hx : rg x := ⟨by omega, by omega⟩
    by_cases q : L ≤ rk5 x
    · have hn' : 1 + bnW W + 1 = V.length := by
        rw [← hn]
        show _ = (if 0 < rk5 x then 1 else 0) + bnW W + 1
        rw [if_pos (by omega)]
      have hdp : dpW ((x, a) :: W) = dpW W := by
        show (if x = 300 ∨ x = 303 ∨ x = 40 then 1 else 0) + dpW W = dpW W
        rw [if_neg (by omega), Nat.zero_add]
      match V, hm, hn', hq with
      | [], _, h, _ => exact absurd h (by intro z; have : 1 + bnW W + 1 = 0 := z; omega)
      | [_], _, h, _ => exact absurd h (by intro z; have : 1 + bnW W + 1 = 1 := z; omega)
      | g :: f :: V, hm, hn', hq => 
        rw [rdc_p (e := (x, a)) q] at hq
        have hn2 : 1 + bnW W + 1 = V.length + 2 := hn'
        have h30 : SI S 179 30 = ((V.length + 2 : Nat) : Int) := hm.1.2.1
        have hb2 : V.length + 2 ≤ 220 := hm.2.2.2.2.2
        have hf : rowS S 192 (16 * V.length) f := hm.2.2.1.2.1
        have hg : rowS S 192 (16 * V.length + 16) g := hm.2.2.1.1
        refine sL (pc' := 1) (i := .aload_n 0) rfl rfl ?_
        refine sGi (p := 4) rfl rfl (sk_179 _) rfl rfl rfl h33 ?_
        refine sIf_le (p := 7) rfl rfl ⟨by omega, by omega⟩ (fun c1 => ?_) (fun c1 => ?_)
        · exfalso; omega
        · have c1 := c1
          refine sL (pc' := 8) (i := .aload_n 0) rfl rfl ?_
          refine sGc (p := 11) rfl rfl (sk_179 _) rfl rfl rfl ?_
          refine sL (pc' := 12) (i := .aload_n 0) rfl rfl ?_
          refine sGi (p := 15) rfl rfl (sk_179 _) rfl rfl rfl h33 ?_
          refine sKi (p := 16) rfl rfl ?_
          refine sSb (p := 17) rfl rfl ?_
          rw [show (((W.length + 1 : Nat) : Int) - 1) = ((W.length : Nat) : Int) from by omega]
          refine sAi (p := 18) (i := W.length) rfl rfl (sk_193 _) (by omega) ⟨by omega, by omega⟩ hw1 ?_
          refine sCs (p := 21) (as := [_]) rfl rfl rfl rfl (by decide) (Nat.le_of_ble_eq_true rfl) rfl (Nat.le_of_ble_eq_true rfl) rfl (by omega) (m_rank hx) ?_
          refine sL (pc' := 22) (i := .iload_n 1) rfl rfl ?_
          refine sIc_lt (p := 25) rfl rfl ⟨by omega, by omega⟩ ⟨by omega, by omega⟩ (fun c2 => ?_) (fun c2 => ?_)
          · exfalso; omega
          · have c2 := c2
            refine sL (pc' := 26) (i := .aload_n 0) rfl rfl ?_
            refine sL (pc' := 27) (i := .dup) rfl rfl ?_
            refine sGi (p := 30) rfl rfl (sk_179 _) rfl rfl rfl h33 ?_
            refine sKi (p := 31) rfl rfl ?_
            refine sSb (p := 32) rfl rfl ?_
            rw [show (((W.length + 1 : Nat) : Int) - 1) = ((W.length : Nat) : Int) from by omega]
            refine sPi (z := ((W.length : Nat) : Int)) (p := 35) rfl rfl (sk_179 _) rfl rfl rfl rfl ?_
            refine sL (pc' := 36) (i := .aload_n 0) rfl rfl ?_
            refine sL (pc' := 37) (i := .aload_n 0) rfl rfl ?_
            refine sGc (p := 40) rfl rfl (sk_179 _) rfl rfl rfl ?_
            refine sL (pc' := 41) (i := .aload_n 0) rfl rfl ?_
            refine sGi (p := 44) (z := ((W.length : Nat) : Int)) rfl rfl (sk_179 _) rfl rfl rfl rfl ?_
            refine sAi (p := 45) (i := W.length) rfl rfl (sk_193 _) (by omega) ⟨by omega, by omega⟩ ((rI_ne (by decide) _).trans hw1) ?_
            refine sCv (p := 48) (as := [_]) rfl rfl rfl rfl (by decide) (Nat.le_of_ble_eq_true rfl) rfl (Nat.le_of_ble_eq_true rfl) (sk_179 _) rfl (by omega) (m_joinTop (q := V.length) (by omega) (vM_P hv (frP_w (k := 33) (Or.inr (Or.inl rfl)))) ((rI_nj (by decide)).trans h30) hb2 hf hg) ?_
            refine sL (i := .goto (-48)) rfl rfl ?_
            refine rdc_hd hL W (jnT (pr sz n) (opc x) f g :: V) _ ?_ ?_ ?_ ?_
            · exact vM_P hv (frP_trans (frP_trans (frP_w (k := 33) (Or.inr (Or.inl rfl))) (frP_r (a := 192) (o := 16 * V.length) (Or.inr rfl))) (frP_w (k := 30) (Or.inl rfl)))
            · exact mS_top hm hm.2.1.2.2 hm.2.2.1.2.2 hm.2.2.2.1.2 (by rw [e1]; omega) (by omega) ((rI_nj (by decide)).trans (show SI (wI S 179 33 ((W.length : Nat) : Int)) 179 33 = _ from rI_at)) rI_at ((rI_nj (by decide)).trans (show SI (wI S 179 33 ((W.length : Nat) : Int)) 179 34 = _ from (rI_nj (by decide)).trans (hm.1.2.2.trans (congrArg (fun z : Nat => ((z : Nat) : Int)) hdp)))) rfl rfl (rowS_wRw _ _ _ _) (fun k hk => (SL_wRw _ _ _ _ _ _).trans (if_neg (by omega)))
            · show bnW W + 1 = V.length + 1
              omega
            · intro S' hf' hm'
              exact hq S' (frP_trans (frP_trans (frP_trans (frP_w (k := 33) (Or.inr (Or.inl rfl))) (frP_r (a := 192) (o := 16 * V.length) (Or.inr rfl))) (frP_w (k := 30) (Or.inl rfl))) hf') hm'
    · rw [rdc_n (e := (x, a)) q] at hq
      refine sL (pc' := 1) (i := .aload_n 0) rfl rfl ?_
      refine sGi (p := 4) rfl rfl (sk_179 _) rfl rfl rfl h33 ?_
      refine sIf_le (p := 7) rfl rfl ⟨by omega, by omega⟩ (fun c1 => ?_) (fun c1 => ?_)
      · exfalso; omega
      · have c1 := c1
        refine sL (pc' := 8) (i := .aload_n 0) rfl rfl ?_
        refine sGc (p := 11) rfl rfl (sk_179 _) rfl rfl rfl ?_
        refine sL (pc' := 12) (i := .aload_n 0) rfl rfl ?_
        refine sGi (p := 15) rfl rfl (sk_179 _) rfl rfl rfl h33 ?_
        refine sKi (p := 16) rfl rfl ?_
        refine sSb (p := 17) rfl rfl ?_
        rw [show (((W.length + 1 : Nat) : Int) - 1) = ((W.length : Nat) : Int) from by omega]
        refine sAi (p := 18) (i := W.length) rfl rfl (sk_193 _) (by omega) ⟨by omega, by omega⟩ hw1 ?_
        refine sCs (p := 21) (as := [_]) rfl rfl rfl rfl (by decide) (Nat.le_of_ble_eq_true rfl) rfl (Nat.le_of_ble_eq_true rfl) rfl (by omega) (m_rank hx) ?_
        refine sL (pc' := 22) (i := .iload_n 1) rfl rfl ?_
        refine sIc_lt (p := 25) rfl rfl ⟨by omega, by omega⟩ ⟨by omega, by omega⟩ (fun c2 => ?_) (fun c2 => ?_)
        · have c2 := c2
          refine sEn (i := .return_) rfl (rfl) ?_
          exact hq S (frP_refl S) hm
        · exfalso; omega
theorem m_reduce {S : ST} {L : Int} {W : List (Int × Int)} {V : List (Nat → Bool)} (hL : 1 ≤ L ∧ L ≤ 6) (hv : vM S n sz) (hm : mS n S W V) (hn : bnW W + 1 = V.length) : sM X 2 203 [.ref 179, .int (iI L)] S (fun r S' => r = none ∧ frP S S' ∧ mS n S' (rdc (pr sz n) L W V).1 (rdc (pr sz n) L W V).2) :=
  sIni (ls := [some (.ref 179), some (.int (iI L))]) rfl (rdc_hd hL W V S hv hm hn (fun S' h1 h2 => ⟨rfl, h1, h2⟩))
/-- what reduce keeps -/
theorem rdc_ok {T : Nat} {L : Int} (hL : 1 ≤ L) : ∀ (W : List (Int × Int)) (V : List (Nat → Bool)), bnW W + 1 = V.length → bnW (rdc T L W V).1 + 1 = (rdc T L W V).2.length ∧ (rdc T L W V).1.length ≤ W.length ∧ (rdc T L W V).2.length ≤ V.length ∧ (okW n W → okW n (rdc T L W V).1) ∧ dpW (rdc T L W V).1 = dpW W
  | [], V, h => ⟨h, Nat.le_refl _, Nat.le_refl _, fun z => z, rfl⟩
  | (x, a) :: W, V, h => by
    by_cases q : L ≤ rk5 x
    · have h' : 1 + bnW W + 1 = V.length := by
        rw [← h]
        show _ = (if 0 < rk5 x then 1 else 0) + bnW W + 1
        rw [if_pos (by omega)]
      have hdp : dpW ((x, a) :: W) = dpW W := by
        have := (rk5_b x).2.2 (by omega)
        show (if x = 300 ∨ x = 303 ∨ x = 40 then 1 else 0) + dpW W = dpW W
        rw [if_neg (by omega), Nat.zero_add]
      match V, h' with
      | [], z => exact absurd z (by intro z; have : 1 + bnW W + 1 = 0 := z; omega)
      | [_], z => exact absurd z (by intro z; have : 1 + bnW W + 1 = 1 := z; omega)
      | g :: f :: V, z =>
        have z2 : 1 + bnW W + 1 = V.length + 2 := z
        rw [rdc_p (e := (x, a)) q]
        have ih := rdc_ok (T := T) hL W (jnT T (opc x) f g :: V) (by show bnW W + 1 = V.length + 1; omega)
        refine ⟨ih.1, Nat.le_succ_of_le ih.2.1, ?_, fun z => ih.2.2.2.1 z.2, ih.2.2.2.2.trans hdp.symm⟩
        have i3 := ih.2.2.1
        have e3 : (jnT T (opc x) f g :: V).length = V.length + 1 := rfl
        have e4 : (g :: f :: V).length = V.length + 2 := rfl
        show (rdc T L W (jnT T (opc x) f g :: V)).2.length ≤ _
        omega
    · rw [rdc_n (e := (x, a)) q]
      exact ⟨h, Nat.le_refl _, Nat.le_refl _, fun z => z, rfl⟩
theorem pfq_ok : ∀ (W : List (Int × Int)) (f : Nat → Bool), bnW (pfq n sz W f).1 = bnW W ∧ (pfq n sz W f).1.length ≤ W.length ∧ (okW n W → okW n (pfq n sz W f).1)
  | [], f => ⟨rfl, Nat.le_refl _, fun z => z⟩
  | (x, a) :: W, f => by
    by_cases q : 300 ≤ x
    · rw [pfq_p (e := (x, a)) q]
      have ih := pfq_ok W (aE n sz (x, a) f)
      refine ⟨?_, Nat.le_succ_of_le ih.2.1, fun z => ih.2.2 z.2⟩
      rw [ih.1]
      have hb := rk5_b x
      show _ = (if 0 < rk5 x then 1 else 0) + bnW W
      rw [if_neg (by omega), Nat.zero_add]
    · rw [pfq_n (e := (x, a)) q]
      exact ⟨rfl, Nat.le_refl _, fun z => z⟩
end NA
