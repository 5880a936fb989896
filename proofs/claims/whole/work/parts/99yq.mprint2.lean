/-! ===== the reference: print, printed ===== -/
section MQ
variable {n c : Nat} {sz ord pl : Nat → Nat} {F L : Nat → Nat → Bool} {g : Nat → Bool}
theorem lv_sum1 (hw : wf n sz) (ho : prm n ord pl) {t : Nat → Nat} (h1 : ∀ p, p < n → t p ≤ 1 * PP sz ord p) (h2 : ∀ p, p < n → t p ≤ 2 ^ QQ n sz ord (n - p)) : ∀ p, p < n → sumN t (p + 1) ≤ 380 ∧ (12 ≤ QQ n sz ord (n - p) → sumN t (p + 1) ≤ 2 * PP sz ord p) ∧ (6 ≤ QQ n sz ord (n - p) → sumN t (p + 1) ≤ 342) ∧ (3 ≤ QQ n sz ord (n - p) → sumN t (p + 1) ≤ 374)
  | 0, hp => by
    have e : sumN t (0 + 1) = t 0 := Nat.zero_add _
    have a1 := h1 0 hp
    have a2 : PP sz ord 0 = 1 := rfl
    rw [e, a2]
    rw [a2] at a1
    omega
  | p + 1, hp => by
    obtain ⟨b0, b1, b2, b3⟩ := lv_sum1 hw ho h1 h2 p (by omega)
    have e : sumN t (p + 1 + 1) = sumN t (p + 1) + t (p + 1) := rfl
    have a1 := h1 (p + 1) hp
    have a2 := h2 (p + 1) hp
    have a3 := PP_2 hw ho (p := p) (by omega)
    have a4 := QQ_2 hw ho (p := p) (by omega)
    have a5 := PQ_le hw ho (p := p) (by omega)
    have a6 := QQ_2 hw ho (p := p + 1) hp
    have a7 := QQ_pos hw ho (k := n - (p + 1 + 1)) (by omega)
    have a8 := PQ_le hw ho (p := p + 1) (by omega)
    rw [e]
    generalize hq : QQ n sz ord (n - (p + 1)) = q at *
    generalize hQ : QQ n sz ord (n - p) = Q at *
    generalize hP : PP sz ord p = P at *
    generalize hPn : PP sz ord (p + 1) = P' at *
    have c12 : 12 ≤ Q → P ≤ 85 := fun z => by
      have : P * 12 ≤ P * Q := Nat.mul_le_mul_left _ z
      omega
    have c6 : 6 ≤ q → P' ≤ 170 := fun z => by
      have : P' * 6 ≤ P' * q := Nat.mul_le_mul_left _ z
      omega
    have p5 : q ≤ 5 → 2 ^ q ≤ 32 := fun z => Nat.pow_le_pow_right (n := 2) (by omega) z
    have p2 : q ≤ 2 → 2 ^ q ≤ 4 := fun z => Nat.pow_le_pow_right (n := 2) (by omega) z
    generalize 2 ^ q = W at *
    by_cases k12 : 12 ≤ q
    · have := c12 (by omega)
      have := b1 (by omega)
      have : P' * 12 ≤ P' * q := Nat.mul_le_mul_left _ k12
      omega
    · by_cases k6 : 6 ≤ q
      · have := c12 (by omega)
        have := b1 (by omega)
        have := c6 k6
        omega
      · have w5 := p5 (by omega)
        by_cases k3 : 3 ≤ q
        · have := b2 (by omega)
          omega
        · have w2 := p2 (by omega)
          have := b3 (by omega)
          omega
theorem LS1_le (hw : wf n sz) (ho : prm n ord pl) (h : LSt n sz ord 1 F c L) : c ≤ 380 := by
  have hs := cnt_sum (m := n) (fun j => fpl n sz ord (L j)) (c := c) (fun j hj => fpl_lt hw ho (h.1 j hj).1 (h.1 j hj).2.1)
  by_cases hn : n = 0
  · subst hn
    have : sumN (fun p => cntB (fun j => decide (fpl 0 sz ord (L j) = p)) c) 0 = 0 := rfl
    omega
  · obtain ⟨k, rfl⟩ : ∃ k, n = k + 1 := ⟨n - 1, by omega⟩
    have := (lv_sum1 hw ho (t := fun p => cntB (fun j => decide (fpl (k + 1) sz ord (L j) = p)) c) (fun p hp => LS_a hw ho h hp) (fun p hp => LS_b hw ho h hp) k (by omega)).1
    omega
theorem NF_380 (hw : wf n sz) (ho : prm n ord pl) (ht : tbT (pr sz n) g) : NF n sz ord g ≤ 380 ∧ ∀ j, j < NF n sz ord g → prV n sz ord g j < n := by
  have h := (NF_ok (F := fun _ => g) (m := 1) (f0 := 0) hw ho (by decide) (by decide) ht).2.2
  refine ⟨LS1_le hw ho h, fun j hj => ?_⟩
  have h1 := h.1 j hj
  exact (ho.1 _ (fpl_lt hw ho h1.1 h1.2.1)).1
theorem cdN_b {T N : Nat} {q : Nat → Bool} : 0 ≤ cdN T N L q ∧ cdN T N L q ≤ ((N + 2 : Nat) : Int) := by
  have h := (fbF_ok (fun i => eqW (L i) q) N 0).1
  unfold cdN
  split
  · rename_i z
    unfold lfv at z ⊢
    split
    · omega
    · split
      · omega
      · rename_i z1 z2
        rw [if_neg z1, if_neg z2] at z
        exact absurd rfl z
  · omega
end MQ
section MR
variable {X : List Int32} {S : ST} {L : List Nat} {b n fn : Nat} {sz ord pl : Nat → Nat} {Fn : Nat → Nat → Bool}
theorem pr_nd {Q : Option Value → ST → Prop} {j vj f0 : Nat} {l : Int} {cd : Nat → Nat} (hv : vM S n sz) (h : tbM S L b) (hb : b + 33 ≤ 20000) (hj : j < 600) (hvj : SI S 196 j = ((vj : Nat) : Int)) (hvn : vj < n) (hcd : ∀ k, k < sz vj → SI S 197 (j * 6 + k) = ((cd k : Nat) : Int)) (hcb : ∀ k, k < sz vj → cd k < 1000)
  (hq : ∀ S', frI S S' → tbM S' (L ++ ndT j vj cd (sz vj)) (b + 33) → sT X 2 243 50 [some (.ref 179), some (.int (iI ((f0 : Nat) : Int))), some (.int (iI l)), some (.int (iI ((j + 1 : Nat) : Int))), none] [] S' (sE X 243 Q)) :
  sT X 2 243 58 [some (.ref 179), some (.int (iI ((f0 : Nat) : Int))), some (.int (iI l)), some (.int (iI ((j : Nat) : Int))), none] [] S (sE X 243 Q) := by
  have hsv := hv.1.2.1 vj hvn
  have hn10 := hv.1.1
  obtain ⟨S0, hS0⟩ : ∃ S0, S0 = S := ⟨_, rfl⟩
  refine sL (pc' := 59) (i := .iload_n 3) rfl rfl ?_
  refine sIf_le (p := 62) rfl rfl ⟨by omega, by omega⟩ (fun c1 => ?_) (fun c1 => ?_)
  · have c1 := c1
    refine sL (pc' := 69) (i := .aload_n 0) rfl rfl ?_
    refine sL (pc' := 70) (i := .iload_n 3) rfl rfl ?_
    refine sKi (p := 71) rfl rfl ?_
    refine sAd (p := 72) rfl rfl ?_
    refine sCvQ (p := 75) (as := [_]) rfl rfl rfl rfl (by decide) (Nat.le_of_ble_eq_true rfl) rfl (Nat.le_of_ble_eq_true rfl) (sk_179 _) rfl (by omega) (m_putNumber (v := j + 2) (by omega) h (by omega)) ?_
    rintro _ P1 ⟨rfl, t1, f1⟩
    have g1 := frI_trans (frI_refl S) f1
    refine sL (pc' := 76) (i := .aload_n 0) rfl rfl ?_
    refine sKb (p := 78) rfl rfl ?_
    refine sCvQ (p := 81) (as := [_]) rfl rfl rfl rfl (by decide) (Nat.le_of_ble_eq_true rfl) rfl (Nat.le_of_ble_eq_true rfl) (sk_179 _) rfl (by omega) (m_put (c := 58) (by omega) t1 (by omega)) ?_
    rintro _ P2 ⟨rfl, t2, f2⟩
    have g2 := frI_trans g1 f2
    refine sL (pc' := 82) (i := .aload_n 0) rfl rfl ?_
    refine sL (pc' := 83) (i := .aload_n 0) rfl rfl ?_
    refine sGc (p := 86) rfl rfl (sk_179 _) rfl rfl rfl ?_
    refine sL (pc' := 87) (i := .iload_n 3) rfl rfl ?_
    refine sAi (p := 88) (i := j) rfl rfl (sk_196 _) (by omega) ⟨by omega, by omega⟩ ((congrFun (g2.2.2.2.1 196 (by decide) (by decide)) _).trans hvj) ?_
    refine sCvQ (p := 91) (as := [_]) rfl rfl rfl rfl (by decide) (Nat.le_of_ble_eq_true rfl) rfl (Nat.le_of_ble_eq_true rfl) (sk_179 _) rfl (by omega) (m_putNumber (v := vj) (by omega) t2 (by omega)) ?_
    rintro _ P3 ⟨rfl, t3, f3⟩
    have g3 := frI_trans g2 f3
    refine sKi (p := 92) rfl rfl ?_
    refine sL (pc' := 94) (i := .istore 4) (ls' := [some (.ref 179), some (.int (iI ((f0 : Nat) : Int))), some (.int (iI l)), some (.int (iI ((j : Nat) : Int))), some (.int (iI 0))]) rfl rfl ?_
    refine sItR (A := fun k => [some (.ref 179), some (.int (iI ((f0 : Nat) : Int))), some (.int (iI l)), some (.int (iI ((j : Nat) : Int))), some (.int (iI ((k : Nat) : Int)))]) (fun k S => tbM S ((L ++ dgt (j + 2) ++ [58] ++ dgt vj) ++ kdT cd k) ((b + 3 + 1 + 3) + 4 * k) ∧ frI S0 S) (sz vj) (⟨by rw [show kdT cd 0 = [] from rfl, List.append_nil]; exact ⟨t3.1, t3.2.1, Nat.le_trans t3.2.2 (by omega)⟩, by rw [hS0]; exact g3⟩) (fun k hi94 Sk hJ94 ih94 => ?_) (fun Skf hJ94 => ?_)
    · have hi94 := hi94
      rw [hS0] at hJ94
      refine sL (pc' := 96) (i := .iload 4) rfl rfl ?_
      refine sL (pc' := 97) (i := .aload_n 0) rfl rfl ?_
      refine sGc (p := 100) rfl rfl (sk_179 _) rfl rfl rfl ?_
      refine sL (pc' := 101) (i := .aload_n 0) rfl rfl ?_
      refine sGc (p := 104) rfl rfl (sk_179 _) rfl rfl rfl ?_
      refine sL (pc' := 105) (i := .iload_n 3) rfl rfl ?_
      refine sAi (p := 106) (i := j) rfl rfl (sk_196 _) (by omega) ⟨by omega, by omega⟩ ((congrFun (hJ94.2.2.2.2.1 196 (by decide) (by decide)) _).trans hvj) ?_
      refine sAi (p := 107) (i := vj) rfl rfl (sk_180 _) (by omega) ⟨by omega, by omega⟩ ((congrFun (hJ94.2.2.2.2.1 180 (by decide) (by decide)) _).trans (hv.2.2.2.1 vj hvn)) ?_
      refine sIc_ge (p := 110) rfl rfl ⟨by omega, by omega⟩ ⟨by omega, by omega⟩ (fun c2 => ?_) (fun c2 => ?_)
      · exfalso; omega
      · have c2 := c2
        refine sL (pc' := 111) (i := .aload_n 0) rfl rfl ?_
        refine sL (pc' := 113) (i := .iload 4) rfl rfl ?_
        refine sIf_ne (p := 116) rfl rfl ⟨by omega, by omega⟩ (fun c3 => ?_) (fun c3 => ?_)
        · have c3 := c3
          refine sKb (p := 123) rfl rfl ?_
          refine sCvQ (p := 126) (as := [_]) rfl rfl rfl rfl (by decide) (Nat.le_of_ble_eq_true rfl) rfl (Nat.le_of_ble_eq_true rfl) (sk_179 _) rfl (by omega) (m_put (c := 44) (by omega) hJ94.1 (by omega)) ?_
          rintro _ P4 ⟨rfl, t4, f4⟩
          have g4 := frI_trans hJ94.2 f4
          refine sL (pc' := 127) (i := .aload_n 0) rfl rfl ?_
          refine sL (pc' := 128) (i := .aload_n 0) rfl rfl ?_
          refine sGc (p := 131) rfl rfl (sk_179 _) rfl rfl rfl ?_
          refine sKb (p := 133) rfl rfl ?_
          refine sL (pc' := 134) (i := .iload_n 3) rfl rfl ?_
          refine sMu (p := 135) rfl rfl ?_
          refine sL (pc' := 137) (i := .iload 4) rfl rfl ?_
          refine sAd (p := 138) rfl rfl ?_
          refine sAi (p := 139) (i := j * 6 + k) rfl rfl (sk_197 _) (by omega) ⟨by omega, by omega⟩ ((congrFun (g4.2.2.2.1 197 (by decide) (by decide)) _).trans (hcd k hi94)) ?_
          refine sCvQ (p := 142) (as := [_]) rfl rfl rfl rfl (by decide) (Nat.le_of_ble_eq_true rfl) rfl (Nat.le_of_ble_eq_true rfl) (sk_179 _) rfl (by omega) (m_putNumber (v := cd k) (hcb k hi94) t4 (by omega)) ?_
          rintro _ P5 ⟨rfl, t5, f5⟩
          have g5 := frI_trans g4 f5
          refine sInX (z := ((k : Nat) : Int)) (ls' := [some (.ref 179), some (.int (iI ((f0 : Nat) : Int))), some (.int (iI l)), some (.int (iI ((j : Nat) : Int))), some (.int (iI (((k : Nat) : Int) + 1)))]) (p := 145) rfl rfl (Nat.le_of_ble_eq_true rfl) rfl rfl ?_
          refine sL (i := .goto (-51)) rfl rfl ?_
          refine sFg (ls := [some (.ref 179), some (.int (iI ((f0 : Nat) : Int))), some (.int (iI l)), some (.int (iI ((j : Nat) : Int))), some (.int (iI ((k + 1 : Nat) : Int)))]) (xx_ll_le (And.intro rfl (And.intro rfl (And.intro rfl (And.intro rfl (And.intro rfl (True.intro))))))) (ih94 _ ?_)
          have tt := t5
          have gg := g5
          refine ⟨⟨?_, ?_, ?_⟩, by rw [hS0]; exact gg⟩
          · rw [show kdT cd (k + 1) = kdT cd k ++ [if k = 0 then 40 else 44] ++ dgt (cd k) from rfl, if_neg (by omega), ← List.append_assoc, ← List.append_assoc]
            exact tt.1
          · rw [show kdT cd (k + 1) = kdT cd k ++ [if k = 0 then 40 else 44] ++ dgt (cd k) from rfl, if_neg (by omega), ← List.append_assoc, ← List.append_assoc]
            exact tt.2.1
          · rw [show kdT cd (k + 1) = kdT cd k ++ [if k = 0 then 40 else 44] ++ dgt (cd k) from rfl, if_neg (by omega), ← List.append_assoc, ← List.append_assoc]
            exact Nat.le_trans tt.2.2 (by omega)
        · have c3 := c3
          refine sKb (p := 118) rfl rfl ?_
          refine sL (i := .goto 5) rfl rfl ?_
          refine sCvQ (p := 126) (as := [_]) rfl rfl rfl rfl (by decide) (Nat.le_of_ble_eq_true rfl) rfl (Nat.le_of_ble_eq_true rfl) (sk_179 _) rfl (by omega) (m_put (c := 40) (by omega) hJ94.1 (by omega)) ?_
          rintro _ P6 ⟨rfl, t6, f6⟩
          have g6 := frI_trans hJ94.2 f6
          refine sL (pc' := 127) (i := .aload_n 0) rfl rfl ?_
          refine sL (pc' := 128) (i := .aload_n 0) rfl rfl ?_
          refine sGc (p := 131) rfl rfl (sk_179 _) rfl rfl rfl ?_
          refine sKb (p := 133) rfl rfl ?_
          refine sL (pc' := 134) (i := .iload_n 3) rfl rfl ?_
          refine sMu (p := 135) rfl rfl ?_
          refine sL (pc' := 137) (i := .iload 4) rfl rfl ?_
          refine sAd (p := 138) rfl rfl ?_
          refine sAi (p := 139) (i := j * 6 + k) rfl rfl (sk_197 _) (by omega) ⟨by omega, by omega⟩ ((congrFun (g6.2.2.2.1 197 (by decide) (by decide)) _).trans (hcd k hi94)) ?_
          refine sCvQ (p := 142) (as := [_]) rfl rfl rfl rfl (by decide) (Nat.le_of_ble_eq_true rfl) rfl (Nat.le_of_ble_eq_true rfl) (sk_179 _) rfl (by omega) (m_putNumber (v := cd k) (hcb k hi94) t6 (by omega)) ?_
          rintro _ P7 ⟨rfl, t7, f7⟩
          have g7 := frI_trans g6 f7
          refine sInX (z := ((k : Nat) : Int)) (ls' := [some (.ref 179), some (.int (iI ((f0 : Nat) : Int))), some (.int (iI l)), some (.int (iI ((j : Nat) : Int))), some (.int (iI (((k : Nat) : Int) + 1)))]) (p := 145) rfl rfl (Nat.le_of_ble_eq_true rfl) rfl rfl ?_
          refine sL (i := .goto (-51)) rfl rfl ?_
          refine sFg (ls := [some (.ref 179), some (.int (iI ((f0 : Nat) : Int))), some (.int (iI l)), some (.int (iI ((j : Nat) : Int))), some (.int (iI ((k + 1 : Nat) : Int)))]) (xx_ll_le (And.intro rfl (And.intro rfl (And.intro rfl (And.intro rfl (And.intro rfl (True.intro))))))) (ih94 _ ?_)
          have tt := t7
          have gg := g7
          refine ⟨⟨?_, ?_, ?_⟩, by rw [hS0]; exact gg⟩
          · rw [show kdT cd (k + 1) = kdT cd k ++ [if k = 0 then 40 else 44] ++ dgt (cd k) from rfl, if_pos (by omega), ← List.append_assoc, ← List.append_assoc]
            exact tt.1
          · rw [show kdT cd (k + 1) = kdT cd k ++ [if k = 0 then 40 else 44] ++ dgt (cd k) from rfl, if_pos (by omega), ← List.append_assoc, ← List.append_assoc]
            exact tt.2.1
          · rw [show kdT cd (k + 1) = kdT cd k ++ [if k = 0 then 40 else 44] ++ dgt (cd k) from rfl, if_pos (by omega), ← List.append_assoc, ← List.append_assoc]
            exact Nat.le_trans tt.2.2 (by omega)
    · have hJ94 := hJ94
      rw [hS0] at hJ94
      refine sL (pc' := 96) (i := .iload 4) rfl rfl ?_
      refine sL (pc' := 97) (i := .aload_n 0) rfl rfl ?_
      refine sGc (p := 100) rfl rfl (sk_179 _) rfl rfl rfl ?_
      refine sL (pc' := 101) (i := .aload_n 0) rfl rfl ?_
      refine sGc (p := 104) rfl rfl (sk_179 _) rfl rfl rfl ?_
      refine sL (pc' := 105) (i := .iload_n 3) rfl rfl ?_
      refine sAi (p := 106) (i := j) rfl rfl (sk_196 _) (by omega) ⟨by omega, by omega⟩ ((congrFun (hJ94.2.2.2.2.1 196 (by decide) (by decide)) _).trans hvj) ?_
      refine sAi (p := 107) (i := vj) rfl rfl (sk_180 _) (by omega) ⟨by omega, by omega⟩ ((congrFun (hJ94.2.2.2.2.1 180 (by decide) (by decide)) _).trans (hv.2.2.2.1 vj hvn)) ?_
      refine sIc_ge (p := 110) rfl rfl ⟨by omega, by omega⟩ ⟨by omega, by omega⟩ (fun c4 => ?_) (fun c4 => ?_)
      · have c4 := c4
        refine sL (pc' := 149) (i := .aload_n 0) rfl rfl ?_
        refine sKb (p := 151) rfl rfl ?_
        refine sCvQ (p := 154) (as := [_]) rfl rfl rfl rfl (by decide) (Nat.le_of_ble_eq_true rfl) rfl (Nat.le_of_ble_eq_true rfl) (sk_179 _) rfl (by omega) (m_put (c := 41) (by omega) hJ94.1 (by omega)) ?_
        rintro _ P8 ⟨rfl, t8, f8⟩
        have g8 := frI_trans hJ94.2 f8
        refine sInX (z := ((j : Nat) : Int)) (ls' := [some (.ref 179), some (.int (iI ((f0 : Nat) : Int))), some (.int (iI l)), some (.int (iI (((j : Nat) : Int) + 1))), some (.int (iI ((sz vj : Nat) : Int)))]) (p := 157) rfl rfl (Nat.le_of_ble_eq_true rfl) rfl rfl ?_
        refine sL (i := .goto (-107)) rfl rfl ?_
        have tt := t8
        have gg := g8
        refine sFg (ls := [some (.ref 179), some (.int (iI ((f0 : Nat) : Int))), some (.int (iI l)), some (.int (iI ((j + 1 : Nat) : Int))), none]) (xx_ll_le (And.intro rfl (And.intro rfl (And.intro rfl (And.intro rfl (True.intro)))))) (hq _ gg ?_)
        have e9 : L ++ ndT j vj cd (sz vj) = L ++ dgt (j + 2) ++ [58] ++ dgt vj ++ kdT cd (sz vj) ++ [41] := by
          unfold ndT
          rw [if_neg (by omega)]
          simp only [List.append_assoc, List.nil_append]
        rw [e9]
        exact ⟨tt.1, tt.2.1, Nat.le_trans tt.2.2 (by omega)⟩
      · exfalso; omega
  · have c1 := c1
    refine sL (pc' := 63) (i := .aload_n 0) rfl rfl ?_
    refine sKb (p := 65) rfl rfl ?_
    refine sCvQ (p := 68) (as := [_]) rfl rfl rfl rfl (by decide) (Nat.le_of_ble_eq_true rfl) rfl (Nat.le_of_ble_eq_true rfl) (sk_179 _) rfl (by omega) (m_put (c := 32) (by omega) h (by omega)) ?_
    rintro _ P9 ⟨rfl, t9, f9⟩
    have g9 := frI_trans (frI_refl S) f9
    refine sL (pc' := 69) (i := .aload_n 0) rfl rfl ?_
    refine sL (pc' := 70) (i := .iload_n 3) rfl rfl ?_
    refine sKi (p := 71) rfl rfl ?_
    refine sAd (p := 72) rfl rfl ?_
    refine sCvQ (p := 75) (as := [_]) rfl rfl rfl rfl (by decide) (Nat.le_of_ble_eq_true rfl) rfl (Nat.le_of_ble_eq_true rfl) (sk_179 _) rfl (by omega) (m_putNumber (v := j + 2) (by omega) t9 (by omega)) ?_
    rintro _ P10 ⟨rfl, t10, f10⟩
    have g10 := frI_trans g9 f10
    refine sL (pc' := 76) (i := .aload_n 0) rfl rfl ?_
    refine sKb (p := 78) rfl rfl ?_
    refine sCvQ (p := 81) (as := [_]) rfl rfl rfl rfl (by decide) (Nat.le_of_ble_eq_true rfl) rfl (Nat.le_of_ble_eq_true rfl) (sk_179 _) rfl (by omega) (m_put (c := 58) (by omega) t10 (by omega)) ?_
    rintro _ P11 ⟨rfl, t11, f11⟩
    have g11 := frI_trans g10 f11
    refine sL (pc' := 82) (i := .aload_n 0) rfl rfl ?_
    refine sL (pc' := 83) (i := .aload_n 0) rfl rfl ?_
    refine sGc (p := 86) rfl rfl (sk_179 _) rfl rfl rfl ?_
    refine sL (pc' := 87) (i := .iload_n 3) rfl rfl ?_
    refine sAi (p := 88) (i := j) rfl rfl (sk_196 _) (by omega) ⟨by omega, by omega⟩ ((congrFun (g11.2.2.2.1 196 (by decide) (by decide)) _).trans hvj) ?_
    refine sCvQ (p := 91) (as := [_]) rfl rfl rfl rfl (by decide) (Nat.le_of_ble_eq_true rfl) rfl (Nat.le_of_ble_eq_true rfl) (sk_179 _) rfl (by omega) (m_putNumber (v := vj) (by omega) t11 (by omega)) ?_
    rintro _ P12 ⟨rfl, t12, f12⟩
    have g12 := frI_trans g11 f12
    refine sKi (p := 92) rfl rfl ?_
    refine sL (pc' := 94) (i := .istore 4) (ls' := [some (.ref 179), some (.int (iI ((f0 : Nat) : Int))), some (.int (iI l)), some (.int (iI ((j : Nat) : Int))), some (.int (iI 0))]) rfl rfl ?_
    refine sItR (A := fun k => [some (.ref 179), some (.int (iI ((f0 : Nat) : Int))), some (.int (iI l)), some (.int (iI ((j : Nat) : Int))), some (.int (iI ((k : Nat) : Int)))]) (fun k S => tbM S ((L ++ [32] ++ dgt (j + 2) ++ [58] ++ dgt vj) ++ kdT cd k) ((b + 1 + 3 + 1 + 3) + 4 * k) ∧ frI S0 S) (sz vj) (⟨by rw [show kdT cd 0 = [] from rfl, List.append_nil]; exact ⟨t12.1, t12.2.1, Nat.le_trans t12.2.2 (by omega)⟩, by rw [hS0]; exact g12⟩) (fun k hi94 Sk hJ94 ih94 => ?_) (fun Skf hJ94 => ?_)
    · have hi94 := hi94
      rw [hS0] at hJ94
      refine sL (pc' := 96) (i := .iload 4) rfl rfl ?_
      refine sL (pc' := 97) (i := .aload_n 0) rfl rfl ?_
      refine sGc (p := 100) rfl rfl (sk_179 _) rfl rfl rfl ?_
      refine sL (pc' := 101) (i := .aload_n 0) rfl rfl ?_
      refine sGc (p := 104) rfl rfl (sk_179 _) rfl rfl rfl ?_
      refine sL (pc' := 105) (i := .iload_n 3) rfl rfl ?_
      refine sAi (p := 106) (i := j) rfl rfl (sk_196 _) (by omega) ⟨by omega, by omega⟩ ((congrFun (hJ94.2.2.2.2.1 196 (by decide) (by decide)) _).trans hvj) ?_
      refine sAi (p := 107) (i := vj) rfl rfl (sk_180 _) (by omega) ⟨by omega, by omega⟩ ((congrFun (hJ94.2.2.2.2.1 180 (by decide) (by decide)) _).trans (hv.2.2.2.1 vj hvn)) ?_
      refine sIc_ge (p := 110) rfl rfl ⟨by omega, by omega⟩ ⟨by omega, by omega⟩ (fun c5 => ?_) (fun c5 => ?_)
      · exfalso; omega
      · have c5 := c5
        refine sL (pc' := 111) (i := .aload_n 0) rfl rfl ?_
        refine sL (pc' := 113) (i := .iload 4) rfl rfl ?_
        refine sIf_ne (p := 116) rfl rfl ⟨by omega, by omega⟩ (fun c6 => ?_) (fun c6 => ?_)
        · have c6 := c6
          refine sKb (p := 123) rfl rfl ?_
          refine sCvQ (p := 126) (as := [_]) rfl rfl rfl rfl (by decide) (Nat.le_of_ble_eq_true rfl) rfl (Nat.le_of_ble_eq_true rfl) (sk_179 _) rfl (by omega) (m_put (c := 44) (by omega) hJ94.1 (by omega)) ?_
          rintro _ P13 ⟨rfl, t13, f13⟩
          have g13 := frI_trans hJ94.2 f13
          refine sL (pc' := 127) (i := .aload_n 0) rfl rfl ?_
          refine sL (pc' := 128) (i := .aload_n 0) rfl rfl ?_
          refine sGc (p := 131) rfl rfl (sk_179 _) rfl rfl rfl ?_
          refine sKb (p := 133) rfl rfl ?_
          refine sL (pc' := 134) (i := .iload_n 3) rfl rfl ?_
          refine sMu (p := 135) rfl rfl ?_
          refine sL (pc' := 137) (i := .iload 4) rfl rfl ?_
          refine sAd (p := 138) rfl rfl ?_
          refine sAi (p := 139) (i := j * 6 + k) rfl rfl (sk_197 _) (by omega) ⟨by omega, by omega⟩ ((congrFun (g13.2.2.2.1 197 (by decide) (by decide)) _).trans (hcd k hi94)) ?_
          refine sCvQ (p := 142) (as := [_]) rfl rfl rfl rfl (by decide) (Nat.le_of_ble_eq_true rfl) rfl (Nat.le_of_ble_eq_true rfl) (sk_179 _) rfl (by omega) (m_putNumber (v := cd k) (hcb k hi94) t13 (by omega)) ?_
          rintro _ P14 ⟨rfl, t14, f14⟩
          have g14 := frI_trans g13 f14
          refine sInX (z := ((k : Nat) : Int)) (ls' := [some (.ref 179), some (.int (iI ((f0 : Nat) : Int))), some (.int (iI l)), some (.int (iI ((j : Nat) : Int))), some (.int (iI (((k : Nat) : Int) + 1)))]) (p := 145) rfl rfl (Nat.le_of_ble_eq_true rfl) rfl rfl ?_
          refine sL (i := .goto (-51)) rfl rfl ?_
          refine sFg (ls := [some (.ref 179), some (.int (iI ((f0 : Nat) : Int))), some (.int (iI l)), some (.int (iI ((j : Nat) : Int))), some (.int (iI ((k + 1 : Nat) : Int)))]) (xx_ll_le (And.intro rfl (And.intro rfl (And.intro rfl (And.intro rfl (And.intro rfl (True.intro))))))) (ih94 _ ?_)
          have tt := t14
          have gg := g14
          refine ⟨⟨?_, ?_, ?_⟩, by rw [hS0]; exact gg⟩
          · rw [show kdT cd (k + 1) = kdT cd k ++ [if k = 0 then 40 else 44] ++ dgt (cd k) from rfl, if_neg (by omega), ← List.append_assoc, ← List.append_assoc]
            exact tt.1
          · rw [show kdT cd (k + 1) = kdT cd k ++ [if k = 0 then 40 else 44] ++ dgt (cd k) from rfl, if_neg (by omega), ← List.append_assoc, ← List.append_assoc]
            exact tt.2.1
          · rw [show kdT cd (k + 1) = kdT cd k ++ [if k = 0 then 40 else 44] ++ dgt (cd k) from rfl, if_neg (by omega), ← List.append_assoc, ← List.append_assoc]
            exact Nat.le_trans tt.2.2 (by omega)
        · have c6 := c6
          refine sKb (p := 118) rfl rfl ?_
          refine sL (i := .goto 5) rfl rfl ?_
          refine sCvQ (p := 126) (as := [_]) rfl rfl rfl rfl (by decide) (Nat.le_of_ble_eq_true rfl) rfl (Nat.le_of_ble_eq_true rfl) (sk_179 _) rfl (by omega) (m_put (c := 40) (by omega) hJ94.1 (by omega)) ?_
          rintro _ P15 ⟨rfl, t15, f15⟩
          have g15 := frI_trans hJ94.2 f15
          refine sL (pc' := 127) (i := .aload_n 0) rfl rfl ?_
          refine sL (pc' := 128) (i := .aload_n 0) rfl rfl ?_
          refine sGc (p := 131) rfl rfl (sk_179 _) rfl rfl rfl ?_
          refine sKb (p := 133) rfl rfl ?_
          refine sL (pc' := 134) (i := .iload_n 3) rfl rfl ?_
          refine sMu (p := 135) rfl rfl ?_
          refine sL (pc' := 137) (i := .iload 4) rfl rfl ?_
          refine sAd (p := 138) rfl rfl ?_
          refine sAi (p := 139) (i := j * 6 + k) rfl rfl (sk_197 _) (by omega) ⟨by omega, by omega⟩ ((congrFun (g15.2.2.2.1 197 (by decide) (by decide)) _).trans (hcd k hi94)) ?_
          refine sCvQ (p := 142) (as := [_]) rfl rfl rfl rfl (by decide) (Nat.le_of_ble_eq_true rfl) rfl (Nat.le_of_ble_eq_true rfl) (sk_179 _) rfl (by omega) (m_putNumber (v := cd k) (hcb k hi94) t15 (by omega)) ?_
          rintro _ P16 ⟨rfl, t16, f16⟩
          have g16 := frI_trans g15 f16
          refine sInX (z := ((k : Nat) : Int)) (ls' := [some (.ref 179), some (.int (iI ((f0 : Nat) : Int))), some (.int (iI l)), some (.int (iI ((j : Nat) : Int))), some (.int (iI (((k : Nat) : Int) + 1)))]) (p := 145) rfl rfl (Nat.le_of_ble_eq_true rfl) rfl rfl ?_
          refine sL (i := .goto (-51)) rfl rfl ?_
          refine sFg (ls := [some (.ref 179), some (.int (iI ((f0 : Nat) : Int))), some (.int (iI l)), some (.int (iI ((j : Nat) : Int))), some (.int (iI ((k + 1 : Nat) : Int)))]) (xx_ll_le (And.intro rfl (And.intro rfl (And.intro rfl (And.intro rfl (And.intro rfl (True.intro))))))) (ih94 _ ?_)
          have tt := t16
          have gg := g16
          refine ⟨⟨?_, ?_, ?_⟩, by rw [hS0]; exact gg⟩
          · rw [show kdT cd (k + 1) = kdT cd k ++ [if k = 0 then 40 else 44] ++ dgt (cd k) from rfl, if_pos (by omega), ← List.append_assoc, ← List.append_assoc]
            exact tt.1
          · rw [show kdT cd (k + 1) = kdT cd k ++ [if k = 0 then 40 else 44] ++ dgt (cd k) from rfl, if_pos (by omega), ← List.append_assoc, ← List.append_assoc]
            exact tt.2.1
          · rw [show kdT cd (k + 1) = kdT cd k ++ [if k = 0 then 40 else 44] ++ dgt (cd k) from rfl, if_pos (by omega), ← List.append_assoc, ← List.append_assoc]
            exact Nat.le_trans tt.2.2 (by omega)
    · have hJ94 := hJ94
      rw [hS0] at hJ94
      refine sL (pc' := 96) (i := .iload 4) rfl rfl ?_
      refine sL (pc' := 97) (i := .aload_n 0) rfl rfl ?_
      refine sGc (p := 100) rfl rfl (sk_179 _) rfl rfl rfl ?_
      refine sL (pc' := 101) (i := .aload_n 0) rfl rfl ?_
      refine sGc (p := 104) rfl rfl (sk_179 _) rfl rfl rfl ?_
      refine sL (pc' := 105) (i := .iload_n 3) rfl rfl ?_
      refine sAi (p := 106) (i := j) rfl rfl (sk_196 _) (by omega) ⟨by omega, by omega⟩ ((congrFun (hJ94.2.2.2.2.1 196 (by decide) (by decide)) _).trans hvj) ?_
      refine sAi (p := 107) (i := vj) rfl rfl (sk_180 _) (by omega) ⟨by omega, by omega⟩ ((congrFun (hJ94.2.2.2.2.1 180 (by decide) (by decide)) _).trans (hv.2.2.2.1 vj hvn)) ?_
      refine sIc_ge (p := 110) rfl rfl ⟨by omega, by omega⟩ ⟨by omega, by omega⟩ (fun c7 => ?_) (fun c7 => ?_)
      · have c7 := c7
        refine sL (pc' := 149) (i := .aload_n 0) rfl rfl ?_
        refine sKb (p := 151) rfl rfl ?_
        refine sCvQ (p := 154) (as := [_]) rfl rfl rfl rfl (by decide) (Nat.le_of_ble_eq_true rfl) rfl (Nat.le_of_ble_eq_true rfl) (sk_179 _) rfl (by omega) (m_put (c := 41) (by omega) hJ94.1 (by omega)) ?_
        rintro _ P17 ⟨rfl, t17, f17⟩
        have g17 := frI_trans hJ94.2 f17
        refine sInX (z := ((j : Nat) : Int)) (ls' := [some (.ref 179), some (.int (iI ((f0 : Nat) : Int))), some (.int (iI l)), some (.int (iI (((j : Nat) : Int) + 1))), some (.int (iI ((sz vj : Nat) : Int)))]) (p := 157) rfl rfl (Nat.le_of_ble_eq_true rfl) rfl rfl ?_
        refine sL (i := .goto (-107)) rfl rfl ?_
        have tt := t17
        have gg := g17
        refine sFg (ls := [some (.ref 179), some (.int (iI ((f0 : Nat) : Int))), some (.int (iI l)), some (.int (iI ((j + 1 : Nat) : Int))), none]) (xx_ll_le (And.intro rfl (And.intro rfl (And.intro rfl (And.intro rfl (True.intro)))))) (hq _ gg ?_)
        have e9 : L ++ ndT j vj cd (sz vj) = L ++ [32] ++ dgt (j + 2) ++ [58] ++ dgt vj ++ kdT cd (sz vj) ++ [41] := by
          unfold ndT
          rw [if_pos (by omega)]
          simp only [List.append_assoc, List.nil_append]
        rw [e9]
        exact ⟨tt.1, tt.2.1, Nat.le_trans tt.2.2 (by omega)⟩
      · exfalso; omega
end MR
