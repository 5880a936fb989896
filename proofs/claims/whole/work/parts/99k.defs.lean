/-! ===== the class's reader: definitions ===== -/
def pDef (K : Nat → Nat) (C : Nat → Int64) (n : Nat) (sz : Nat → Nat) (N : Nat) (Fn : Nat → Nat → Bool) (nm : Nat → Int64) (i : Nat) : Nat × Nat × (Nat → Bool) :=
  if K i ≠ 258 then (rf K 2 i, i, fun _ => false) else if fnd nm (C i) N 0 ≠ -1 then (3, i, fun _ => false) else if N = 40 then (5, i, fun _ => false)
  else if K (i + 1) ≠ 58 then (rf K 2 (i + 1), i + 1, fun _ => false) else xpR K 59 (frm K (pr sz n) (one K C n sz N Fn nm 20) (i + 2))
/-- what reading a text leaves alone -/
def frY (fn : Nat) (S S' : ST) : Prop := S'.1 = S.1 ∧ SR S' = SR S ∧ (∀ c, c ≠ 69 → c ≠ 7 → SI S' c = SI S c) ∧ (∀ k, k ≠ 6 → SI S' 7 k = SI S 7 k) ∧ (∀ c, (c < 9 + fn ∨ (49 < c ∧ c < 71) ∨ 176 < c) → SL S' c = SL S c) ∧ ∀ i, i < fn → SL S' 49 i = SL S 49 i
section RF
variable {X : List Int32} {S : ST} {K A : Nat → Nat} {C : Nat → Int64} {m n fn dr : Nat} {sz : Nat → Nat} {Fn : Nat → Nat → Bool} {nm : Nat → Int64}
theorem frY_refl : frY fn S S := ⟨rfl, rfl, fun _ _ _ => rfl, fun _ _ => rfl, fun _ _ => rfl, fun _ _ => rfl⟩
theorem frY_trans {T V : ST} (h : frY fn S T) (k : frY fn T V) : frY fn S V := ⟨k.1.trans h.1, k.2.1.trans h.2.1, fun c h1 h2 => (k.2.2.1 c h1 h2).trans (h.2.2.1 c h1 h2), fun c h1 => (k.2.2.2.1 c h1).trans (h.2.2.2.1 c h1), fun c h1 => (k.2.2.2.2.1 c h1).trans (h.2.2.2.2.1 c h1), fun c h1 => (k.2.2.2.2.2 c h1).trans (h.2.2.2.2.2 c h1)⟩
theorem frY_R {a : Nat} {T : ST} (hf : fn ≤ 40) (h : frR a S T) : frY fn S T := ⟨h.1, h.2.1, fun c h1 _ => h.2.2.1 c h1, fun k _ => by rw [h.2.2.1 7 (by decide)], fun c hc => h.2.2.2 c (by omega), fun i _ => by rw [h.2.2.2 49 (by omega)]⟩
def drf (S : ST) (f : Nat) (v : Nat → Bool) (x : Int64) (dr : Nat) : ST := wI (wL (wRw S (9 + f) 0 v) 49 f x) 7 6 ((dr + 1 : Nat) : Int)
theorem SL_drf {f dr c k : Nat} {v : Nat → Bool} {x : Int64} (h1 : c ≠ 9 + f) (h2 : c ≠ 49 ∨ k ≠ f) : SL (drf S f v x dr) c k = SL S c k := by
  show SL (wL (wRw S (9 + f) 0 v) 49 f x) c k = _
  rw [SL_wL, if_neg (by omega), SL_wRw, if_neg (by omega)]
theorem rdE_drf {v : Nat → Bool} {x : Int64} (hE : rdE S K A C m n sz fn dr Fn nm) (h40 : fn + dr < 40) : rdE (drf S (fn + dr) v x dr) K A C m n sz fn (dr + 1) (lup Fn (fn + dr) v) (nup nm (fn + dr) x) := by
  obtain ⟨h0, h1, h2, h3, h4, h5, h6, h7, h8, h9⟩ := hE
  have hI : ∀ c, c ≠ 7 → SI (drf S (fn + dr) v x dr) c = SI S c := fun c hc => funext fun k => rI_ne hc k
  refine ⟨h0, by rw [hI 64 (by decide)]; exact h1, fun k hk => ?_, ?_, fun k hk => (SL_drf (by omega) (Or.inl (by decide))).trans (h4 k hk), (rI_nj (by decide)).trans h5, rI_at, by omega, fun i hi => ?_, fun i hi => ?_⟩
  · rw [hI 66 (by decide), hI 67 (by decide), SL_drf (by omega) (Or.inl (by decide))]
    exact h2 k hk
  · obtain ⟨v1, v2, v3, v4, v5⟩ := h3
    exact ⟨v1, by rw [hI 1 (by decide)]; exact v2, by rw [hI 1 (by decide)]; exact v3, fun i hi => by rw [hI 2 (by decide)]; exact v4 i hi, fun i hi => by rw [hI 3 (by decide)]; exact v5 i hi⟩
  · by_cases ci : i = fn + dr
    · rw [ci, lup_at]
      intro k hk
      show SL (wL (wRw S (9 + (fn + dr)) 0 v) 49 (fn + dr) x) (9 + (fn + dr)) (0 + k) = _
      rw [SL_wL, if_neg (by omega)]
      exact rowS_wRw S (9 + (fn + dr)) 0 v k hk
    · rw [lup_ne ci]
      intro k hk
      rw [SL_drf (by omega) (Or.inl (by omega))]
      exact h8 i (by omega) k hk
  · by_cases ci : i = fn + dr
    · rw [ci]
      show SL (wL (wRw S (9 + (fn + dr)) 0 v) 49 (fn + dr) x) 49 (fn + dr) = nup nm (fn + dr) x (fn + dr)
      rw [SL_wL, if_pos ⟨rfl, rfl⟩]
      exact (if_pos rfl).symm
    · rw [SL_drf (by omega) (Or.inr ci), h9 i (by omega)]
      exact (if_neg ci).symm
theorem frY_drf {v : Nat → Bool} {x : Int64} (h40 : fn + dr < 40) : frY fn S (drf S (fn + dr) v x dr) := ⟨rfl, rfl, fun c _ h2 => funext fun k => rI_ne h2 k, fun k hk => rI_nj hk, fun c hc => funext fun k => SL_drf (by omega) (Or.inl (by omega)), fun i hi => SL_drf (by omega) (Or.inr (by omega))⟩
theorem c_frm0 : subC X K A C m n sz fn dr Fn nm 149 89 0 0 (frm K (pr sz n) (one K C n sz (fn + dr) Fn nm 20)) := c_frm (ds := 144) (by omega) (by omega) (c_one 20 0 (by omega))
theorem c_readDefinition {i : Nat} (hE : rdE S K A C m n sz fn dr Fn nm) (hA : rA S K i) (hi : i ≤ m) (R : Nat × Nat × (Nat → Bool)) (hR : R = pDef K C n sz (fn + dr) Fn nm i) : sM X 150 87 [.ref 69] S (fun r S' => r = none ∧ frY fn S S' ∧ (R.1 = 0 → R.2.1 ≤ m ∧ rA S' K R.2.1 ∧ rdE S' K A C m n sz fn (dr + 1) (lup Fn (fn + dr) R.2.2) (nup nm (fn + dr) (C i)) ∧ fn + dr < 40) ∧ (R.1 ≠ 0 → rX S' m R.1 (A R.2.1) ∧ rdE S' K A C m n sz fn dr Fn nm)) := by
  have hm := hE.1.1
  have hK := hE.1.2.1
  have hKi := hK i
  have h40 : fn + dr ≤ 40 := hE.2.2.2.2.2.2.2.1
  have hb := fnd_b (nm := nm) (x := C i) (fn + dr) 0
  have hG := c_frm0 (X := X) (K := K) (A := A) (C := C) (m := m) (n := n) (sz := sz) (fn := fn) (dr := dr) (Fn := Fn) (nm := nm)
  unfold pDef at hR

  by_cases q1 : K i = 258
  · have hlt := rdE_i hE hi (by omega) (by omega)
    rw [if_neg (fun z => z q1)] at hR
    by_cases q2 : fnd nm (C i) (fn + dr) 0 = -1
    · rw [if_neg (fun z => z q2)] at hR
      by_cases q3 : fn + dr = 40
      · rw [if_pos q3] at hR
        refine sIni (ls := [some (.ref 69), none, none]) rfl ?_
        refine sL (pc' := 1) (i := .aload_n 0) rfl rfl ?_
        refine sGc (p := 4) rfl rfl (sk_69 _) rfl rfl rfl ?_
        refine sGc (p := 7) rfl rfl (sk_64 _) rfl rfl rfl ?_
        refine sL (pc' := 8) (i := .aload_n 0) rfl rfl ?_
        refine sGi (p := 11) rfl rfl (sk_69 _) rfl rfl rfl hA.1 ?_
        refine sAl (p := 12) (i := i) rfl rfl (sk_68 _) (by omega) ⟨by omega, by omega⟩ (hE.2.2.1 _ (by omega)).2.2 ?_
        refine sL (pc' := 13) (i := .lstore_n 1) (ls' := [some (.ref 69), some (.long (C i)), none]) rfl rfl ?_
        refine sL (pc' := 14) (i := .aload_n 0) rfl rfl ?_
        refine sGi (p := 17) rfl rfl (sk_69 _) rfl rfl rfl hA.2.1 ?_
        refine sKs (p := 20) rfl rfl ?_
        refine sIc_eq (p := 23) rfl rfl ⟨by omega, by omega⟩ ⟨by omega, by omega⟩ (fun c1 => ?_) (fun c1 => ?_)
        · have c1 := c1
          refine sL (pc' := 36) (i := .aload_n 0) rfl rfl ?_
          refine sGc (p := 39) rfl rfl (sk_69 _) rfl rfl rfl ?_
          refine sL (pc' := 40) (i := .lload_n 1) rfl rfl ?_
          refine sCv (p := 43) (as := [_]) rfl rfl rfl rfl (by decide) (Nat.le_of_ble_eq_true rfl) rfl (Nat.le_of_ble_eq_true rfl) (sk_7 _) rfl (by omega) (c_findName hE.2.2.2.2.2.1 hE.2.2.2.2.2.2.1 h40 hE.2.2.2.2.2.2.2.2.2) ?_
          refine sKi (p := 44) rfl rfl ?_
          refine sIc_eq (p := 47) rfl rfl ⟨by omega, by omega⟩ ⟨by omega, by omega⟩ (fun c2 => ?_) (fun c2 => ?_)
          · have c2 := c2
            refine sL (pc' := 60) (i := .aload_n 0) rfl rfl ?_
            refine sGc (p := 63) rfl rfl (sk_69 _) rfl rfl rfl ?_
            refine sCv (p := 66) (as := []) rfl rfl rfl rfl (by decide) (Nat.le_of_ble_eq_true rfl) rfl (Nat.le_of_ble_eq_true rfl) (sk_7 _) rfl (by omega) (c_isFull hE.2.2.2.2.2.1 hE.2.2.2.2.2.2.1 h40) ?_
            refine sBe (p := 69) rfl rfl (fun c3 => ?_) (fun c3 => ?_)
            · exfalso; have c3 := of_decide_eq_false c3; omega
            · have c3 := c3
              have c3 := of_decide_eq_true c3
              refine sL (pc' := 70) (i := .aload_n 0) rfl rfl ?_
              refine sKi (p := 71) rfl rfl ?_
              refine sL (pc' := 72) (i := .aload_n 0) rfl rfl ?_
              refine sGi (p := 75) rfl rfl (sk_69 _) rfl rfl rfl hA.1 ?_
              refine sCvQ (p := 78) (as := [_, _]) rfl rfl rfl rfl (by decide) (Nat.le_of_ble_eq_true rfl) rfl (Nat.le_of_ble_eq_true rfl) (sk_69 _) rfl (by omega) (c_refuse hE hA hi hi ⟨by decide, by decide⟩) ?_
              rintro _ S1 ⟨rfl, hX1, hf1⟩
              have hE1 := rdE_fr hE hf1
              rw [show rf K 5 i = 5 from if_neg (by omega)] at hX1
              refine sL (pc' := 79) (i := .aload_n 0) rfl rfl ?_
              refine sCvQ (p := 82) (as := []) rfl rfl rfl rfl (by decide) (Nat.le_of_ble_eq_true rfl) rfl (Nat.le_of_ble_eq_true rfl) (sk_69 _) rfl (by omega) (c_advance_d hX1) ?_
              rintro _ S2 ⟨rfl, hX2, hf2⟩
              have hE2 := rdE_fr hE1 hf2
              refine sL (pc' := 83) (i := .aload_n 0) rfl rfl ?_
              refine sKb (p := 85) rfl rfl ?_
              refine sCvQ (p := 88) (as := [_]) rfl rfl rfl rfl (by decide) (Nat.le_of_ble_eq_true rfl) rfl (Nat.le_of_ble_eq_true rfl) (sk_69 _) rfl (by omega) (c_expect_d hX2 (by decide)) ?_
              rintro _ S3 ⟨rfl, hX3, hf3⟩
              have hE3 := rdE_fr hE2 hf3
              refine sL (pc' := 89) (i := .aload_n 0) rfl rfl ?_
              refine sKi (p := 90) rfl rfl ?_
              refine sKi (p := 91) rfl rfl ?_
              refine sCvQ (p := 94) (as := [_, _]) rfl rfl rfl rfl (by decide) (Nat.le_of_ble_eq_true rfl) rfl (Nat.le_of_ble_eq_true rfl) (sk_69 _) rfl (by omega) (hG.2 S3 _ _ 0 hE3 hX3 (by omega)) ?_
              rintro _ S4 ⟨rfl, hf4, hX4⟩
              have hE4 := rdE_fr hE3 hf4
              refine sL (pc' := 95) (i := .aload_n 0) rfl rfl ?_
              refine sKb (p := 97) rfl rfl ?_
              refine sCvQ (p := 100) (as := [_]) rfl rfl rfl rfl (by decide) (Nat.le_of_ble_eq_true rfl) rfl (Nat.le_of_ble_eq_true rfl) (sk_69 _) rfl (by omega) (c_expect_d hX4 (by decide)) ?_
              rintro _ S5 ⟨rfl, hX5, hf5⟩
              have hE5 := rdE_fr hE4 hf5
              obtain ⟨k5, hk5⟩ : ∃ k5 : Nat, SI S5 69 6 = ((k5 : Nat) : Int) ∧ 1 ≤ k5 ∧ k5 ≤ 5 := ⟨_, hX5.2.2.1, hX5.2.2.2.1⟩
              refine sL (pc' := 101) (i := .aload_n 0) rfl rfl ?_
              refine sGi (p := 104) rfl rfl (sk_69 _) rfl rfl rfl hk5.1 ?_
              refine sIf_ne (p := 107) rfl rfl ⟨by omega, by omega⟩ (fun c4 => ?_) (fun c4 => ?_)
              · have c4 := c4
                refine sEn (i := .return_) rfl (rfl) ?_
                rw [hR]
                exact ⟨rfl, frY_trans (frY_R (by omega) hf1) (frY_trans (frY_R (by omega) hf2) (frY_trans (frY_R (by omega) hf3) (frY_trans (frY_R (by omega) hf4) (frY_R (by omega) hf5)))), fun z => absurd z (show (5 : Nat) ≠ 0 by decide), fun _ => ⟨hX5, hE5⟩⟩
              · exfalso; omega
          · exfalso; omega
        · exfalso; omega
      · rw [if_neg q3] at hR
        have hKj := hK (i + 1)
        by_cases q4 : K (i + 1) = 58
        · have hlt1 := rdE_i hE (i := i + 1) hlt (by omega) (by omega)
          rw [if_neg (fun z => z q4)] at hR
          obtain ⟨W, hW⟩ : ∃ W, W = frm K (pr sz n) (one K C n sz (fn + dr) Fn nm 20) (i + 2) := ⟨_, rfl⟩
          rw [← hW] at hR
          unfold xpR at hR
          by_cases q5 : W.1 = 0
          · rw [if_neg (fun z => z q5)] at hR
            by_cases q6 : K W.2.1 = 59
            · rw [if_pos q6] at hR
              refine sIni (ls := [some (.ref 69), none, none]) rfl ?_
              refine sL (pc' := 1) (i := .aload_n 0) rfl rfl ?_
              refine sGc (p := 4) rfl rfl (sk_69 _) rfl rfl rfl ?_
              refine sGc (p := 7) rfl rfl (sk_64 _) rfl rfl rfl ?_
              refine sL (pc' := 8) (i := .aload_n 0) rfl rfl ?_
              refine sGi (p := 11) rfl rfl (sk_69 _) rfl rfl rfl hA.1 ?_
              refine sAl (p := 12) (i := i) rfl rfl (sk_68 _) (by omega) ⟨by omega, by omega⟩ (hE.2.2.1 _ (by omega)).2.2 ?_
              refine sL (pc' := 13) (i := .lstore_n 1) (ls' := [some (.ref 69), some (.long (C i)), none]) rfl rfl ?_
              refine sL (pc' := 14) (i := .aload_n 0) rfl rfl ?_
              refine sGi (p := 17) rfl rfl (sk_69 _) rfl rfl rfl hA.2.1 ?_
              refine sKs (p := 20) rfl rfl ?_
              refine sIc_eq (p := 23) rfl rfl ⟨by omega, by omega⟩ ⟨by omega, by omega⟩ (fun c1 => ?_) (fun c1 => ?_)
              · have c1 := c1
                refine sL (pc' := 36) (i := .aload_n 0) rfl rfl ?_
                refine sGc (p := 39) rfl rfl (sk_69 _) rfl rfl rfl ?_
                refine sL (pc' := 40) (i := .lload_n 1) rfl rfl ?_
                refine sCv (p := 43) (as := [_]) rfl rfl rfl rfl (by decide) (Nat.le_of_ble_eq_true rfl) rfl (Nat.le_of_ble_eq_true rfl) (sk_7 _) rfl (by omega) (c_findName hE.2.2.2.2.2.1 hE.2.2.2.2.2.2.1 h40 hE.2.2.2.2.2.2.2.2.2) ?_
                refine sKi (p := 44) rfl rfl ?_
                refine sIc_eq (p := 47) rfl rfl ⟨by omega, by omega⟩ ⟨by omega, by omega⟩ (fun c2 => ?_) (fun c2 => ?_)
                · have c2 := c2
                  refine sL (pc' := 60) (i := .aload_n 0) rfl rfl ?_
                  refine sGc (p := 63) rfl rfl (sk_69 _) rfl rfl rfl ?_
                  refine sCv (p := 66) (as := []) rfl rfl rfl rfl (by decide) (Nat.le_of_ble_eq_true rfl) rfl (Nat.le_of_ble_eq_true rfl) (sk_7 _) rfl (by omega) (c_isFull hE.2.2.2.2.2.1 hE.2.2.2.2.2.2.1 h40) ?_
                  refine sBe (p := 69) rfl rfl (fun c3 => ?_) (fun c3 => ?_)
                  · have c3 := c3
                    have c3 := of_decide_eq_false c3
                    refine sL (pc' := 79) (i := .aload_n 0) rfl rfl ?_
                    refine sCvQ (p := 82) (as := []) rfl rfl rfl rfl (by decide) (Nat.le_of_ble_eq_true rfl) rfl (Nat.le_of_ble_eq_true rfl) (sk_69 _) rfl (by omega) (c_advance hE hA hlt) ?_
                    rintro _ S1 ⟨rfl, hA1, hf1⟩
                    have hE1 := rdE_fr hE hf1
                    refine sL (pc' := 83) (i := .aload_n 0) rfl rfl ?_
                    refine sKb (p := 85) rfl rfl ?_
                    refine sCvQ (p := 88) (as := [_]) rfl rfl rfl rfl (by decide) (Nat.le_of_ble_eq_true rfl) rfl (Nat.le_of_ble_eq_true rfl) (sk_69 _) rfl (by omega) (c_expect hE1 hA1 hlt1 q4 (by decide)) ?_
                    rintro _ S2 ⟨rfl, hA2, hf2⟩
                    have hE2 := rdE_fr hE1 hf2
                    refine sL (pc' := 89) (i := .aload_n 0) rfl rfl ?_
                    refine sKi (p := 90) rfl rfl ?_
                    refine sKi (p := 91) rfl rfl ?_
                    refine sCvQ (p := 94) (as := [_, _]) rfl rfl rfl rfl (by decide) (Nat.le_of_ble_eq_true rfl) rfl (Nat.le_of_ble_eq_true rfl) (sk_69 _) rfl (by omega) (hG.1 S2 (i + 2) 0 hE2 hA2 hlt1 (by omega)) ?_
                    rintro _ S3 ⟨rfl, hf3, hr3, hv3⟩
                    rw [← hW] at hr3 hv3
                    have hE3 := rdE_fr hE2 hf3
                    obtain ⟨hi3, hA3⟩ : W.2.1 ≤ m ∧ rA S3 K W.2.1 := by
                      rcases hr3 with ⟨_, h1, h2⟩ | ⟨h1, _⟩
                      · exact ⟨h1, h2⟩
                      · exact absurd q5 h1
                    refine sL (pc' := 95) (i := .aload_n 0) rfl rfl ?_
                    refine sKb (p := 97) rfl rfl ?_
                    refine sCvQ (p := 100) (as := [_]) rfl rfl rfl rfl (by decide) (Nat.le_of_ble_eq_true rfl) rfl (Nat.le_of_ble_eq_true rfl) (sk_69 _) rfl (by omega) (c_expect hE3 hA3 (rdE_i hE3 hi3 (by omega) (by omega)) q6 (by decide)) ?_
                    rintro _ S4a ⟨rfl, hA4, hf4⟩
                    have hE4 := rdE_fr hE3 hf4
                    refine sL (pc' := 101) (i := .aload_n 0) rfl rfl ?_
                    refine sGi (p := 104) rfl rfl (sk_69 _) rfl rfl rfl hA4.2.2 ?_
                    refine sIf_ne (p := 107) rfl rfl ⟨by omega, by omega⟩ (fun c4 => ?_) (fun c4 => ?_)
                    · exact absurd c4 (by decide)
                    · have c4 := c4
                      refine sL (pc' := 108) (i := .aload_n 0) rfl rfl ?_
                      refine sGc (p := 111) rfl rfl (sk_69 _) rfl rfl rfl ?_
                      refine sL (pc' := 112) (i := .lload_n 1) rfl rfl ?_
                      refine sL (pc' := 113) (i := .aload_n 0) rfl rfl ?_
                      refine sKi (p := 114) rfl rfl ?_
                      refine sCv (p := 117) (as := [_]) rfl rfl rfl rfl (by decide) (Nat.le_of_ble_eq_true rfl) rfl (Nat.le_of_ble_eq_true rfl) (sk_69 _) rfl (by omega) (c_slot (a := 0) (by omega)) ?_
                      refine sCv (p := 120) (as := [_, _]) rfl rfl rfl rfl (by decide) (Nat.le_of_ble_eq_true rfl) rfl (Nat.le_of_ble_eq_true rfl) (sk_7 _) rfl (by omega) (c_draft (a := 71) hE4.2.2.2.2.2.1 hE4.2.2.2.2.2.2.1 (by omega) (sk_slots _ (i := 0) (by omega)) (rowS_fr hf4 (by omega) (hv3 q5))) ?_
                      refine sEn (i := .return_) rfl (rfl) ?_
                      rw [hR]
                      exact ⟨rfl, frY_trans (frY_trans (frY_R (by omega) hf1) (frY_trans (frY_R (by omega) hf2) (frY_trans (frY_R (by omega) hf3) (frY_R (by omega) hf4)))) (frY_drf (by omega)), fun _ => ⟨rdE_i hE3 hi3 (by omega) (by omega), hA4, rdE_drf hE4 (by omega), by omega⟩, fun z => absurd rfl z⟩
                  · exfalso; have c3 := of_decide_eq_true c3; omega
                · exfalso; omega
              · exfalso; omega
            · rw [if_neg q6] at hR
              refine sIni (ls := [some (.ref 69), none, none]) rfl ?_
              refine sL (pc' := 1) (i := .aload_n 0) rfl rfl ?_
              refine sGc (p := 4) rfl rfl (sk_69 _) rfl rfl rfl ?_
              refine sGc (p := 7) rfl rfl (sk_64 _) rfl rfl rfl ?_
              refine sL (pc' := 8) (i := .aload_n 0) rfl rfl ?_
              refine sGi (p := 11) rfl rfl (sk_69 _) rfl rfl rfl hA.1 ?_
              refine sAl (p := 12) (i := i) rfl rfl (sk_68 _) (by omega) ⟨by omega, by omega⟩ (hE.2.2.1 _ (by omega)).2.2 ?_
              refine sL (pc' := 13) (i := .lstore_n 1) (ls' := [some (.ref 69), some (.long (C i)), none]) rfl rfl ?_
              refine sL (pc' := 14) (i := .aload_n 0) rfl rfl ?_
              refine sGi (p := 17) rfl rfl (sk_69 _) rfl rfl rfl hA.2.1 ?_
              refine sKs (p := 20) rfl rfl ?_
              refine sIc_eq (p := 23) rfl rfl ⟨by omega, by omega⟩ ⟨by omega, by omega⟩ (fun c1 => ?_) (fun c1 => ?_)
              · have c1 := c1
                refine sL (pc' := 36) (i := .aload_n 0) rfl rfl ?_
                refine sGc (p := 39) rfl rfl (sk_69 _) rfl rfl rfl ?_
                refine sL (pc' := 40) (i := .lload_n 1) rfl rfl ?_
                refine sCv (p := 43) (as := [_]) rfl rfl rfl rfl (by decide) (Nat.le_of_ble_eq_true rfl) rfl (Nat.le_of_ble_eq_true rfl) (sk_7 _) rfl (by omega) (c_findName hE.2.2.2.2.2.1 hE.2.2.2.2.2.2.1 h40 hE.2.2.2.2.2.2.2.2.2) ?_
                refine sKi (p := 44) rfl rfl ?_
                refine sIc_eq (p := 47) rfl rfl ⟨by omega, by omega⟩ ⟨by omega, by omega⟩ (fun c2 => ?_) (fun c2 => ?_)
                · have c2 := c2
                  refine sL (pc' := 60) (i := .aload_n 0) rfl rfl ?_
                  refine sGc (p := 63) rfl rfl (sk_69 _) rfl rfl rfl ?_
                  refine sCv (p := 66) (as := []) rfl rfl rfl rfl (by decide) (Nat.le_of_ble_eq_true rfl) rfl (Nat.le_of_ble_eq_true rfl) (sk_7 _) rfl (by omega) (c_isFull hE.2.2.2.2.2.1 hE.2.2.2.2.2.2.1 h40) ?_
                  refine sBe (p := 69) rfl rfl (fun c3 => ?_) (fun c3 => ?_)
                  · have c3 := c3
                    have c3 := of_decide_eq_false c3
                    refine sL (pc' := 79) (i := .aload_n 0) rfl rfl ?_
                    refine sCvQ (p := 82) (as := []) rfl rfl rfl rfl (by decide) (Nat.le_of_ble_eq_true rfl) rfl (Nat.le_of_ble_eq_true rfl) (sk_69 _) rfl (by omega) (c_advance hE hA hlt) ?_
                    rintro _ S1 ⟨rfl, hA1, hf1⟩
                    have hE1 := rdE_fr hE hf1
                    refine sL (pc' := 83) (i := .aload_n 0) rfl rfl ?_
                    refine sKb (p := 85) rfl rfl ?_
                    refine sCvQ (p := 88) (as := [_]) rfl rfl rfl rfl (by decide) (Nat.le_of_ble_eq_true rfl) rfl (Nat.le_of_ble_eq_true rfl) (sk_69 _) rfl (by omega) (c_expect hE1 hA1 hlt1 q4 (by decide)) ?_
                    rintro _ S2 ⟨rfl, hA2, hf2⟩
                    have hE2 := rdE_fr hE1 hf2
                    refine sL (pc' := 89) (i := .aload_n 0) rfl rfl ?_
                    refine sKi (p := 90) rfl rfl ?_
                    refine sKi (p := 91) rfl rfl ?_
                    refine sCvQ (p := 94) (as := [_, _]) rfl rfl rfl rfl (by decide) (Nat.le_of_ble_eq_true rfl) rfl (Nat.le_of_ble_eq_true rfl) (sk_69 _) rfl (by omega) (hG.1 S2 (i + 2) 0 hE2 hA2 hlt1 (by omega)) ?_
                    rintro _ S3 ⟨rfl, hf3, hr3, hv3⟩
                    rw [← hW] at hr3 hv3
                    have hE3 := rdE_fr hE2 hf3
                    obtain ⟨hi3, hA3⟩ : W.2.1 ≤ m ∧ rA S3 K W.2.1 := by
                      rcases hr3 with ⟨_, h1, h2⟩ | ⟨h1, _⟩
                      · exact ⟨h1, h2⟩
                      · exact absurd q5 h1
                    refine sL (pc' := 95) (i := .aload_n 0) rfl rfl ?_
                    refine sKb (p := 97) rfl rfl ?_
                    refine sCvQ (p := 100) (as := [_]) rfl rfl rfl rfl (by decide) (Nat.le_of_ble_eq_true rfl) rfl (Nat.le_of_ble_eq_true rfl) (sk_69 _) rfl (by omega) (c_expect_n hE3 hA3 hi3 q6 (by decide)) ?_
                    rintro _ S4 ⟨rfl, hX4, hf4⟩
                    have hE4 := rdE_fr hE3 hf4
                    obtain ⟨k5, hk5⟩ : ∃ k5 : Nat, SI S4 69 6 = ((k5 : Nat) : Int) ∧ 1 ≤ k5 ∧ k5 ≤ 5 := ⟨_, hX4.2.2.1, hX4.2.2.2.1⟩
                    refine sL (pc' := 101) (i := .aload_n 0) rfl rfl ?_
                    refine sGi (p := 104) rfl rfl (sk_69 _) rfl rfl rfl hk5.1 ?_
                    refine sIf_ne (p := 107) rfl rfl ⟨by omega, by omega⟩ (fun c4 => ?_) (fun c4 => ?_)
                    · have c4 := c4
                      refine sEn (i := .return_) rfl (rfl) ?_
                      rw [hR]
                      exact ⟨rfl, frY_trans (frY_R (by omega) hf1) (frY_trans (frY_R (by omega) hf2) (frY_trans (frY_R (by omega) hf3) (frY_R (by omega) hf4))), fun z => absurd z (rf_nz (K := K) (q := 2) (a := W.2.1) (by decide)), fun _ => ⟨hX4, hE4⟩⟩
                    · exfalso; omega
                  · exfalso; have c3 := of_decide_eq_true c3; omega
                · exfalso; omega
              · exfalso; omega
          · rw [if_pos q5] at hR
            refine sIni (ls := [some (.ref 69), none, none]) rfl ?_
            refine sL (pc' := 1) (i := .aload_n 0) rfl rfl ?_
            refine sGc (p := 4) rfl rfl (sk_69 _) rfl rfl rfl ?_
            refine sGc (p := 7) rfl rfl (sk_64 _) rfl rfl rfl ?_
            refine sL (pc' := 8) (i := .aload_n 0) rfl rfl ?_
            refine sGi (p := 11) rfl rfl (sk_69 _) rfl rfl rfl hA.1 ?_
            refine sAl (p := 12) (i := i) rfl rfl (sk_68 _) (by omega) ⟨by omega, by omega⟩ (hE.2.2.1 _ (by omega)).2.2 ?_
            refine sL (pc' := 13) (i := .lstore_n 1) (ls' := [some (.ref 69), some (.long (C i)), none]) rfl rfl ?_
            refine sL (pc' := 14) (i := .aload_n 0) rfl rfl ?_
            refine sGi (p := 17) rfl rfl (sk_69 _) rfl rfl rfl hA.2.1 ?_
            refine sKs (p := 20) rfl rfl ?_
            refine sIc_eq (p := 23) rfl rfl ⟨by omega, by omega⟩ ⟨by omega, by omega⟩ (fun c1 => ?_) (fun c1 => ?_)
            · have c1 := c1
              refine sL (pc' := 36) (i := .aload_n 0) rfl rfl ?_
              refine sGc (p := 39) rfl rfl (sk_69 _) rfl rfl rfl ?_
              refine sL (pc' := 40) (i := .lload_n 1) rfl rfl ?_
              refine sCv (p := 43) (as := [_]) rfl rfl rfl rfl (by decide) (Nat.le_of_ble_eq_true rfl) rfl (Nat.le_of_ble_eq_true rfl) (sk_7 _) rfl (by omega) (c_findName hE.2.2.2.2.2.1 hE.2.2.2.2.2.2.1 h40 hE.2.2.2.2.2.2.2.2.2) ?_
              refine sKi (p := 44) rfl rfl ?_
              refine sIc_eq (p := 47) rfl rfl ⟨by omega, by omega⟩ ⟨by omega, by omega⟩ (fun c2 => ?_) (fun c2 => ?_)
              · have c2 := c2
                refine sL (pc' := 60) (i := .aload_n 0) rfl rfl ?_
                refine sGc (p := 63) rfl rfl (sk_69 _) rfl rfl rfl ?_
                refine sCv (p := 66) (as := []) rfl rfl rfl rfl (by decide) (Nat.le_of_ble_eq_true rfl) rfl (Nat.le_of_ble_eq_true rfl) (sk_7 _) rfl (by omega) (c_isFull hE.2.2.2.2.2.1 hE.2.2.2.2.2.2.1 h40) ?_
                refine sBe (p := 69) rfl rfl (fun c3 => ?_) (fun c3 => ?_)
                · have c3 := c3
                  have c3 := of_decide_eq_false c3
                  refine sL (pc' := 79) (i := .aload_n 0) rfl rfl ?_
                  refine sCvQ (p := 82) (as := []) rfl rfl rfl rfl (by decide) (Nat.le_of_ble_eq_true rfl) rfl (Nat.le_of_ble_eq_true rfl) (sk_69 _) rfl (by omega) (c_advance hE hA hlt) ?_
                  rintro _ S1 ⟨rfl, hA1, hf1⟩
                  have hE1 := rdE_fr hE hf1
                  refine sL (pc' := 83) (i := .aload_n 0) rfl rfl ?_
                  refine sKb (p := 85) rfl rfl ?_
                  refine sCvQ (p := 88) (as := [_]) rfl rfl rfl rfl (by decide) (Nat.le_of_ble_eq_true rfl) rfl (Nat.le_of_ble_eq_true rfl) (sk_69 _) rfl (by omega) (c_expect hE1 hA1 hlt1 q4 (by decide)) ?_
                  rintro _ S2 ⟨rfl, hA2, hf2⟩
                  have hE2 := rdE_fr hE1 hf2
                  refine sL (pc' := 89) (i := .aload_n 0) rfl rfl ?_
                  refine sKi (p := 90) rfl rfl ?_
                  refine sKi (p := 91) rfl rfl ?_
                  refine sCvQ (p := 94) (as := [_, _]) rfl rfl rfl rfl (by decide) (Nat.le_of_ble_eq_true rfl) rfl (Nat.le_of_ble_eq_true rfl) (sk_69 _) rfl (by omega) (hG.1 S2 (i + 2) 0 hE2 hA2 hlt1 (by omega)) ?_
                  rintro _ S3 ⟨rfl, hf3, hr3, hv3⟩
                  rw [← hW] at hr3 hv3
                  have hE3 := rdE_fr hE2 hf3
                  have hX3 : rX S3 m W.1 (A W.2.1) := by
                    rcases hr3 with ⟨h1, _⟩ | ⟨_, h1⟩
                    · exact absurd h1 q5
                    · exact h1
                  refine sL (pc' := 95) (i := .aload_n 0) rfl rfl ?_
                  refine sKb (p := 97) rfl rfl ?_
                  refine sCvQ (p := 100) (as := [_]) rfl rfl rfl rfl (by decide) (Nat.le_of_ble_eq_true rfl) rfl (Nat.le_of_ble_eq_true rfl) (sk_69 _) rfl (by omega) (c_expect_d hX3 (by decide)) ?_
                  rintro _ S4 ⟨rfl, hX4, hf4⟩
                  have hE4 := rdE_fr hE3 hf4
                  obtain ⟨k5, hk5⟩ : ∃ k5 : Nat, SI S4 69 6 = ((k5 : Nat) : Int) ∧ 1 ≤ k5 ∧ k5 ≤ 5 := ⟨_, hX4.2.2.1, hX4.2.2.2.1⟩
                  refine sL (pc' := 101) (i := .aload_n 0) rfl rfl ?_
                  refine sGi (p := 104) rfl rfl (sk_69 _) rfl rfl rfl hk5.1 ?_
                  refine sIf_ne (p := 107) rfl rfl ⟨by omega, by omega⟩ (fun c4 => ?_) (fun c4 => ?_)
                  · have c4 := c4
                    refine sEn (i := .return_) rfl (rfl) ?_
                    rw [hR]
                    exact ⟨rfl, frY_trans (frY_R (by omega) hf1) (frY_trans (frY_R (by omega) hf2) (frY_trans (frY_R (by omega) hf3) (frY_R (by omega) hf4))), fun z => absurd z q5, fun _ => ⟨hX4, hE4⟩⟩
                  · exfalso; omega
                · exfalso; have c3 := of_decide_eq_true c3; omega
              · exfalso; omega
            · exfalso; omega
        · rw [if_pos q4] at hR
          refine sIni (ls := [some (.ref 69), none, none]) rfl ?_
          refine sL (pc' := 1) (i := .aload_n 0) rfl rfl ?_
          refine sGc (p := 4) rfl rfl (sk_69 _) rfl rfl rfl ?_
          refine sGc (p := 7) rfl rfl (sk_64 _) rfl rfl rfl ?_
          refine sL (pc' := 8) (i := .aload_n 0) rfl rfl ?_
          refine sGi (p := 11) rfl rfl (sk_69 _) rfl rfl rfl hA.1 ?_
          refine sAl (p := 12) (i := i) rfl rfl (sk_68 _) (by omega) ⟨by omega, by omega⟩ (hE.2.2.1 _ (by omega)).2.2 ?_
          refine sL (pc' := 13) (i := .lstore_n 1) (ls' := [some (.ref 69), some (.long (C i)), none]) rfl rfl ?_
          refine sL (pc' := 14) (i := .aload_n 0) rfl rfl ?_
          refine sGi (p := 17) rfl rfl (sk_69 _) rfl rfl rfl hA.2.1 ?_
          refine sKs (p := 20) rfl rfl ?_
          refine sIc_eq (p := 23) rfl rfl ⟨by omega, by omega⟩ ⟨by omega, by omega⟩ (fun c1 => ?_) (fun c1 => ?_)
          · have c1 := c1
            refine sL (pc' := 36) (i := .aload_n 0) rfl rfl ?_
            refine sGc (p := 39) rfl rfl (sk_69 _) rfl rfl rfl ?_
            refine sL (pc' := 40) (i := .lload_n 1) rfl rfl ?_
            refine sCv (p := 43) (as := [_]) rfl rfl rfl rfl (by decide) (Nat.le_of_ble_eq_true rfl) rfl (Nat.le_of_ble_eq_true rfl) (sk_7 _) rfl (by omega) (c_findName hE.2.2.2.2.2.1 hE.2.2.2.2.2.2.1 h40 hE.2.2.2.2.2.2.2.2.2) ?_
            refine sKi (p := 44) rfl rfl ?_
            refine sIc_eq (p := 47) rfl rfl ⟨by omega, by omega⟩ ⟨by omega, by omega⟩ (fun c2 => ?_) (fun c2 => ?_)
            · have c2 := c2
              refine sL (pc' := 60) (i := .aload_n 0) rfl rfl ?_
              refine sGc (p := 63) rfl rfl (sk_69 _) rfl rfl rfl ?_
              refine sCv (p := 66) (as := []) rfl rfl rfl rfl (by decide) (Nat.le_of_ble_eq_true rfl) rfl (Nat.le_of_ble_eq_true rfl) (sk_7 _) rfl (by omega) (c_isFull hE.2.2.2.2.2.1 hE.2.2.2.2.2.2.1 h40) ?_
              refine sBe (p := 69) rfl rfl (fun c3 => ?_) (fun c3 => ?_)
              · have c3 := c3
                have c3 := of_decide_eq_false c3
                refine sL (pc' := 79) (i := .aload_n 0) rfl rfl ?_
                refine sCvQ (p := 82) (as := []) rfl rfl rfl rfl (by decide) (Nat.le_of_ble_eq_true rfl) rfl (Nat.le_of_ble_eq_true rfl) (sk_69 _) rfl (by omega) (c_advance hE hA hlt) ?_
                rintro _ S1 ⟨rfl, hA1, hf1⟩
                have hE1 := rdE_fr hE hf1
                refine sL (pc' := 83) (i := .aload_n 0) rfl rfl ?_
                refine sKb (p := 85) rfl rfl ?_
                refine sCvQ (p := 88) (as := [_]) rfl rfl rfl rfl (by decide) (Nat.le_of_ble_eq_true rfl) rfl (Nat.le_of_ble_eq_true rfl) (sk_69 _) rfl (by omega) (c_expect_n hE1 hA1 hlt q4 (by decide)) ?_
                rintro _ S2 ⟨rfl, hX2, hf2⟩
                have hE2 := rdE_fr hE1 hf2
                refine sL (pc' := 89) (i := .aload_n 0) rfl rfl ?_
                refine sKi (p := 90) rfl rfl ?_
                refine sKi (p := 91) rfl rfl ?_
                refine sCvQ (p := 94) (as := [_, _]) rfl rfl rfl rfl (by decide) (Nat.le_of_ble_eq_true rfl) rfl (Nat.le_of_ble_eq_true rfl) (sk_69 _) rfl (by omega) (hG.2 S2 _ _ 0 hE2 hX2 (by omega)) ?_
                rintro _ S3 ⟨rfl, hf3, hX3⟩
                have hE3 := rdE_fr hE2 hf3
                refine sL (pc' := 95) (i := .aload_n 0) rfl rfl ?_
                refine sKb (p := 97) rfl rfl ?_
                refine sCvQ (p := 100) (as := [_]) rfl rfl rfl rfl (by decide) (Nat.le_of_ble_eq_true rfl) rfl (Nat.le_of_ble_eq_true rfl) (sk_69 _) rfl (by omega) (c_expect_d hX3 (by decide)) ?_
                rintro _ S4 ⟨rfl, hX4, hf4⟩
                have hE4 := rdE_fr hE3 hf4
                obtain ⟨k5, hk5⟩ : ∃ k5 : Nat, SI S4 69 6 = ((k5 : Nat) : Int) ∧ 1 ≤ k5 ∧ k5 ≤ 5 := ⟨_, hX4.2.2.1, hX4.2.2.2.1⟩
                refine sL (pc' := 101) (i := .aload_n 0) rfl rfl ?_
                refine sGi (p := 104) rfl rfl (sk_69 _) rfl rfl rfl hk5.1 ?_
                refine sIf_ne (p := 107) rfl rfl ⟨by omega, by omega⟩ (fun c4 => ?_) (fun c4 => ?_)
                · have c4 := c4
                  refine sEn (i := .return_) rfl (rfl) ?_
                  rw [hR]
                  exact ⟨rfl, frY_trans (frY_R (by omega) hf1) (frY_trans (frY_R (by omega) hf2) (frY_trans (frY_R (by omega) hf3) (frY_R (by omega) hf4))), fun z => absurd z (rf_nz (K := K) (q := 2) (a := i + 1) (by decide)), fun _ => ⟨hX4, hE4⟩⟩
                · exfalso; omega
              · exfalso; have c3 := of_decide_eq_true c3; omega
            · exfalso; omega
          · exfalso; omega
    · rw [if_pos q2] at hR
      refine sIni (ls := [some (.ref 69), none, none]) rfl ?_
      refine sL (pc' := 1) (i := .aload_n 0) rfl rfl ?_
      refine sGc (p := 4) rfl rfl (sk_69 _) rfl rfl rfl ?_
      refine sGc (p := 7) rfl rfl (sk_64 _) rfl rfl rfl ?_
      refine sL (pc' := 8) (i := .aload_n 0) rfl rfl ?_
      refine sGi (p := 11) rfl rfl (sk_69 _) rfl rfl rfl hA.1 ?_
      refine sAl (p := 12) (i := i) rfl rfl (sk_68 _) (by omega) ⟨by omega, by omega⟩ (hE.2.2.1 _ (by omega)).2.2 ?_
      refine sL (pc' := 13) (i := .lstore_n 1) (ls' := [some (.ref 69), some (.long (C i)), none]) rfl rfl ?_
      refine sL (pc' := 14) (i := .aload_n 0) rfl rfl ?_
      refine sGi (p := 17) rfl rfl (sk_69 _) rfl rfl rfl hA.2.1 ?_
      refine sKs (p := 20) rfl rfl ?_
      refine sIc_eq (p := 23) rfl rfl ⟨by omega, by omega⟩ ⟨by omega, by omega⟩ (fun c1 => ?_) (fun c1 => ?_)
      · have c1 := c1
        refine sL (pc' := 36) (i := .aload_n 0) rfl rfl ?_
        refine sGc (p := 39) rfl rfl (sk_69 _) rfl rfl rfl ?_
        refine sL (pc' := 40) (i := .lload_n 1) rfl rfl ?_
        refine sCv (p := 43) (as := [_]) rfl rfl rfl rfl (by decide) (Nat.le_of_ble_eq_true rfl) rfl (Nat.le_of_ble_eq_true rfl) (sk_7 _) rfl (by omega) (c_findName hE.2.2.2.2.2.1 hE.2.2.2.2.2.2.1 h40 hE.2.2.2.2.2.2.2.2.2) ?_
        refine sKi (p := 44) rfl rfl ?_
        refine sIc_eq (p := 47) rfl rfl ⟨by omega, by omega⟩ ⟨by omega, by omega⟩ (fun c2 => ?_) (fun c2 => ?_)
        · exfalso; omega
        · have c2 := c2
          refine sL (pc' := 48) (i := .aload_n 0) rfl rfl ?_
          refine sKi (p := 49) rfl rfl ?_
          refine sL (pc' := 50) (i := .aload_n 0) rfl rfl ?_
          refine sGi (p := 53) rfl rfl (sk_69 _) rfl rfl rfl hA.1 ?_
          refine sCvQ (p := 56) (as := [_, _]) rfl rfl rfl rfl (by decide) (Nat.le_of_ble_eq_true rfl) rfl (Nat.le_of_ble_eq_true rfl) (sk_69 _) rfl (by omega) (c_refuse hE hA hi hi ⟨by decide, by decide⟩) ?_
          rintro _ S1 ⟨rfl, hX1, hf1⟩
          have hE1 := rdE_fr hE hf1
          rw [show rf K 3 i = 3 from if_neg (by omega)] at hX1
          refine sL (i := .goto 22) rfl rfl ?_
          refine sL (pc' := 79) (i := .aload_n 0) rfl rfl ?_
          refine sCvQ (p := 82) (as := []) rfl rfl rfl rfl (by decide) (Nat.le_of_ble_eq_true rfl) rfl (Nat.le_of_ble_eq_true rfl) (sk_69 _) rfl (by omega) (c_advance_d hX1) ?_
          rintro _ S2 ⟨rfl, hX2, hf2⟩
          have hE2 := rdE_fr hE1 hf2
          refine sL (pc' := 83) (i := .aload_n 0) rfl rfl ?_
          refine sKb (p := 85) rfl rfl ?_
          refine sCvQ (p := 88) (as := [_]) rfl rfl rfl rfl (by decide) (Nat.le_of_ble_eq_true rfl) rfl (Nat.le_of_ble_eq_true rfl) (sk_69 _) rfl (by omega) (c_expect_d hX2 (by decide)) ?_
          rintro _ S3 ⟨rfl, hX3, hf3⟩
          have hE3 := rdE_fr hE2 hf3
          refine sL (pc' := 89) (i := .aload_n 0) rfl rfl ?_
          refine sKi (p := 90) rfl rfl ?_
          refine sKi (p := 91) rfl rfl ?_
          refine sCvQ (p := 94) (as := [_, _]) rfl rfl rfl rfl (by decide) (Nat.le_of_ble_eq_true rfl) rfl (Nat.le_of_ble_eq_true rfl) (sk_69 _) rfl (by omega) (hG.2 S3 _ _ 0 hE3 hX3 (by omega)) ?_
          rintro _ S4 ⟨rfl, hf4, hX4⟩
          have hE4 := rdE_fr hE3 hf4
          refine sL (pc' := 95) (i := .aload_n 0) rfl rfl ?_
          refine sKb (p := 97) rfl rfl ?_
          refine sCvQ (p := 100) (as := [_]) rfl rfl rfl rfl (by decide) (Nat.le_of_ble_eq_true rfl) rfl (Nat.le_of_ble_eq_true rfl) (sk_69 _) rfl (by omega) (c_expect_d hX4 (by decide)) ?_
          rintro _ S5 ⟨rfl, hX5, hf5⟩
          have hE5 := rdE_fr hE4 hf5
          obtain ⟨k5, hk5⟩ : ∃ k5 : Nat, SI S5 69 6 = ((k5 : Nat) : Int) ∧ 1 ≤ k5 ∧ k5 ≤ 5 := ⟨_, hX5.2.2.1, hX5.2.2.2.1⟩
          refine sL (pc' := 101) (i := .aload_n 0) rfl rfl ?_
          refine sGi (p := 104) rfl rfl (sk_69 _) rfl rfl rfl hk5.1 ?_
          refine sIf_ne (p := 107) rfl rfl ⟨by omega, by omega⟩ (fun c3 => ?_) (fun c3 => ?_)
          · have c3 := c3
            refine sEn (i := .return_) rfl (rfl) ?_
            rw [hR]
            exact ⟨rfl, frY_trans (frY_R (by omega) hf1) (frY_trans (frY_R (by omega) hf2) (frY_trans (frY_R (by omega) hf3) (frY_trans (frY_R (by omega) hf4) (frY_R (by omega) hf5)))), fun z => absurd z (show (3 : Nat) ≠ 0 by decide), fun _ => ⟨hX5, hE5⟩⟩
          · exfalso; omega
      · exfalso; omega
  · rw [if_pos q1] at hR
    refine sIni (ls := [some (.ref 69), none, none]) rfl ?_
    refine sL (pc' := 1) (i := .aload_n 0) rfl rfl ?_
    refine sGc (p := 4) rfl rfl (sk_69 _) rfl rfl rfl ?_
    refine sGc (p := 7) rfl rfl (sk_64 _) rfl rfl rfl ?_
    refine sL (pc' := 8) (i := .aload_n 0) rfl rfl ?_
    refine sGi (p := 11) rfl rfl (sk_69 _) rfl rfl rfl hA.1 ?_
    refine sAl (p := 12) (i := i) rfl rfl (sk_68 _) (by omega) ⟨by omega, by omega⟩ (hE.2.2.1 _ (by omega)).2.2 ?_
    refine sL (pc' := 13) (i := .lstore_n 1) (ls' := [some (.ref 69), some (.long (C i)), none]) rfl rfl ?_
    refine sL (pc' := 14) (i := .aload_n 0) rfl rfl ?_
    refine sGi (p := 17) rfl rfl (sk_69 _) rfl rfl rfl hA.2.1 ?_
    refine sKs (p := 20) rfl rfl ?_
    refine sIc_eq (p := 23) rfl rfl ⟨by omega, by omega⟩ ⟨by omega, by omega⟩ (fun c1 => ?_) (fun c1 => ?_)
    · exfalso; omega
    · have c1 := c1
      refine sL (pc' := 24) (i := .aload_n 0) rfl rfl ?_
      refine sKi (p := 25) rfl rfl ?_
      refine sL (pc' := 26) (i := .aload_n 0) rfl rfl ?_
      refine sGi (p := 29) rfl rfl (sk_69 _) rfl rfl rfl hA.1 ?_
      refine sCvQ (p := 32) (as := [_, _]) rfl rfl rfl rfl (by decide) (Nat.le_of_ble_eq_true rfl) rfl (Nat.le_of_ble_eq_true rfl) (sk_69 _) rfl (by omega) (c_refuse hE hA hi hi ⟨by decide, by decide⟩) ?_
      rintro _ S1 ⟨rfl, hX1, hf1⟩
      have hE1 := rdE_fr hE hf1
      refine sL (i := .goto 46) rfl rfl ?_
      refine sL (pc' := 79) (i := .aload_n 0) rfl rfl ?_
      refine sCvQ (p := 82) (as := []) rfl rfl rfl rfl (by decide) (Nat.le_of_ble_eq_true rfl) rfl (Nat.le_of_ble_eq_true rfl) (sk_69 _) rfl (by omega) (c_advance_d hX1) ?_
      rintro _ S2 ⟨rfl, hX2, hf2⟩
      have hE2 := rdE_fr hE1 hf2
      refine sL (pc' := 83) (i := .aload_n 0) rfl rfl ?_
      refine sKb (p := 85) rfl rfl ?_
      refine sCvQ (p := 88) (as := [_]) rfl rfl rfl rfl (by decide) (Nat.le_of_ble_eq_true rfl) rfl (Nat.le_of_ble_eq_true rfl) (sk_69 _) rfl (by omega) (c_expect_d hX2 (by decide)) ?_
      rintro _ S3 ⟨rfl, hX3, hf3⟩
      have hE3 := rdE_fr hE2 hf3
      refine sL (pc' := 89) (i := .aload_n 0) rfl rfl ?_
      refine sKi (p := 90) rfl rfl ?_
      refine sKi (p := 91) rfl rfl ?_
      refine sCvQ (p := 94) (as := [_, _]) rfl rfl rfl rfl (by decide) (Nat.le_of_ble_eq_true rfl) rfl (Nat.le_of_ble_eq_true rfl) (sk_69 _) rfl (by omega) (hG.2 S3 _ _ 0 hE3 hX3 (by omega)) ?_
      rintro _ S4 ⟨rfl, hf4, hX4⟩
      have hE4 := rdE_fr hE3 hf4
      refine sL (pc' := 95) (i := .aload_n 0) rfl rfl ?_
      refine sKb (p := 97) rfl rfl ?_
      refine sCvQ (p := 100) (as := [_]) rfl rfl rfl rfl (by decide) (Nat.le_of_ble_eq_true rfl) rfl (Nat.le_of_ble_eq_true rfl) (sk_69 _) rfl (by omega) (c_expect_d hX4 (by decide)) ?_
      rintro _ S5 ⟨rfl, hX5, hf5⟩
      have hE5 := rdE_fr hE4 hf5
      obtain ⟨k5, hk5⟩ : ∃ k5 : Nat, SI S5 69 6 = ((k5 : Nat) : Int) ∧ 1 ≤ k5 ∧ k5 ≤ 5 := ⟨_, hX5.2.2.1, hX5.2.2.2.1⟩
      refine sL (pc' := 101) (i := .aload_n 0) rfl rfl ?_
      refine sGi (p := 104) rfl rfl (sk_69 _) rfl rfl rfl hk5.1 ?_
      refine sIf_ne (p := 107) rfl rfl ⟨by omega, by omega⟩ (fun c2 => ?_) (fun c2 => ?_)
      · have c2 := c2
        refine sEn (i := .return_) rfl (rfl) ?_
        rw [hR]
        exact ⟨rfl, frY_trans (frY_R (by omega) hf1) (frY_trans (frY_R (by omega) hf2) (frY_trans (frY_R (by omega) hf3) (frY_trans (frY_R (by omega) hf4) (frY_R (by omega) hf5)))), fun z => absurd z (rf_nz (K := K) (q := 2) (a := i) (by decide)), fun _ => ⟨hX5, hE5⟩⟩
      · exfalso; omega
end RF
