/-! ===== the reference: number ===== -/
theorem eqW_trans {f g h : Nat → Bool} (h1 : eqW f g = true) (h2 : eqW g h = true) : eqW f h = true := eqW_iff.mpr (fun r hr => (eqW_iff.mp h1 r hr).trans (eqW_iff.mp h2 r hr))
theorem nM_ins {S : ST} {c N s : Nat} {L : Nat → Nat → Bool} {g : Nat → Bool} (hm : nM S c L) (hnew : ∀ i, i < c → eqW (L i) g = false) (hs0 : s = (hs g + N) % 32768) (he : SI S 198 s = -1) (hp : ∀ e, e < N → SI S 198 ((hs g + e) % 32768) ≠ -1) : nM (wI (wKw (wI S 198 s (c : Nat)) 195 (16 * c) 16 g) 179 38 ((c + 1 : Nat) : Int)) (c + 1) (fun i => if i = c then g else L i) := by
  obtain ⟨m1, m2, m3, m4, m5, m6⟩ := hm
  have hs1 : s < 32768 := by rw [hs0]; exact Nat.mod_lt _ (by decide)
  have e198 : ∀ t, SI (wI (wKw (wI S 198 s (c : Nat)) 195 (16 * c) 16 g) 179 38 ((c + 1 : Nat) : Int)) 198 t = if t = s then (c : Int) else SI S 198 t := fun t => by
    rw [SI_wI, if_neg (fun z => absurd z.1 (by decide))]
    show SI (wI S 198 s (c : Nat)) 198 t = _
    rw [SI_wI]
    by_cases ct : t = s
    · rw [if_pos ⟨rfl, ct⟩, if_pos ct]
    · rw [if_neg (fun z => ct z.2), if_neg ct]
  refine ⟨rfl, fun i hi => ?_, fun t ht => ?_, fun t u ht hu e hne => ?_, fun i hi => ?_, fun i j hij hj => ?_⟩
  · dsimp only
    by_cases ci : i = c
    · subst ci
      rw [if_pos rfl]
      exact rowS_wRw (wI S 198 s _) 195 (16 * i) g
    · rw [if_neg ci]
      exact rowS_ne (S := wI S 198 s (c : Nat)) (a := 195) (o := 16 * c) (f := g) (by omega) (m2 i (by omega))
  · rw [e198]
    by_cases ct : t = s
    · rw [if_pos ct]
      omega
    · rw [if_neg ct]
      have := m3 t ht
      omega
  · rw [e198, e198] at e
    rw [e198] at hne
    by_cases ct : t = s
    · by_cases cu : u = s
      · omega
      · rw [if_pos ct, if_neg cu] at e
        have := m3 u hu
        omega
    · rw [if_neg ct] at e hne
      by_cases cu : u = s
      · rw [if_pos cu] at e
        have := m3 t ht
        omega
      · rw [if_neg cu] at e
        exact m4 t u ht hu e hne
  · dsimp only
    by_cases ci : i = c
    · subst ci
      rw [if_pos rfl]
      refine ⟨N, ?_, fun e he2 => ?_⟩
      · rw [e198, ← hs0, if_pos rfl]
      · rw [e198]
        by_cases ct : (hs g + e) % 32768 = s
        · rw [if_pos ct]
          omega
        · rw [if_neg ct]
          exact hp e he2
    · rw [if_neg ci]
      obtain ⟨d, h1, h2⟩ := m5 i (by omega)
      refine ⟨d, ?_, fun e he2 => ?_⟩
      · rw [e198, if_neg (fun z => by rw [z, he] at h1; omega)]
        exact h1
      · rw [e198]
        by_cases ct : (hs (L i) + e) % 32768 = s
        · rw [if_pos ct]
          omega
        · rw [if_neg ct]
          exact h2 e he2
  · dsimp only
    rw [if_neg (show ¬ i = c by omega)]
    by_cases cj : j = c
    · rw [if_pos cj]
      exact hnew i (by omega)
    · rw [if_neg cj]
      exact m6 i j hij (by omega)
theorem nM_new {S : ST} {c N : Nat} {L : Nat → Nat → Bool} {g : Nat → Bool} (hm : nM S c L) (he : SI S 198 ((hs g + N) % 32768) = -1) (hp : ∀ e, e < N → ¬ (SI S 198 ((hs g + e) % 32768) = -1 ∨ ∃ i : Nat, i < c ∧ SI S 198 ((hs g + e) % 32768) = (i : Int) ∧ eqW (L i) g = true)) : ∀ i, i < c → eqW (L i) g = false := fun i hi => by
  cases e0 : eqW (L i) g with
  | false => rfl
  | true =>
    exfalso
    obtain ⟨d, h1, h2⟩ := hm.2.2.2.2.1 i hi
    rw [hs_c e0] at h1 h2
    by_cases c1 : d < N
    · exact hp d c1 (Or.inr ⟨i, hi, h1, e0⟩)
    · by_cases c2 : N < d
      · exact h2 N c2 he
      · have : d = N := by omega
        subst this
        rw [he] at h1
        omega
theorem nM_idx {S : ST} {c i : Nat} {L : Nat → Nat → Bool} {g : Nat → Bool} (hm : nM S c L) (hi : i < c) (e : eqW (L i) g = true) : fbF (fun i => eqW (L i) g) c 0 = i := fbF_eq hi e (fun j hj => by
  cases e0 : eqW (L j) g with
  | false => rfl
  | true =>
    have h1 := hm.2.2.2.2.2 j i hj hi
    rw [eqW_trans e0 (eqW_symm e)] at h1
    cases h1)
theorem nM_no {c : Nat} {L : Nat → Nat → Bool} {g : Nat → Bool} (h : ∀ i, i < c → eqW (L i) g = false) : fbF (fun i => eqW (L i) g) c 0 = c := by
  have hk := fbF_ok (fun i => eqW (L i) g) c 0
  by_cases c1 : fbF (fun i => eqW (L i) g) c 0 < c
  · have h1 := hk.2.2 (by omega)
    have h2 := h _ c1
    exact absurd (h1.symm.trans h2) (by decide)
  · omega
theorem rd_ins (S : ST) (s o : Nat) (x z : Int) (g : Nat → Bool) : SI (wI (wKw (wI S 198 s x) 195 o 16 g) 179 38 z) 198 s = x := by
  rw [SI_wI, if_neg (fun z => absurd z.1 (by decide))]
  show SI (wI S 198 s x) 198 s = x
  rw [SI_wI, if_pos ⟨rfl, rfl⟩]
section M7
variable {X : List Int32} {S : ST} {n : Nat} {sz : Nat → Nat} {a o N : Nat} {g : Nat → Bool} {c : Nat} {L : Nat → Nat → Bool}
theorem m_number (hv : vM S n sz) (hm : nM S c L) (hc : c < 12000) (hka : kd S a = some (.inl (2, N))) (hN : o + 16 ≤ N ∧ N < 1000000) (ha : a ≠ 195) (hg : rowS S a o g) : sM X 2 230 [.ref 179, .ref a, .int (iI (o : Nat))] S (fun v S' => v = some (.int (iI (cdN (pr sz n) c L g))) ∧ nM S' (addN (pr sz n) c L g).1 (addN (pr sz n) c L g).2 ∧ frN S S') := by
  have hn := hv.1.1
  have hT0 := hv.1.2.2
  have hlv := lfv_v (pr sz n) g
  have hsl := hs_lt g
  obtain ⟨d0, hd0, hf0⟩ := nM_free hm (by omega) (hs g)
  obtain ⟨D, hD1, hN2, hD3⟩ := least (P := fun d => SI S 198 ((hs g + d) % 32768) = -1 ∨ ∃ i : Nat, i < c ∧ SI S 198 ((hs g + d) % 32768) = (i : Int) ∧ eqW (L i) g = true) (Or.inl hf0)
  refine sIni (ls := [some (.ref 179), some (.ref a), some (.int (iI ((o : Nat) : Int))), none, none, none, none, none]) rfl ?_
  refine sL (pc' := 1) (i := .aload_n 0) rfl rfl ?_
  refine sL (pc' := 2) (i := .aload_n 1) rfl rfl ?_
  refine sL (pc' := 3) (i := .iload_n 2) rfl rfl ?_
  refine sCv (p := 6) (as := [_, _]) rfl rfl rfl rfl (by decide) (Nat.le_of_ble_eq_true rfl) rfl (Nat.le_of_ble_eq_true rfl) (sk_179 _) rfl (by omega) (m_leaf hv hka hN hg) ?_
  refine sL (pc' := 7) (i := .istore_n 3) (ls' := [some (.ref 179), some (.ref a), some (.int (iI ((o : Nat) : Int))), some (.int (iI (lfv (pr sz n) g))), none, none, none, none]) rfl rfl ?_
  refine sL (pc' := 8) (i := .iload_n 3) rfl rfl ?_
  refine sKi (p := 9) rfl rfl ?_
  refine sIc_eq (p := 12) rfl rfl ⟨by omega, by omega⟩ ⟨by omega, by omega⟩ (fun c1 => ?_) (fun c1 => ?_)
  · have c1 := c1
    have hlf := c1
    refine sL (pc' := 17) (i := .ldc2_w 308) rfl rfl ?_
    refine sL (pc' := 19) (i := .lstore 4) (ls' := [some (.ref 179), some (.ref a), some (.int (iI ((o : Nat) : Int))), some (.int (iI (lfv (pr sz n) g))), some (.long (lN 7)), none, none, none]) rfl rfl ?_
    refine sKi (p := 20) rfl rfl ?_
    refine sL (pc' := 22) (i := .istore 6) (ls' := [some (.ref 179), some (.ref a), some (.int (iI ((o : Nat) : Int))), some (.int (iI (lfv (pr sz n) g))), some (.long (lN 7)), none, some (.int (iI 0)), none]) rfl rfl ?_
    refine sIt (A := fun i => [some (.ref 179), some (.ref a), some (.int (iI ((o : Nat) : Int))), some (.int (iI (lfv (pr sz n) g))), some (.long (hsr g i)), none, some (.int (iI ((i : Nat) : Int))), none]) (B := fun _ => S) (fun _ => True) 16 True.intro (fun i hi22 hI22 ih22 => ?_) (fun hI22 => ?_)
    · have hi22 := hi22
      refine sL (pc' := 24) (i := .iload 6) rfl rfl ?_
      refine sKb (p := 26) rfl rfl ?_
      refine sIc_ge (p := 29) rfl rfl ⟨by omega, by omega⟩ ⟨by omega, by omega⟩ (fun c2 => ?_) (fun c2 => ?_)
      · exfalso; omega
      · have c2 := c2
        refine sL (pc' := 31) (i := .lload 4) rfl rfl ?_
        refine sL (pc' := 32) (i := .aload_n 1) rfl rfl ?_
        refine sL (pc' := 33) (i := .iload_n 2) rfl rfl ?_
        refine sL (pc' := 35) (i := .iload 6) rfl rfl ?_
        refine sAd (p := 36) rfl rfl ?_
        refine sAl (p := 37) (i := o + i) rfl rfl hka (by omega) ⟨by omega, by omega⟩ (hg i (by omega)) ?_
        refine sL (pc' := 38) (i := .lxor) rfl rfl ?_
        refine sL (pc' := 41) (i := .ldc2_w 310) rfl rfl ?_
        refine sL (pc' := 42) (i := .lmul) rfl rfl ?_
        refine sL (pc' := 44) (i := .lstore 4) (ls' := [some (.ref 179), some (.ref a), some (.int (iI ((o : Nat) : Int))), some (.int (iI (lfv (pr sz n) g))), some (.long ((hsr g i ^^^ pkw g i) * lN 11400714819323198485)), none, some (.int (iI ((i : Nat) : Int))), none]) rfl rfl ?_
        refine sL (pc' := 46) (i := .lload 4) rfl rfl ?_
        refine sL (pc' := 48) (i := .lload 4) rfl rfl ?_
        refine sKb (p := 50) rfl rfl ?_
        refine sL (pc' := 51) (i := .lushr) (st' := [.long (ush ((hsr g i ^^^ pkw g i) * lN 11400714819323198485) (iI 31)), .long ((hsr g i ^^^ pkw g i) * lN 11400714819323198485)]) rfl rfl ?_
        refine sL (pc' := 52) (i := .lxor) rfl rfl ?_
        refine sL (pc' := 54) (i := .lstore 4) (ls' := [some (.ref 179), some (.ref a), some (.int (iI ((o : Nat) : Int))), some (.int (iI (lfv (pr sz n) g))), some (.long (((hsr g i ^^^ pkw g i) * lN 11400714819323198485) ^^^ ush ((hsr g i ^^^ pkw g i) * lN 11400714819323198485) (iI 31))), none, some (.int (iI ((i : Nat) : Int))), none]) rfl rfl ?_
        refine sInX (z := ((i : Nat) : Int)) (ls' := [some (.ref 179), some (.ref a), some (.int (iI ((o : Nat) : Int))), some (.int (iI (lfv (pr sz n) g))), some (.long (((hsr g i ^^^ pkw g i) * lN 11400714819323198485) ^^^ ush ((hsr g i ^^^ pkw g i) * lN 11400714819323198485) (iI 31))), none, some (.int (iI (((i : Nat) : Int) + 1))), none]) (p := 57) rfl rfl (Nat.le_of_ble_eq_true rfl) rfl rfl ?_
        refine sL (i := .goto (-35)) rfl rfl ?_
        refine sRo (ls := [some (.ref 179), some (.ref a), some (.int (iI ((o : Nat) : Int))), some (.int (iI (lfv (pr sz n) g))), some (.long (hsr g (i + 1))), none, some (.int (iI ((i + 1 : Nat) : Int))), none]) (T := _) (And.intro rfl (And.intro rfl (And.intro rfl (And.intro rfl (And.intro rfl (And.intro rfl (True.intro))))))) (rfl) (ih22 ?_)
        exact True.intro
    · have hI22 := hI22
      refine sL (pc' := 24) (i := .iload 6) rfl rfl ?_
      refine sKb (p := 26) rfl rfl ?_
      refine sIc_ge (p := 29) rfl rfl ⟨by omega, by omega⟩ ⟨by omega, by omega⟩ (fun c3 => ?_) (fun c3 => ?_)
      · have c3 := c3
        refine sL (pc' := 62) (i := .lload 4) rfl rfl ?_
        refine sKb (p := 64) rfl rfl ?_
        refine sL (pc' := 65) (i := .lushr) (st' := [.long (ush (hsr g 16) (iI 49))]) rfl rfl ?_
        refine sL (pc' := 66) (i := .l2i) (st' := [.int ((ush (hsr g 16) (iI 49)).toInt32)]) rfl rfl ?_
        rw [hs_slot]
        refine sL (pc' := 68) (i := .istore 6) (ls' := [some (.ref 179), some (.ref a), some (.int (iI ((o : Nat) : Int))), some (.int (iI (lfv (pr sz n) g))), some (.long (hsr g 16)), none, some (.int (iI ((hs g : Nat) : Int))), none]) rfl rfl ?_
        refine sFg (ls := [some (.ref 179), some (.ref a), some (.int (iI ((o : Nat) : Int))), some (.int (iI (lfv (pr sz n) g))), some (.long (hsr g 16)), none, some (.int (iI (((hs g + 0) % 32768 : Nat) : Int))), none]) (xx_ll_le (And.intro rfl (And.intro rfl (And.intro rfl (And.intro rfl (And.intro rfl (And.intro (congrArg (fun z => some (Value.int (iI z))) (by omega)) True.intro))))))) ?_
        refine sIt (A := fun d => [some (.ref 179), some (.ref a), some (.int (iI ((o : Nat) : Int))), some (.int (iI (lfv (pr sz n) g))), some (.long (hsr g 16)), none, some (.int (iI (((hs g + d) % 32768 : Nat) : Int))), none]) (B := fun _ => S) (fun _ => True) D True.intro (fun d hd _ ih => ?_) (fun _ => ?_)
        · have hst := hN2 d hd
          have hne : SI S 198 ((hs g + d) % 32768) ≠ -1 := fun z => hst (Or.inl z)
          have hrd0 := hm.2.2.1 ((hs g + d) % 32768) (Nat.mod_lt _ (by decide))
          obtain ⟨i0, ei0⟩ : ∃ i0 : Nat, SI S 198 ((hs g + d) % 32768) = (i0 : Int) := ⟨(SI S 198 ((hs g + d) % 32768)).toNat, by omega⟩
          have hi0 : i0 < c := by omega
          refine sL (pc' := 69) (i := .aload_n 0) rfl rfl ?_
          refine sGc (p := 72) rfl rfl (sk_179 _) rfl rfl rfl ?_
          refine sL (pc' := 74) (i := .iload 6) rfl rfl ?_
          refine sAi (p := 75) (i := (hs g + d) % 32768) rfl rfl (sk_198 _) (by omega) ⟨Nat.mod_lt _ (by decide), by omega⟩ ei0 ?_
          refine sKi (p := 76) rfl rfl ?_
          refine sIc_eq (p := 79) rfl rfl ⟨by omega, by omega⟩ ⟨by omega, by omega⟩ (fun c4 => ?_) (fun c4 => ?_)
          · exfalso; omega
          · have c4 := c4
            refine sL (pc' := 80) (i := .aload_n 0) rfl rfl ?_
            refine sKb (p := 82) rfl rfl ?_
            refine sL (pc' := 83) (i := .aload_n 0) rfl rfl ?_
            refine sGc (p := 86) rfl rfl (sk_179 _) rfl rfl rfl ?_
            refine sL (pc' := 88) (i := .iload 6) rfl rfl ?_
            refine sAi (p := 89) (i := (hs g + d) % 32768) rfl rfl (sk_198 _) (by omega) ⟨Nat.mod_lt _ (by decide), by omega⟩ ei0 ?_
            refine sMu (p := 90) rfl rfl ?_
            rw [show ((16 * ((i0 : Nat) : Int))) = (((16 * i0 : Nat) : Int)) from by omega]
            refine sL (pc' := 91) (i := .aload_n 1) rfl rfl ?_
            refine sL (pc' := 92) (i := .iload_n 2) rfl rfl ?_
            refine sCv (p := 95) (as := [_, _, _]) rfl rfl rfl rfl (by decide) (Nat.le_of_ble_eq_true rfl) rfl (Nat.le_of_ble_eq_true rfl) (sk_179 _) rfl (by omega) (m_isSame (i0 := i0) (by omega) (hm.2.1 i0 hi0) hka hN hg) ?_
            refine sBn (p := 98) rfl rfl (fun c5 => ?_) (fun c5 => ?_)
            · exfalso; exact hst (Or.inr ⟨i0, hi0, ei0, c5⟩)
            · have c5 := c5
              refine sL (pc' := 100) (i := .iload 6) rfl rfl ?_
              refine sKi (p := 101) rfl rfl ?_
              refine sAd (p := 102) rfl rfl ?_
              refine sKs (p := 105) rfl rfl ?_
              refine sAn 15 (p := 106) (z := (((hs g + (d + 1)) % 32768 : Nat) : Int)) rfl rfl rfl (by decide) (by omega) ?_
              refine sL (pc' := 108) (i := .istore 6) (ls' := [some (.ref 179), some (.ref a), some (.int (iI ((o : Nat) : Int))), some (.int (iI (lfv (pr sz n) g))), some (.long (hsr g 16)), none, some (.int (iI (((hs g + (d + 1)) % 32768 : Nat) : Int))), none]) rfl rfl ?_
              refine sL (i := .goto (-40)) rfl rfl ?_
              exact ih True.intro
        · by_cases hemp : SI S 198 ((hs g + D) % 32768) = -1
          · have hnew := nM_new hm hemp hN2
            refine sL (pc' := 69) (i := .aload_n 0) rfl rfl ?_
            refine sGc (p := 72) rfl rfl (sk_179 _) rfl rfl rfl ?_
            refine sL (pc' := 74) (i := .iload 6) rfl rfl ?_
            refine sAi (p := 75) (i := (hs g + D) % 32768) rfl rfl (sk_198 _) (by omega) ⟨Nat.mod_lt _ (by decide), by omega⟩ hemp ?_
            refine sKi (p := 76) rfl rfl ?_
            refine sIc_eq (p := 79) rfl rfl ⟨by omega, by omega⟩ ⟨by omega, by omega⟩ (fun c6 => ?_) (fun c6 => ?_)
            · have c6 := c6
              refine sL (pc' := 112) (i := .aload_n 0) rfl rfl ?_
              refine sGc (p := 115) rfl rfl (sk_179 _) rfl rfl rfl ?_
              refine sL (pc' := 117) (i := .iload 6) rfl rfl ?_
              refine sAi (p := 118) (i := (hs g + D) % 32768) rfl rfl (sk_198 _) (by omega) ⟨by omega, by omega⟩ hemp ?_
              refine sKi (p := 119) rfl rfl ?_
              refine sIc_ne (p := 122) rfl rfl ⟨by omega, by omega⟩ ⟨by omega, by omega⟩ (fun c7 => ?_) (fun c7 => ?_)
              · exact absurd c7 (by decide)
              · have c7 := c7
                refine sL (pc' := 123) (i := .aload_n 0) rfl rfl ?_
                refine sGc (p := 126) rfl rfl (sk_179 _) rfl rfl rfl ?_
                refine sL (pc' := 128) (i := .iload 6) rfl rfl ?_
                refine sL (pc' := 129) (i := .aload_n 0) rfl rfl ?_
                refine sGi (p := 132) rfl rfl (sk_179 _) rfl rfl rfl hm.1 ?_
                refine sWi (p := 133) (i := (hs g + D) % 32768) rfl rfl (sk_198 _) (by omega) ⟨by omega, by omega⟩ ?_
                refine sKi (p := 134) rfl rfl ?_
                refine sL (pc' := 136) (i := .istore 7) (ls' := [some (.ref 179), some (.ref a), some (.int (iI ((o : Nat) : Int))), some (.int (iI (lfv (pr sz n) g))), some (.long (hsr g 16)), none, some (.int (iI (((hs g + D) % 32768 : Nat) : Int))), some (.int (iI 0))]) rfl rfl ?_
                refine sSh (T := wKw (wI S 198 ((hs g + D) % 32768) ((c : Nat) : Int)) 195 (16 * c) 0 g) (congrArg sH (wKw_0 _ _ _ _).symm) ?_
                refine sIt (A := fun i => [some (.ref 179), some (.ref a), some (.int (iI ((o : Nat) : Int))), some (.int (iI (lfv (pr sz n) g))), some (.long (hsr g 16)), none, some (.int (iI (((hs g + D) % 32768 : Nat) : Int))), some (.int (iI ((i : Nat) : Int)))]) (B := fun i => wKw (wI S 198 ((hs g + D) % 32768) ((c : Nat) : Int)) 195 (16 * c) i g) (fun _ => True) 16 True.intro (fun i hi136 hI136 ih136 => ?_) (fun hI136 => ?_)
                · have hi136 := hi136
                  refine sL (pc' := 138) (i := .iload 7) rfl rfl ?_
                  refine sKb (p := 140) rfl rfl ?_
                  refine sIc_ge (p := 143) rfl rfl ⟨by omega, by omega⟩ ⟨by omega, by omega⟩ (fun c8 => ?_) (fun c8 => ?_)
                  · exfalso; omega
                  · have c8 := c8
                    refine sL (pc' := 144) (i := .aload_n 0) rfl rfl ?_
                    refine sGc (p := 147) rfl rfl (sk_179 _) rfl rfl rfl ?_
                    refine sKb (p := 149) rfl rfl ?_
                    refine sL (pc' := 150) (i := .aload_n 0) rfl rfl ?_
                    refine sGi (p := 153) rfl rfl (sk_179 _) rfl rfl rfl hm.1 ?_
                    refine sMu (p := 154) rfl rfl ?_
                    refine sL (pc' := 156) (i := .iload 7) rfl rfl ?_
                    refine sAd (p := 157) rfl rfl ?_
                    refine sL (pc' := 158) (i := .aload_n 1) rfl rfl ?_
                    refine sL (pc' := 159) (i := .iload_n 2) rfl rfl ?_
                    refine sL (pc' := 161) (i := .iload 7) rfl rfl ?_
                    refine sAd (p := 162) rfl rfl ?_
                    refine sAl (p := 163) (i := o + i) rfl rfl hka (by omega) ⟨by omega, by omega⟩ ((SL_wKw _ _ _ _ _ _ _).trans ((if_neg (fun z => ha z.1)).trans (hg i (by omega)))) ?_
                    refine sWl (p := 164) (i := (16 * c) + i) rfl rfl (sk_195 _) (by omega) ⟨by omega, by omega⟩ ?_
                    refine sInX (z := ((i : Nat) : Int)) (ls' := [some (.ref 179), some (.ref a), some (.int (iI ((o : Nat) : Int))), some (.int (iI (lfv (pr sz n) g))), some (.long (hsr g 16)), none, some (.int (iI (((hs g + D) % 32768 : Nat) : Int))), some (.int (iI (((i : Nat) : Int) + 1)))]) (p := 167) rfl rfl (Nat.le_of_ble_eq_true rfl) rfl rfl ?_
                    refine sL (i := .goto (-31)) rfl rfl ?_
                    refine sRo (ls := [some (.ref 179), some (.ref a), some (.int (iI ((o : Nat) : Int))), some (.int (iI (lfv (pr sz n) g))), some (.long (hsr g 16)), none, some (.int (iI (((hs g + D) % 32768 : Nat) : Int))), some (.int (iI ((i + 1 : Nat) : Int)))]) (T := wKw (wI S 198 ((hs g + D) % 32768) ((c : Nat) : Int)) 195 (16 * c) (i + 1) g) (And.intro rfl (And.intro rfl (And.intro rfl (And.intro rfl (And.intro rfl (And.intro rfl (And.intro rfl (True.intro)))))))) (congrArg sH (wKw_s rfl rfl)) (ih136 ?_)
                    exact True.intro
                · have hI136 := hI136
                  refine sL (pc' := 138) (i := .iload 7) rfl rfl ?_
                  refine sKb (p := 140) rfl rfl ?_
                  refine sIc_ge (p := 143) rfl rfl ⟨by omega, by omega⟩ ⟨by omega, by omega⟩ (fun c9 => ?_) (fun c9 => ?_)
                  · have c9 := c9
                    refine sL (pc' := 171) (i := .aload_n 0) rfl rfl ?_
                    refine sL (pc' := 172) (i := .dup) rfl rfl ?_
                    refine sGi (p := 175) rfl rfl (sk_179 _) rfl rfl rfl hm.1 ?_
                    refine sKi (p := 176) rfl rfl ?_
                    refine sAd (p := 177) rfl rfl ?_
                    refine sPi (z := (((c : Nat) : Int) + 1)) (p := 180) rfl rfl (sk_179 _) rfl rfl rfl rfl ?_
                    refine sL (pc' := 181) (i := .aload_n 0) rfl rfl ?_
                    refine sGc (p := 184) rfl rfl (sk_179 _) rfl rfl rfl ?_
                    refine sL (pc' := 186) (i := .iload 6) rfl rfl ?_
                    refine sAi (p := 187) (i := (hs g + D) % 32768) rfl rfl (sk_198 _) (by omega) ⟨Nat.mod_lt _ (by decide), Nat.lt_trans (Nat.mod_lt _ (by decide)) (by decide)⟩ (rd_ins _ _ _ _ _ _) ?_
                    refine sKi (p := 188) rfl rfl ?_
                    refine sAd (p := 189) rfl rfl ?_
                    refine sEn (i := .ireturn) rfl (rfl) ?_
                    have hix := nM_no hnew
                    refine ⟨congrArg (fun z => some (Value.int (iI z))) ?_, ?_, ?_⟩
                    · unfold cdN
                      rw [if_neg (fun z => z hlf), hix]
                    · unfold addN
                      rw [if_neg (fun z => z hlf), if_neg (by rw [hix]; exact Nat.lt_irrefl _)]
                      exact nM_ins hm hnew rfl hemp (fun e he z => hN2 e he (Or.inl z))
                    · refine ⟨rfl, rfl, fun b hb => ?_, fun b h1 h2 => ?_, fun f hf => ?_⟩
                      · exact if_neg hb
                      · funext k
                        rw [SI_wI, if_neg (fun z => h2 z.1)]
                        show SI (wI S 198 ((hs g + D) % 32768) ((c : Nat) : Int)) b k = _
                        rw [SI_wI, if_neg (fun z => h1 z.1)]
                      · rw [SI_wI, if_neg (fun z => hf z.2)]
                        show SI (wI S 198 ((hs g + D) % 32768) ((c : Nat) : Int)) 179 f = _
                        rw [SI_wI, if_neg (fun z => absurd z.1 (by decide))]
                  · exact absurd c9 (by decide)
            · exact absurd c6 (by decide)
          · have hex := Or.resolve_left hD1 hemp
            obtain ⟨i0, hi0, ei0, hsm⟩ := hex
            refine sL (pc' := 69) (i := .aload_n 0) rfl rfl ?_
            refine sGc (p := 72) rfl rfl (sk_179 _) rfl rfl rfl ?_
            refine sL (pc' := 74) (i := .iload 6) rfl rfl ?_
            refine sAi (p := 75) (i := (hs g + D) % 32768) rfl rfl (sk_198 _) (by omega) ⟨Nat.mod_lt _ (by decide), by omega⟩ ei0 ?_
            refine sKi (p := 76) rfl rfl ?_
            refine sIc_eq (p := 79) rfl rfl ⟨by omega, by omega⟩ ⟨by omega, by omega⟩ (fun c10 => ?_) (fun c10 => ?_)
            · exfalso; omega
            · have c10 := c10
              refine sL (pc' := 80) (i := .aload_n 0) rfl rfl ?_
              refine sKb (p := 82) rfl rfl ?_
              refine sL (pc' := 83) (i := .aload_n 0) rfl rfl ?_
              refine sGc (p := 86) rfl rfl (sk_179 _) rfl rfl rfl ?_
              refine sL (pc' := 88) (i := .iload 6) rfl rfl ?_
              refine sAi (p := 89) (i := (hs g + D) % 32768) rfl rfl (sk_198 _) (by omega) ⟨Nat.mod_lt _ (by decide), by omega⟩ ei0 ?_
              refine sMu (p := 90) rfl rfl ?_
              rw [show ((16 * ((i0 : Nat) : Int))) = (((16 * i0 : Nat) : Int)) from by omega]
              refine sL (pc' := 91) (i := .aload_n 1) rfl rfl ?_
              refine sL (pc' := 92) (i := .iload_n 2) rfl rfl ?_
              refine sCv (p := 95) (as := [_, _, _]) rfl rfl rfl rfl (by decide) (Nat.le_of_ble_eq_true rfl) rfl (Nat.le_of_ble_eq_true rfl) (sk_179 _) rfl (by omega) (m_isSame (i0 := i0) (by omega) (hm.2.1 i0 hi0) hka hN hg) ?_
              refine sBn (p := 98) rfl rfl (fun c11 => ?_) (fun c11 => ?_)
              · have c11 := c11
                refine sL (pc' := 112) (i := .aload_n 0) rfl rfl ?_
                refine sGc (p := 115) rfl rfl (sk_179 _) rfl rfl rfl ?_
                refine sL (pc' := 117) (i := .iload 6) rfl rfl ?_
                refine sAi (p := 118) (i := (hs g + D) % 32768) rfl rfl (sk_198 _) (by omega) ⟨by omega, by omega⟩ ei0 ?_
                refine sKi (p := 119) rfl rfl ?_
                refine sIc_ne (p := 122) rfl rfl ⟨by omega, by omega⟩ ⟨by omega, by omega⟩ (fun c12 => ?_) (fun c12 => ?_)
                · have c12 := c12
                  refine sL (pc' := 181) (i := .aload_n 0) rfl rfl ?_
                  refine sGc (p := 184) rfl rfl (sk_179 _) rfl rfl rfl ?_
                  refine sL (pc' := 186) (i := .iload 6) rfl rfl ?_
                  refine sAi (p := 187) (i := (hs g + D) % 32768) rfl rfl (sk_198 _) (by omega) ⟨by omega, by omega⟩ ei0 ?_
                  refine sKi (p := 188) rfl rfl ?_
                  refine sAd (p := 189) rfl rfl ?_
                  refine sEn (i := .ireturn) rfl (rfl) ?_
                  have hix := nM_idx hm hi0 hsm
                  refine ⟨congrArg (fun z => some (Value.int (iI z))) ?_, ?_, frN_refl S⟩
                  · unfold cdN
                    rw [if_neg (fun z => z hlf), hix]
                  · unfold addN
                    rw [if_neg (fun z => z hlf), if_pos (by rw [hix]; exact hi0)]
                    exact hm
                · exfalso; omega
              · exfalso; rw [hsm] at c11; exact absurd c11 (by decide)
      · exact absurd c3 (by decide)
  · have c1 := c1
    refine sL (pc' := 13) (i := .iload_n 3) rfl rfl ?_
    refine sEn (i := .ireturn) rfl (rfl) ?_
    refine ⟨congrArg (fun z => some (Value.int (iI z))) ?_, ?_, frN_refl S⟩
    · unfold cdN
      rw [if_pos (by assumption)]
    · unfold addN
      rw [if_pos (by assumption)]
      exact hm
end M7
