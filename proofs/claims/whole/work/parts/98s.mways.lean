/-! ===== the reference: ways; walking ===== -/
def frW (S S' : ST) : Prop := S'.1 = S.1 ∧ SR S' = SR S ∧ SL S' = SL S ∧ (∀ c, c ≠ 199 → SI S' c = SI S c)
theorem frW_refl (S : ST) : frW S S := ⟨rfl, rfl, rfl, fun _ _ => rfl⟩
theorem frW_trans {A B C : ST} (h : frW A B) (k : frW B C) : frW A C := ⟨k.1.trans h.1, k.2.1.trans h.2.1, k.2.2.1.trans h.2.2.1, fun c hc => (k.2.2.2 c hc).trans (h.2.2.2 c hc)⟩
theorem frW_wI {S : ST} {i : Nat} {z : Int} : frW S (wI S 199 i z) := ⟨rfl, rfl, rfl, fun c hc => u2_ne hc⟩
section M12
variable {X : List Int32} {S : ST} {n : Nat} {sz ord pl : Nat → Nat} {fn N : Nat} {Fn : Nat → Nat → Bool} {L : Nat → Nat → Bool}
theorem m_waysTo {c : Int} {x : Int} (hc : 0 ≤ c ∧ c < 12000) (hx : c < 2 → x = c) (h2 : 2 ≤ c → SI S 199 (c - 2).toNat = x) : sM X 0 235 [.ref 179, .int (iI c)] S (sV (some (.int (iI x))) S) := by
  refine sIni (ls := [some (.ref 179), some (.int (iI c))]) rfl ?_
  refine sL (pc' := 1) (i := .iload_n 1) rfl rfl ?_
  refine sKi (p := 2) rfl rfl ?_
  refine sIc_ge (p := 5) rfl rfl ⟨by omega, by omega⟩ ⟨by omega, by omega⟩ (fun c1 => ?_) (fun c1 => ?_)
  · have c1 := c1
    refine sL (pc' := 10) (i := .aload_n 0) rfl rfl ?_
    refine sGc (p := 13) rfl rfl (sk_179 _) rfl rfl rfl ?_
    refine sL (pc' := 14) (i := .iload_n 1) rfl rfl ?_
    refine sKi (p := 15) rfl rfl ?_
    refine sSb (p := 16) rfl rfl ?_
    refine sAi (p := 17) (i := (c - 2).toNat) rfl rfl (sk_199 _) (by omega) ⟨by omega, by omega⟩ (h2 (by omega)) ?_
    refine sEn (i := .ireturn) rfl (rfl) ?_
    exact ⟨rfl, rfl⟩
  · have c1 := c1
    refine sL (pc' := 6) (i := .iload_n 1) rfl rfl ?_
    refine sL (i := .goto 11) rfl rfl ?_
    refine sEn (i := .ireturn) rfl (rfl) ?_
    exact ⟨by rw [hx (by omega)], rfl⟩
/-- the number of a table in a list that has it -/
theorem cd_wys (hw : wf n sz) (ho : prm n ord pl) {g : Nat → Bool} (ht : tbT (pr sz n) g) (hL : ∀ j, j < N → tbT (pr sz n) (L j)) (hin : lfv (pr sz n) g = -1 → ∃ j, j < N ∧ L j = g) (m : Nat) : (0 ≤ cdN (pr sz n) N L g ∧ cdN (pr sz n) N L g < ((N + 2 : Nat) : Int)) ∧ (cdN (pr sz n) N L g < 2 → ((wys n sz ord m g : Nat) : Int) = cdN (pr sz n) N L g) ∧ (2 ≤ cdN (pr sz n) N L g → (cdN (pr sz n) N L g - 2).toNat < N ∧ L (cdN (pr sz n) N L g - 2).toNat = g ∧ lfv (pr sz n) g = -1) := by
  unfold cdN
  by_cases c : lfv (pr sz n) g ≠ -1
  · rw [if_pos c, wys_lf c]
    rcases lfv_v (pr sz n) g with h | h | h
    · rw [h]
      exact ⟨⟨by omega, by omega⟩, fun _ => rfl, fun h => absurd h (by omega)⟩
    · rw [h]
      exact ⟨⟨by omega, by omega⟩, fun _ => rfl, fun h => absurd h (by omega)⟩
    · exact absurd h c
  · rw [if_neg c]
    have c := Classical.not_not.mp c
    obtain ⟨j, h1, h2⟩ := hin c
    have h3 := fbF_ok (fun i => eqW (L i) g) N 0
    have h4 : fbF (fun i => eqW (L i) g) N 0 < N := Classical.byContradiction fun c2 => by
      have h5 := h3.2.1 j (by omega) (by omega)
      rw [h2, eqW_refl] at h5
      exact absurd h5 (by decide)
    refine ⟨⟨by omega, by omega⟩, fun h => absurd h (by omega), fun _ => ?_⟩
    rw [show (((fbF (fun i => eqW (L i) g) N 0 : Nat) : Int) + 2 - 2).toNat = fbF (fun i => eqW (L i) g) N 0 from by omega]
    exact ⟨h4, (eqW_tb hw.2.2 (hL _ h4) ht).mp (h3.2.2 (by omega)), c⟩
theorem LF_0 {g : Nat → Bool} (hl : lfv (pr sz n) g = -1) (hE : bEnd n sz ord (addN (pr sz n) 0 L0 g).1 (addN (pr sz n) 0 L0 g).2 N) : 0 < N ∧ (bfs n sz ord (addN (pr sz n) 0 L0 g).1 (addN (pr sz n) 0 L0 g).2 N).2 0 = g := by
  have he : addN (pr sz n) 0 L0 g = (1, lup L0 0 g) := addN_new hl (fun j hj => absurd hj (Nat.not_lt_zero j))
  rw [he] at hE ⊢
  have h1 := bfs_ext (n := n) (sz := sz) (ord := ord) (c := 1) (L := lup L0 0 g) (i := 0) (k := N) (by omega)
  have h2 : 1 ≤ (bfs n sz ord 1 (lup L0 0 g) N).1 := h1.1
  have h3 : (bfs n sz ord 1 (lup L0 0 g) N).1 = N := hE.1
  exact ⟨by omega, (h1.2 0 (show 0 < 1 by decide)).trans (show lup L0 0 g 0 = g from lup_at)⟩
theorem m_ways_u {x : Int} (hv : vM S n sz) (hoM : oM S n ord) (ho : prm n ord pl) (hfn : SI S 179 9 = (fn : Nat)) (h40 : fn ≤ 40) (hF : ∀ i, i < fn → rowS S 185 (16 * i) (Fn i)) (htb : ∀ i, i < fn → tbT (pr sz n) (Fn i)) (hx : rg x) (hn : ¬ (0 ≤ x ∧ x < fn)) : sM X 7 236 [.ref 179, .int (iI x)] S (fun r S' => r = some (.int (iI (-101))) ∧ frG S S') := by
  have x1 := hx.1
  have x2 := hx.2
  by_cases c9 : x = -1
  · subst c9
    have hN := (NN_ok hv.1 ho h40 htb).2
    refine sIni (ls := [some (.ref 179), some (.int (iI (-1))), none, none, none]) rfl ?_
    refine sL (pc' := 1) (i := .aload_n 0) rfl rfl ?_
    refine sL (pc' := 2) (i := .iload_n 1) rfl rfl ?_
    refine sCvQ (p := 5) (as := [_]) rfl rfl rfl rfl (by decide) (Nat.le_of_ble_eq_true rfl) rfl (Nat.le_of_ble_eq_true rfl) (sk_179 _) rfl (by omega) (m_size_a hv hoM ho hfn h40 hF htb (NN_ok hv.1 ho h40 htb).1) ?_
    rintro _ Sz ⟨rfl, hfz, hnz, hgz⟩
    refine sIf_lt (p := 8) rfl rfl ⟨by omega, by omega⟩ (fun c1 => ?_) (fun c1 => ?_)
    · have c1 := c1
      refine sKb (p := 15) rfl rfl ?_
      refine sEn (i := .ireturn) rfl (rfl) ?_
      exact ⟨rfl, hfz⟩
    · have c1 := c1
      refine sL (pc' := 9) (i := .iload_n 1) rfl rfl ?_
      refine sKi (p := 10) rfl rfl ?_
      refine sIc_ne (p := 13) rfl rfl ⟨by omega, by omega⟩ ⟨by omega, by omega⟩ (fun c2 => ?_) (fun c2 => ?_)
      · exact absurd c2 (by decide)
      · have c2 := c2
        refine sKb (p := 15) rfl rfl ?_
        refine sEn (i := .ireturn) rfl (rfl) ?_
        exact ⟨rfl, hfz⟩
  · refine sIni (ls := [some (.ref 179), some (.int (iI x)), none, none, none]) rfl ?_
    refine sL (pc' := 1) (i := .aload_n 0) rfl rfl ?_
    refine sL (pc' := 2) (i := .iload_n 1) rfl rfl ?_
    refine sCv (p := 5) (as := [_]) rfl rfl rfl rfl (by decide) (Nat.le_of_ble_eq_true rfl) rfl (Nat.le_of_ble_eq_true rfl) (sk_179 _) rfl (by omega) (m_size_u hfn h40 hx c9 hn) ?_
    refine sIf_lt (p := 8) rfl rfl ⟨by omega, by omega⟩ (fun c1 => ?_) (fun c1 => ?_)
    · have c1 := c1
      refine sKb (p := 15) rfl rfl ?_
      refine sEn (i := .ireturn) rfl (rfl) ?_
      exact ⟨rfl, frG_refl _⟩
    · exact absurd c1 (by decide)
theorem m_ways {f0 : Nat} (hv : vM S n sz) (hoM : oM S n ord) (ho : prm n ord pl) (hfn : SI S 179 9 = (fn : Nat)) (h40 : fn ≤ 40) (hF : ∀ i, i < fn → rowS S 185 (16 * i) (Fn i)) (htb : ∀ i, i < fn → tbT (pr sz n) (Fn i)) (hf0 : f0 < fn) : sM X 7 236 [.ref 179, .int (iI ((f0 : Nat) : Int))] S (fun r S' => r = some (.int (iI ((wys n sz ord 10 (Fn f0) : Nat) : Int))) ∧ ∃ S1, frG S S1 ∧ frW S1 S') := by
  have hn := hv.1.1
  have hT0 := hv.1.2.2
  have hwf := hv.1
  obtain ⟨hE, hN, hLS⟩ := NF_ok (F := Fn) hwf ho h40 hf0 (htb f0 hf0)
  have hfpl : ∀ j, j < NF n sz ord (Fn f0) → fpl n sz ord (LF n sz ord (Fn f0) j) < n := fun j hj => fpl_lt hwf ho (hLS.1 j hj).1 (hLS.1 j hj).2.1
  refine sIni (ls := [some (.ref 179), some (.int (iI ((f0 : Nat) : Int))), none, none, none]) rfl ?_
  refine sL (pc' := 1) (i := .aload_n 0) rfl rfl ?_
  refine sL (pc' := 2) (i := .iload_n 1) rfl rfl ?_
  refine sCvQ (p := 5) (as := [_]) rfl rfl rfl rfl (by decide) (Nat.le_of_ble_eq_true rfl) rfl (Nat.le_of_ble_eq_true rfl) (sk_179 _) rfl (by omega) (m_size_f hv hoM ho hfn h40 hF htb hf0 hE) ?_
  rintro _ S1 ⟨rfl, hfz, hnz, hgz⟩
  have hgz : gM S1 n sz ord (NF n sz ord (Fn f0)) (LF n sz ord (Fn f0)) (NF n sz ord (Fn f0)) := hgz
  refine sIf_lt (p := 8) rfl rfl ⟨by omega, by omega⟩ (fun c1 => ?_) (fun c1 => ?_)
  · exfalso; omega
  · have c1 := c1
    refine sL (pc' := 9) (i := .iload_n 1) rfl rfl ?_
    refine sKi (p := 10) rfl rfl ?_
    refine sIc_ne (p := 13) rfl rfl ⟨by omega, by omega⟩ ⟨by omega, by omega⟩ (fun c2 => ?_) (fun c2 => ?_)
    · have c2 := c2
      refine sL (pc' := 17) (i := .aload_n 0) rfl rfl ?_
      refine sGi (p := 20) rfl rfl (sk_179 _) rfl rfl rfl (frG_vM hfz hv).2.1 ?_
      refine sKi (p := 21) rfl rfl ?_
      refine sSb (p := 22) rfl rfl ?_
      refine sL (pc' := 23) (i := .istore_n 2) (ls' := [some (.ref 179), some (.int (iI ((f0 : Nat) : Int))), some (.int (iI (((n : Nat) : Int) - 1))), none, none]) rfl rfl ?_
      rw [show ((n : Nat) : Int) - 1 = ((n : Nat) : Int) - 1 - ((0 : Nat) : Int) from by omega]
      refine sItR (A := fun i => [some (.ref 179), some (.int (iI ((f0 : Nat) : Int))), some (.int (iI (((n : Nat) : Int) - 1 - ((i : Nat) : Int)))), none, none]) (fun i S => frW S1 S ∧ ∀ j, j < NF n sz ord (Fn f0) → n - i ≤ fpl n sz ord ((LF n sz ord (Fn f0)) j) → SI S 199 j = ((wys n sz ord 10 ((LF n sz ord (Fn f0)) j) : Nat) : Int)) n (⟨frW_refl _, fun j hj h => by have := hfpl j hj; omega⟩) (fun i hi23 Sa hJ23 ih23 => ?_) (fun Saf hJ23 => ?_)
      · have hi23 := hi23
        obtain ⟨hfa, hwa⟩ := hJ23
        have hon := (ho.1 (n - 1 - i) (by omega)).1
        have hsn := hwf.2.1 _ hon
        refine sL (pc' := 24) (i := .iload_n 2) rfl rfl ?_
        refine sIf_lt (p := 27) rfl rfl ⟨by omega, by omega⟩ (fun c3 => ?_) (fun c3 => ?_)
        · exfalso; omega
        · have c3 := c3
          refine sKi (p := 28) rfl rfl ?_
          refine sL (pc' := 29) (i := .istore_n 3) (ls' := [some (.ref 179), some (.int (iI ((f0 : Nat) : Int))), some (.int (iI (((n : Nat) : Int) - 1 - ((i : Nat) : Int)))), some (.int (iI 0)), none]) rfl rfl ?_
          refine sItR (A := fun j => [some (.ref 179), some (.int (iI ((f0 : Nat) : Int))), some (.int (iI (((n : Nat) : Int) - 1 - ((i : Nat) : Int)))), some (.int (iI ((j : Nat) : Int))), none]) (fun j S => frW S1 S ∧ ∀ j2, j2 < NF n sz ord (Fn f0) → (n - i ≤ fpl n sz ord ((LF n sz ord (Fn f0)) j2) ∨ (j2 < j ∧ fpl n sz ord ((LF n sz ord (Fn f0)) j2) = n - 1 - i)) → SI S 199 j2 = ((wys n sz ord 10 ((LF n sz ord (Fn f0)) j2) : Nat) : Int)) (NF n sz ord (Fn f0)) (⟨hfa, fun j2 hj h => hwa j2 hj (h.resolve_right (fun z => absurd z.1 (by omega)))⟩) (fun j hi29 Sb hJ29 ih29 => ?_) (fun Sbf hJ29 => ?_)
          · have hi29 := hi29
            obtain ⟨hfb, hwb⟩ := hJ29
            have hj9 := hi29
            have hfj := hfpl j hj9
            have hoj := (ho.1 _ hfj).1
            refine sL (pc' := 30) (i := .iload_n 3) rfl rfl ?_
            refine sL (pc' := 31) (i := .aload_n 0) rfl rfl ?_
            refine sGi (p := 34) rfl rfl (sk_179 _) rfl rfl rfl ((congrFun (hfb.2.2.2 179 (by decide)) 38).trans hnz.1) ?_
            refine sIc_ge (p := 37) rfl rfl ⟨by omega, by omega⟩ ⟨by omega, by omega⟩ (fun c4 => ?_) (fun c4 => ?_)
            · exfalso; omega
            · have c4 := c4
              refine sL (pc' := 38) (i := .aload_n 0) rfl rfl ?_
              refine sGc (p := 41) rfl rfl (sk_179 _) rfl rfl rfl ?_
              refine sL (pc' := 42) (i := .iload_n 3) rfl rfl ?_
              refine sAi (p := 43) (i := j) rfl rfl (sk_196 _) (by omega) ⟨by omega, by omega⟩ ((congrFun (hfb.2.2.2 196 (by decide)) _).trans (hgz j hj9).1) ?_
              refine sL (pc' := 44) (i := .aload_n 0) rfl rfl ?_
              refine sGc (p := 47) rfl rfl (sk_179 _) rfl rfl rfl ?_
              refine sL (pc' := 48) (i := .iload_n 2) rfl rfl ?_
              refine sAi (p := 49) (i := n - 1 - i) rfl rfl (sk_184 _) (by omega) ⟨by omega, by omega⟩ ((congrFun (hfb.2.2.2 184 (by decide)) _).trans (frG_oM hfz hoM (n - 1 - i) (by omega))) ?_
              refine sIc_ne (p := 52) rfl rfl ⟨by omega, by omega⟩ ⟨by omega, by omega⟩ (fun c5 => ?_) (fun c5 => ?_)
              · have c5 := c5
                have hnek : fpl n sz ord ((LF n sz ord (Fn f0)) j) ≠ n - 1 - i := fun z => c5 (by rw [z])
                refine sInX (z := ((j : Nat) : Int)) (ls' := [some (.ref 179), some (.int (iI ((f0 : Nat) : Int))), some (.int (iI (((n : Nat) : Int) - 1 - ((i : Nat) : Int)))), some (.int (iI (((j : Nat) : Int) + 1))), none]) (p := 112) rfl rfl (Nat.le_of_ble_eq_true rfl) rfl rfl ?_
                refine sL (i := .goto (-83)) rfl rfl ?_
                refine sFg (ls := [some (.ref 179), some (.int (iI ((f0 : Nat) : Int))), some (.int (iI (((n : Nat) : Int) - 1 - ((i : Nat) : Int)))), some (.int (iI ((j + 1 : Nat) : Int))), none]) (xx_ll_le (And.intro rfl (And.intro rfl (And.intro rfl (And.intro rfl (True.intro)))))) (ih29 _ ?_)
                refine ⟨hfb, fun j2 hj h => hwb j2 hj ?_⟩
                rcases h with h | ⟨h, h2⟩
                · exact Or.inl h
                · exact Or.inr ⟨by have : j2 ≠ j := fun z => hnek (by rw [← z]; exact h2); omega, h2⟩
              · have c5 := c5
                have hek : fpl n sz ord ((LF n sz ord (Fn f0)) j) = n - 1 - i := by
                  have h1 := (ho.1 _ (hfpl j hj9)).2
                  have h2 := (ho.1 (n - 1 - i) (by omega)).2
                  rw [show ord (fpl n sz ord ((LF n sz ord (Fn f0)) j)) = ord (n - 1 - i) from by omega] at h1
                  omega
                refine sL (pc' := 53) (i := .aload_n 0) rfl rfl ?_
                refine sGc (p := 56) rfl rfl (sk_179 _) rfl rfl rfl ?_
                refine sL (pc' := 57) (i := .iload_n 3) rfl rfl ?_
                refine sKi (p := 58) rfl rfl ?_
                refine sWi (p := 59) (i := j) rfl rfl (sk_199 _) (by omega) ⟨by omega, by omega⟩ ?_
                refine sKi (p := 60) rfl rfl ?_
                refine sL (pc' := 62) (i := .istore 4) (ls' := [some (.ref 179), some (.int (iI ((f0 : Nat) : Int))), some (.int (iI (((n : Nat) : Int) - 1 - ((i : Nat) : Int)))), some (.int (iI ((j : Nat) : Int))), some (.int (iI 0))]) rfl rfl ?_
                refine sItR (A := fun k => [some (.ref 179), some (.int (iI ((f0 : Nat) : Int))), some (.int (iI (((n : Nat) : Int) - 1 - ((i : Nat) : Int)))), some (.int (iI ((j : Nat) : Int))), some (.int (iI ((k : Nat) : Int)))]) (fun k S => frW S1 S ∧ (∀ j2, j2 < NF n sz ord (Fn f0) → (n - i ≤ fpl n sz ord ((LF n sz ord (Fn f0)) j2) ∨ (j2 < j ∧ fpl n sz ord ((LF n sz ord (Fn f0)) j2) = n - 1 - i)) → SI S 199 j2 = ((wys n sz ord 10 ((LF n sz ord (Fn f0)) j2) : Nat) : Int)) ∧ SI S 199 j = ((sumN (fun k => wys n sz ord 9 (cof n sz ((LF n sz ord (Fn f0)) j) (ord (fpl n sz ord ((LF n sz ord (Fn f0)) j))) k)) k : Nat) : Int)) (sz (ord (n - 1 - i))) (⟨frW_trans hfb frW_wI, fun j2 hj h => by rw [rI_nj (fun z => by rw [z] at h; omega)]; exact hwb j2 hj h, rI_at⟩) (fun k hi62 Sc hJ62 ih62 => ?_) (fun Scf hJ62 => ?_)
                · have hi62 := hi62
                  obtain ⟨hfd, hwd, hsd⟩ := hJ62
                  have hk9 : k < sz (ord (fpl n sz ord ((LF n sz ord (Fn f0)) j))) := by rw [hek]; exact hi62
                  have hcd := cd_wys hwf ho (g := cof n sz ((LF n sz ord (Fn f0)) j) (ord (fpl n sz ord ((LF n sz ord (Fn f0)) j))) k) (N := NF n sz ord (Fn f0)) (L := (LF n sz ord (Fn f0))) (cof_tb _ _ _ _ _) (fun j hj => (hLS.1 j hj).1) (fun hl => bfs_sup hwf.2.2 (by intro j hj; rcases addN_of hj with ⟨h, _⟩ | ⟨h, _⟩; exact absurd h (Nat.not_lt_zero _); rw [h]; exact htb f0 hf0) hE hj9 hk9 hl) 9
                  have hgt := fpl_gt hwf ho hfj hk9
                  have hw9 : 2 ≤ cdN (pr sz n) (NF n sz ord (Fn f0)) (LF n sz ord (Fn f0)) (cof n sz ((LF n sz ord (Fn f0)) j) (ord (fpl n sz ord ((LF n sz ord (Fn f0)) j))) k) → SI Sc 199 (cdN (pr sz n) (NF n sz ord (Fn f0)) (LF n sz ord (Fn f0)) (cof n sz ((LF n sz ord (Fn f0)) j) (ord (fpl n sz ord ((LF n sz ord (Fn f0)) j))) k) - 2).toNat = ((wys n sz ord 9 (cof n sz ((LF n sz ord (Fn f0)) j) (ord (fpl n sz ord ((LF n sz ord (Fn f0)) j))) k) : Nat) : Int) := fun h => by
                    obtain ⟨h1, h2, h3⟩ := hcd.2.2 h
                    rw [hwd _ h1 (Or.inl (by rw [h2]; omega)), h2, wys_c hwf ho 9 _ (cof_tb _ _ _ _ _) (fun _ => by omega)]
                  refine sL (pc' := 64) (i := .iload 4) rfl rfl ?_
                  refine sL (pc' := 65) (i := .aload_n 0) rfl rfl ?_
                  refine sGc (p := 68) rfl rfl (sk_179 _) rfl rfl rfl ?_
                  refine sL (pc' := 69) (i := .aload_n 0) rfl rfl ?_
                  refine sGc (p := 72) rfl rfl (sk_179 _) rfl rfl rfl ?_
                  refine sL (pc' := 73) (i := .iload_n 2) rfl rfl ?_
                  refine sAi (p := 74) (i := n - 1 - i) rfl rfl (sk_184 _) (by omega) ⟨by omega, by omega⟩ ((congrFun (hfd.2.2.2 184 (by decide)) _).trans (frG_oM hfz hoM (n - 1 - i) (by omega))) ?_
                  refine sAi (p := 75) (i := ord (n - 1 - i)) rfl rfl (sk_180 _) (by omega) ⟨by omega, by omega⟩ ((congrFun (hfd.2.2.2 180 (by decide)) _).trans ((frG_vM hfz hv).2.2.2.1 _ hon)) ?_
                  refine sIc_ge (p := 78) rfl rfl ⟨by omega, by omega⟩ ⟨by omega, by omega⟩ (fun c6 => ?_) (fun c6 => ?_)
                  · exfalso; omega
                  · have c6 := c6
                    refine sL (pc' := 79) (i := .aload_n 0) rfl rfl ?_
                    refine sGc (p := 82) rfl rfl (sk_179 _) rfl rfl rfl ?_
                    refine sL (pc' := 83) (i := .iload_n 3) rfl rfl ?_
                    refine sL (pc' := 84) (i := .dup2) rfl rfl ?_
                    refine sAi (p := 85) (i := j) rfl rfl (sk_199 _) (by omega) ⟨by omega, by omega⟩ hsd ?_
                    refine sL (pc' := 86) (i := .aload_n 0) rfl rfl ?_
                    refine sL (pc' := 87) (i := .aload_n 0) rfl rfl ?_
                    refine sGc (p := 90) rfl rfl (sk_179 _) rfl rfl rfl ?_
                    refine sKb (p := 92) rfl rfl ?_
                    refine sL (pc' := 93) (i := .iload_n 3) rfl rfl ?_
                    refine sMu (p := 94) rfl rfl ?_
                    refine sL (pc' := 96) (i := .iload 4) rfl rfl ?_
                    refine sAd (p := 97) rfl rfl ?_
                    refine sAi (p := 98) (i := j * 6 + k) rfl rfl (sk_197 _) (by omega) ⟨by omega, by omega⟩ ((congrFun (hfd.2.2.2 197 (by decide)) _).trans ((hgz j hj9).2 k hk9)) ?_
                    refine sCv (p := 101) (as := [_]) rfl rfl rfl rfl (by decide) (Nat.le_of_ble_eq_true rfl) rfl (Nat.le_of_ble_eq_true rfl) (sk_179 _) rfl (by omega) (m_waysTo (x := ((wys n sz ord 9 (cof n sz ((LF n sz ord (Fn f0)) j) (ord (fpl n sz ord ((LF n sz ord (Fn f0)) j))) k) : Nat) : Int)) ⟨hcd.1.1, by omega⟩ hcd.2.1 hw9) ?_
                    refine sAd (p := 102) rfl rfl ?_
                    refine sWi (p := 103) (i := j) rfl rfl (sk_199 _) (by omega) ⟨by omega, by omega⟩ ?_
                    refine sInX (z := ((k : Nat) : Int)) (ls' := [some (.ref 179), some (.int (iI ((f0 : Nat) : Int))), some (.int (iI (((n : Nat) : Int) - 1 - ((i : Nat) : Int)))), some (.int (iI ((j : Nat) : Int))), some (.int (iI (((k : Nat) : Int) + 1)))]) (p := 106) rfl rfl (Nat.le_of_ble_eq_true rfl) rfl rfl ?_
                    refine sL (i := .goto (-44)) rfl rfl ?_
                    refine sFg (ls := [some (.ref 179), some (.int (iI ((f0 : Nat) : Int))), some (.int (iI (((n : Nat) : Int) - 1 - ((i : Nat) : Int)))), some (.int (iI ((j : Nat) : Int))), some (.int (iI ((k + 1 : Nat) : Int)))]) (xx_ll_le (And.intro rfl (And.intro rfl (And.intro rfl (And.intro rfl (And.intro rfl (True.intro))))))) (ih62 _ ?_)
                    refine ⟨frW_trans hfd frW_wI, fun j2 hj h => ?_, ?_⟩
                    · rw [rI_nj (fun z => by rw [z] at h; omega)]; exact hwd j2 hj h
                    · rw [rI_at]; rfl
                · have hJ62 := hJ62
                  obtain ⟨hfe, hwe, hse⟩ := hJ62
                  refine sL (pc' := 64) (i := .iload 4) rfl rfl ?_
                  refine sL (pc' := 65) (i := .aload_n 0) rfl rfl ?_
                  refine sGc (p := 68) rfl rfl (sk_179 _) rfl rfl rfl ?_
                  refine sL (pc' := 69) (i := .aload_n 0) rfl rfl ?_
                  refine sGc (p := 72) rfl rfl (sk_179 _) rfl rfl rfl ?_
                  refine sL (pc' := 73) (i := .iload_n 2) rfl rfl ?_
                  refine sAi (p := 74) (i := n - 1 - i) rfl rfl (sk_184 _) (by omega) ⟨by omega, by omega⟩ ((congrFun (hfe.2.2.2 184 (by decide)) _).trans (frG_oM hfz hoM (n - 1 - i) (by omega))) ?_
                  refine sAi (p := 75) (i := ord (n - 1 - i)) rfl rfl (sk_180 _) (by omega) ⟨by omega, by omega⟩ ((congrFun (hfe.2.2.2 180 (by decide)) _).trans ((frG_vM hfz hv).2.2.2.1 _ hon)) ?_
                  refine sIc_ge (p := 78) rfl rfl ⟨by omega, by omega⟩ ⟨by omega, by omega⟩ (fun c7 => ?_) (fun c7 => ?_)
                  · have c7 := c7
                    refine sInX (z := ((j : Nat) : Int)) (ls' := [some (.ref 179), some (.int (iI ((f0 : Nat) : Int))), some (.int (iI (((n : Nat) : Int) - 1 - ((i : Nat) : Int)))), some (.int (iI (((j : Nat) : Int) + 1))), some (.int (iI ((sz (ord (n - 1 - i)) : Nat) : Int)))]) (p := 112) rfl rfl (Nat.le_of_ble_eq_true rfl) rfl rfl ?_
                    refine sL (i := .goto (-83)) rfl rfl ?_
                    refine sFg (ls := [some (.ref 179), some (.int (iI ((f0 : Nat) : Int))), some (.int (iI (((n : Nat) : Int) - 1 - ((i : Nat) : Int)))), some (.int (iI ((j + 1 : Nat) : Int))), none]) (xx_ll_le (And.intro rfl (And.intro rfl (And.intro rfl (And.intro rfl (True.intro)))))) (ih29 _ ?_)
                    refine ⟨hfe, fun j2 hj h => ?_⟩
                    by_cases c9 : j2 = j
                    · rw [c9, hse, hek.symm, wys_s (hLS.1 j hj9).2.1]
                    · refine hwe j2 hj ?_
                      rcases h with h | ⟨h, h2⟩
                      · exact Or.inl h
                      · exact Or.inr ⟨by omega, h2⟩
                  · exfalso; omega
          · have hJ29 := hJ29
            obtain ⟨hfc, hwc⟩ := hJ29
            refine sL (pc' := 30) (i := .iload_n 3) rfl rfl ?_
            refine sL (pc' := 31) (i := .aload_n 0) rfl rfl ?_
            refine sGi (p := 34) rfl rfl (sk_179 _) rfl rfl rfl ((congrFun (hfc.2.2.2 179 (by decide)) 38).trans hnz.1) ?_
            refine sIc_ge (p := 37) rfl rfl ⟨by omega, by omega⟩ ⟨by omega, by omega⟩ (fun c8 => ?_) (fun c8 => ?_)
            · have c8 := c8
              refine sInX (z := (((n : Nat) : Int) - 1 - ((i : Nat) : Int))) (ls' := [some (.ref 179), some (.int (iI ((f0 : Nat) : Int))), some (.int (iI ((((n : Nat) : Int) - 1 - ((i : Nat) : Int)) + (-1)))), some (.int (iI ((NF n sz ord (Fn f0) : Nat) : Int))), none]) (p := 118) rfl rfl (Nat.le_of_ble_eq_true rfl) rfl rfl ?_
              refine sL (i := .goto (-95)) rfl rfl ?_
              refine sFg (ls := [some (.ref 179), some (.int (iI ((f0 : Nat) : Int))), some (.int (iI (((n : Nat) : Int) - 1 - ((i + 1 : Nat) : Int)))), none, none]) (xx_ll_le (And.intro rfl (And.intro rfl (And.intro (congrArg (fun z => some (Value.int z)) (congrArg iI (by omega))) (True.intro))))) (ih23 _ ?_)
              refine ⟨hfc, fun j hj h => hwc j hj ?_⟩
              by_cases c9 : n - i ≤ fpl n sz ord ((LF n sz ord (Fn f0)) j)
              · exact Or.inl c9
              · exact Or.inr ⟨by omega, by omega⟩
            · exfalso; omega
      · have hJ23 := hJ23
        obtain ⟨hff, hwf9⟩ := hJ23
        have hvf : vM Saf n sz := by
          obtain ⟨k1, k2, k3, k4, k5⟩ := frG_vM hfz hv
          exact ⟨k1, (congrFun (hff.2.2.2 179 (by decide)) 1).trans k2, (congrFun (hff.2.2.2 179 (by decide)) 4).trans k3, fun i hi => (congrFun (hff.2.2.2 180 (by decide)) i).trans (k4 i hi), fun i hi => (congrFun (hff.2.2.2 181 (by decide)) i).trans (k5 i hi)⟩
        have hrf : rowS Saf 185 (16 * f0) (Fn f0) := fun k hk => by
          rw [hff.2.2.1]
          exact frG_row hfz (by decide) (by decide) (hF f0 hf0) k hk
        have hlv := lfv_v (pr sz n) (Fn f0)
        refine sL (pc' := 24) (i := .iload_n 2) rfl rfl ?_
        refine sIf_lt (p := 27) rfl rfl ⟨by omega, by omega⟩ (fun c9 => ?_) (fun c9 => ?_)
        · have c9 := c9
          refine sL (pc' := 122) (i := .aload_n 0) rfl rfl ?_
          refine sL (pc' := 123) (i := .aload_n 0) rfl rfl ?_
          refine sGc (p := 126) rfl rfl (sk_179 _) rfl rfl rfl ?_
          refine sKb (p := 128) rfl rfl ?_
          refine sL (pc' := 129) (i := .iload_n 1) rfl rfl ?_
          refine sMu (p := 130) rfl rfl ?_
          refine sCv (p := 133) (as := [_, _]) rfl rfl rfl rfl (by decide) (Nat.le_of_ble_eq_true rfl) rfl (Nat.le_of_ble_eq_true rfl) (sk_179 _) rfl (by omega) (m_leaf (a := 185) (o := 16 * f0) (f := Fn f0) hvf (sk_185 _) ⟨by omega, by omega⟩ hrf) ?_
          refine sL (pc' := 134) (i := .istore_n 2) (ls' := [some (.ref 179), some (.int (iI ((f0 : Nat) : Int))), some (.int (iI (lfv (pr sz n) (Fn f0)))), none, none]) rfl rfl ?_
          refine sL (pc' := 135) (i := .iload_n 2) rfl rfl ?_
          refine sKi (p := 136) rfl rfl ?_
          refine sIc_eq (p := 139) rfl rfl ⟨by omega, by omega⟩ ⟨by omega, by omega⟩ (fun c10 => ?_) (fun c10 => ?_)
          · have c10 := c10
            have hlf := c10
            obtain ⟨hpos, hL0⟩ := LF_0 hlf hE
            have hL0 : (LF n sz ord (Fn f0)) 0 = Fn f0 := hL0
            refine sL (pc' := 144) (i := .aload_n 0) rfl rfl ?_
            refine sGc (p := 147) rfl rfl (sk_179 _) rfl rfl rfl ?_
            refine sKi (p := 148) rfl rfl ?_
            refine sAi (p := 149) (i := 0) rfl rfl (sk_199 _) (by omega) ⟨by omega, by omega⟩ (hwf9 0 hpos (by omega)) ?_
            refine sEn (i := .ireturn) rfl (rfl) ?_
            exact ⟨by rw [hL0], S1, hfz, hff⟩
          · have c10 := c10
            refine sL (pc' := 140) (i := .iload_n 2) rfl rfl ?_
            refine sL (i := .goto 9) rfl rfl ?_
            refine sEn (i := .ireturn) rfl (rfl) ?_
            refine ⟨?_, S1, hfz, hff⟩
            rw [wys_lf (by assumption)]
            rcases hlv with h | h | h
            · rw [h]; rfl
            · rw [h]; rfl
            · exact absurd h (by assumption)
        · exfalso; omega
    · exfalso; omega
/-- where one stands -/
def hrT (n : Nat) (sz ord : Nat → Nat) (g : Nat → Bool) : Int := if lfv (pr sz n) g = 0 then -2 else if lfv (pr sz n) g = 1 then -3 else ((ord (fpl n sz ord g) : Nat) : Int)
theorem hrT_rg (hw : wf n sz) (ho : prm n ord pl) {g : Nat → Bool} (ht : tbT (pr sz n) g) : -3 ≤ hrT n sz ord g ∧ hrT n sz ord g ≤ 10 ∧ (0 ≤ hrT n sz ord g ↔ lfv (pr sz n) g = -1) := by
  have hn := hw.1
  unfold hrT
  rcases lfv_v (pr sz n) g with h | h | h
  · rw [if_pos h, h]
    omega
  · rw [if_neg (by rw [h]; decide), if_pos h, h]
    omega
  · have h1 := (ho.1 _ (fpl_lt hw ho ht h)).1
    rw [if_neg (by rw [h]; decide), if_neg (by rw [h]; decide), h]
    omega
theorem m_standsAt {g : Nat → Bool} (hv : vM S n sz) (hoM : oM S n ord) (ho : prm n ord pl) (hg : rowS S 200 0 g) (ht : tbT (pr sz n) g) : sM X 4 237 [.ref 179] S (sV (some (.int (iI (hrT n sz ord g)))) S) := by
  have hn := hv.1.1
  have hT0 := hv.1.2.2
  have hlv := lfv_v (pr sz n) g
  refine sIni (ls := [some (.ref 179), none]) rfl ?_
  refine sL (pc' := 1) (i := .aload_n 0) rfl rfl ?_
  refine sL (pc' := 2) (i := .aload_n 0) rfl rfl ?_
  refine sGc (p := 5) rfl rfl (sk_179 _) rfl rfl rfl ?_
  refine sKi (p := 6) rfl rfl ?_
  refine sCv (p := 9) (as := [_, _]) rfl rfl rfl rfl (by decide) (Nat.le_of_ble_eq_true rfl) rfl (Nat.le_of_ble_eq_true rfl) (sk_179 _) rfl (by omega) (m_leaf (a := 200) (o := 0) (f := g) hv (sk_200 _) ⟨by omega, by omega⟩ hg) ?_
  refine sL (pc' := 10) (i := .istore_n 1) (ls' := [some (.ref 179), some (.int (iI (lfv (pr sz n) g)))]) rfl rfl ?_
  refine sL (pc' := 11) (i := .iload_n 1) rfl rfl ?_
  refine sIf_ne (p := 14) rfl rfl ⟨by omega, by omega⟩ (fun c1 => ?_) (fun c1 => ?_)
  · have c1 := c1
    refine sL (pc' := 20) (i := .iload_n 1) rfl rfl ?_
    refine sKi (p := 21) rfl rfl ?_
    refine sIc_ne (p := 24) rfl rfl ⟨by omega, by omega⟩ ⟨by omega, by omega⟩ (fun c2 => ?_) (fun c2 => ?_)
    · have c2 := c2
      refine sL (pc' := 30) (i := .aload_n 0) rfl rfl ?_
      refine sL (pc' := 31) (i := .aload_n 0) rfl rfl ?_
      refine sGc (p := 34) rfl rfl (sk_179 _) rfl rfl rfl ?_
      refine sKi (p := 35) rfl rfl ?_
      refine sCv (p := 38) (as := [_, _]) rfl rfl rfl rfl (by decide) (Nat.le_of_ble_eq_true rfl) rfl (Nat.le_of_ble_eq_true rfl) (sk_179 _) rfl (by omega) (m_firstBy (a := 200) (o := 0) (f := g) hv hoM (fun p hp => (ho.1 p hp).1) (sk_200 _) ⟨by omega, by omega⟩ hg (fpl_lt hv.1 ho ht (by omega))) ?_
      refine sEn (i := .ireturn) rfl (rfl) ?_
      exact ⟨by unfold hrT; rw [if_neg (by assumption), if_neg (by assumption)], rfl⟩
    · have c2 := c2
      refine sKb (p := 26) rfl rfl ?_
      refine sL (i := .goto 12) rfl rfl ?_
      refine sEn (i := .ireturn) rfl (rfl) ?_
      exact ⟨by unfold hrT; rw [if_neg (by assumption), if_pos (by assumption)], rfl⟩
  · have c1 := c1
    refine sKb (p := 16) rfl rfl ?_
    refine sL (i := .goto 22) rfl rfl ?_
    refine sEn (i := .ireturn) rfl (rfl) ?_
    exact ⟨by unfold hrT; rw [if_pos (by assumption)], rfl⟩
theorem m_here_n (hp : SI S 179 42 = -1) : sM X 5 240 [.ref 179] S (sV (some (.int (iI (-1)))) S) := by
  refine sIni (ls := [some (.ref 179)]) rfl ?_
  refine sL (pc' := 1) (i := .aload_n 0) rfl rfl ?_
  refine sGi (p := 4) rfl rfl (sk_179 _) rfl rfl rfl hp ?_
  refine sKi (p := 5) rfl rfl ?_
  refine sIc_ne (p := 8) rfl rfl ⟨by omega, by omega⟩ ⟨by omega, by omega⟩ (fun c1 => ?_) (fun c1 => ?_)
  · exact absurd c1 (by decide)
  · have c1 := c1
    refine sKi (p := 9) rfl rfl ?_
    refine sL (i := .goto 7) rfl rfl ?_
    refine sEn (i := .ireturn) rfl (rfl) ?_
    exact ⟨rfl, rfl⟩
theorem m_here {g : Nat → Bool} (hv : vM S n sz) (hoM : oM S n ord) (ho : prm n ord pl) (hp : SI S 179 42 = 0) (hg : rowS S 200 0 g) (ht : tbT (pr sz n) g) : sM X 5 240 [.ref 179] S (sV (some (.int (iI (hrT n sz ord g)))) S) := by
  refine sIni (ls := [some (.ref 179)]) rfl ?_
  refine sL (pc' := 1) (i := .aload_n 0) rfl rfl ?_
  refine sGi (p := 4) rfl rfl (sk_179 _) rfl rfl rfl hp ?_
  refine sKi (p := 5) rfl rfl ?_
  refine sIc_ne (p := 8) rfl rfl ⟨by omega, by omega⟩ ⟨by omega, by omega⟩ (fun c1 => ?_) (fun c1 => ?_)
  · have c1 := c1
    refine sL (pc' := 13) (i := .aload_n 0) rfl rfl ?_
    refine sCv (p := 16) (as := []) rfl rfl rfl rfl (by decide) (Nat.le_of_ble_eq_true rfl) rfl (Nat.le_of_ble_eq_true rfl) (sk_179 _) rfl (by omega) (m_standsAt hv hoM ho hg ht) ?_
    refine sEn (i := .ireturn) rfl (rfl) ?_
    exact ⟨rfl, rfl⟩
  · exact absurd c1 (by decide)
theorem m_enter_u {x : Int} (hfn : SI S 179 9 = (fn : Nat)) (h40 : fn ≤ 40) (hx : rg x) (hn : ¬ (0 ≤ x ∧ x < fn)) : sM X 6 238 [.ref 179, .int (iI x)] S (sV (some (.int (iI (-101)))) S) := by
  have x1 := hx.1
  have x2 := hx.2
  refine sIni (ls := [some (.ref 179), some (.int (iI x)), none]) rfl ?_
  refine sL (pc' := 1) (i := .aload_n 0) rfl rfl ?_
  refine sL (pc' := 2) (i := .iload_n 1) rfl rfl ?_
  refine sCv (p := 5) (as := [_]) rfl rfl rfl rfl (by decide) (Nat.le_of_ble_eq_true rfl) rfl (Nat.le_of_ble_eq_true rfl) (sk_179 _) rfl (by omega) (m_isFunction hx hfn h40) ?_
  refine sBn (p := 8) rfl rfl (fun c1 => ?_) (fun c1 => ?_)
  · exfalso; have c1 := of_decide_eq_true c1; omega
  · have c1 := c1
    have c1 := of_decide_eq_false c1
    refine sKb (p := 10) rfl rfl ?_
    refine sEn (i := .ireturn) rfl (rfl) ?_
    exact ⟨rfl, rfl⟩
theorem m_enter {f0 : Nat} (hv : vM S n sz) (hoM : oM S n ord) (ho : prm n ord pl) (hfn : SI S 179 9 = (fn : Nat)) (h40 : fn ≤ 40) (hF : ∀ i, i < fn → rowS S 185 (16 * i) (Fn i)) (htb : ∀ i, i < fn → tbT (pr sz n) (Fn i)) (hf0 : f0 < fn) : sM X 6 238 [.ref 179, .int (iI ((f0 : Nat) : Int))] S (sV (some (.int (iI (hrT n sz ord (Fn f0))))) (wI (wRw S 200 0 (Fn f0)) 179 42 0)) := by
  have hn := hv.1.1
  refine sIni (ls := [some (.ref 179), some (.int (iI ((f0 : Nat) : Int))), none]) rfl ?_
  refine sL (pc' := 1) (i := .aload_n 0) rfl rfl ?_
  refine sL (pc' := 2) (i := .iload_n 1) rfl rfl ?_
  refine sCv (p := 5) (as := [_]) rfl rfl rfl rfl (by decide) (Nat.le_of_ble_eq_true rfl) rfl (Nat.le_of_ble_eq_true rfl) (sk_179 _) rfl (by omega) (m_isFunction ⟨by omega, by omega⟩ hfn h40) ?_
  refine sBn (p := 8) rfl rfl (fun c1 => ?_) (fun c1 => ?_)
  · have c1 := c1
    have c1 := of_decide_eq_true c1
    refine sKi (p := 12) rfl rfl ?_
    refine sL (pc' := 13) (i := .istore_n 2) (ls' := [some (.ref 179), some (.int (iI ((f0 : Nat) : Int))), some (.int (iI 0))]) rfl rfl ?_
    refine sSh (T := wKw S 200 0 0 (Fn f0)) (congrArg sH (wKw_0 _ _ _ _).symm) ?_
    refine sIt (A := fun i => [some (.ref 179), some (.int (iI ((f0 : Nat) : Int))), some (.int (iI ((i : Nat) : Int)))]) (B := fun i => wKw S 200 0 i (Fn f0)) (fun _ => True) 16 True.intro (fun i hi13 hI13 ih13 => ?_) (fun hI13 => ?_)
    · have hi13 := hi13
      refine sL (pc' := 14) (i := .iload_n 2) rfl rfl ?_
      refine sKb (p := 16) rfl rfl ?_
      refine sIc_ge (p := 19) rfl rfl ⟨by omega, by omega⟩ ⟨by omega, by omega⟩ (fun c2 => ?_) (fun c2 => ?_)
      · exfalso; omega
      · have c2 := c2
        refine sL (pc' := 20) (i := .aload_n 0) rfl rfl ?_
        refine sGc (p := 23) rfl rfl (sk_179 _) rfl rfl rfl ?_
        refine sL (pc' := 24) (i := .iload_n 2) rfl rfl ?_
        refine sL (pc' := 25) (i := .aload_n 0) rfl rfl ?_
        refine sGc (p := 28) rfl rfl (sk_179 _) rfl rfl rfl ?_
        refine sKb (p := 30) rfl rfl ?_
        refine sL (pc' := 31) (i := .iload_n 1) rfl rfl ?_
        refine sMu (p := 32) rfl rfl ?_
        refine sL (pc' := 33) (i := .iload_n 2) rfl rfl ?_
        refine sAd (p := 34) rfl rfl ?_
        refine sAl (p := 35) (i := 16 * f0 + i) rfl rfl (sk_185 _) (by omega) ⟨by omega, by omega⟩ (wKw_oo (by decide) (hF f0 hf0) (by omega)) ?_
        refine sWl (p := 36) (i := i) rfl rfl (sk_200 _) (by omega) ⟨by omega, by omega⟩ ?_
        refine sInX (z := ((i : Nat) : Int)) (ls' := [some (.ref 179), some (.int (iI ((f0 : Nat) : Int))), some (.int (iI (((i : Nat) : Int) + 1)))]) (p := 39) rfl rfl (Nat.le_of_ble_eq_true rfl) rfl rfl ?_
        refine sL (i := .goto (-26)) rfl rfl ?_
        refine sRo (ls := [some (.ref 179), some (.int (iI ((f0 : Nat) : Int))), some (.int (iI ((i + 1 : Nat) : Int)))]) (T := wKw S 200 0 (i + 1) (Fn f0)) (And.intro rfl (And.intro rfl (And.intro rfl (True.intro)))) (congrArg sH (wKw_s (Nat.zero_add _).symm rfl)) (ih13 ?_)
        exact True.intro
    · have hI13 := hI13
      refine sL (pc' := 14) (i := .iload_n 2) rfl rfl ?_
      refine sKb (p := 16) rfl rfl ?_
      refine sIc_ge (p := 19) rfl rfl ⟨by omega, by omega⟩ ⟨by omega, by omega⟩ (fun c3 => ?_) (fun c3 => ?_)
      · have c3 := c3
        refine sL (pc' := 43) (i := .aload_n 0) rfl rfl ?_
        refine sKi (p := 44) rfl rfl ?_
        refine sPi (z := 0) (p := 47) rfl rfl (sk_179 _) rfl rfl rfl rfl ?_
        refine sL (pc' := 48) (i := .aload_n 0) rfl rfl ?_
        refine sCv (p := 51) (as := []) rfl rfl rfl rfl (by decide) (Nat.le_of_ble_eq_true rfl) rfl (Nat.le_of_ble_eq_true rfl) (sk_179 _) rfl (by omega) (m_here (S := wI (wRw S 200 0 (Fn f0)) 179 42 0) (frM_vM frM_42 (show vM (wRw S 200 0 (Fn f0)) n sz from hv)) (fun q hq => (rI_ne (by decide) _).trans (hoM q hq)) ho rI_at (rowS_wRw _ _ _ _) (htb f0 hf0)) ?_
        refine sEn (i := .ireturn) rfl (rfl) ?_
        exact ⟨rfl, rfl⟩
      · exact absurd c3 (by decide)
  · exfalso; have c1 := of_decide_eq_false c1; omega
theorem m_down_n {x : Int} (hp : SI S 179 42 = -1) : sM X 6 239 [.ref 179, .int (iI x)] S (sV (some (.int (iI (-103)))) S) := by
  refine sIni (ls := [some (.ref 179), some (.int (iI x)), none, none]) rfl ?_
  refine sL (pc' := 1) (i := .aload_n 0) rfl rfl ?_
  refine sCv (p := 4) (as := []) rfl rfl rfl rfl (by decide) (Nat.le_of_ble_eq_true rfl) rfl (Nat.le_of_ble_eq_true rfl) (sk_179 _) rfl (by omega) (m_here_n hp) ?_
  refine sL (pc' := 5) (i := .istore_n 2) (ls' := [some (.ref 179), some (.int (iI x)), some (.int (iI (-1))), none]) rfl rfl ?_
  refine sL (pc' := 6) (i := .iload_n 2) rfl rfl ?_
  refine sIf_ge (p := 9) rfl rfl ⟨by omega, by omega⟩ (fun c1 => ?_) (fun c1 => ?_)
  · exact absurd c1 (by decide)
  · have c1 := c1
    refine sKb (p := 11) rfl rfl ?_
    refine sEn (i := .ireturn) rfl (rfl) ?_
    exact ⟨rfl, rfl⟩
theorem m_down_l {g : Nat → Bool} {x : Int} (hv : vM S n sz) (hoM : oM S n ord) (ho : prm n ord pl) (hp : SI S 179 42 = 0) (hg : rowS S 200 0 g) (ht : tbT (pr sz n) g) (hl : lfv (pr sz n) g ≠ -1) : sM X 6 239 [.ref 179, .int (iI x)] S (sV (some (.int (iI (-103)))) S) := by
  have hr := hrT_rg hv.1 ho ht
  refine sIni (ls := [some (.ref 179), some (.int (iI x)), none, none]) rfl ?_
  refine sL (pc' := 1) (i := .aload_n 0) rfl rfl ?_
  refine sCv (p := 4) (as := []) rfl rfl rfl rfl (by decide) (Nat.le_of_ble_eq_true rfl) rfl (Nat.le_of_ble_eq_true rfl) (sk_179 _) rfl (by omega) (m_here hv hoM ho hp hg ht) ?_
  refine sL (pc' := 5) (i := .istore_n 2) (ls' := [some (.ref 179), some (.int (iI x)), some (.int (iI (hrT n sz ord g))), none]) rfl rfl ?_
  refine sL (pc' := 6) (i := .iload_n 2) rfl rfl ?_
  refine sIf_ge (p := 9) rfl rfl ⟨by omega, by omega⟩ (fun c1 => ?_) (fun c1 => ?_)
  · have c1 := c1
    exact absurd (hr.2.2.mp c1) hl
  · have c1 := c1
    refine sKb (p := 11) rfl rfl ?_
    refine sEn (i := .ireturn) rfl (rfl) ?_
    exact ⟨rfl, rfl⟩
theorem m_down_o {g : Nat → Bool} {x : Int} (hv : vM S n sz) (hoM : oM S n ord) (ho : prm n ord pl) (hp : SI S 179 42 = 0) (hg : rowS S 200 0 g) (ht : tbT (pr sz n) g) (hl : lfv (pr sz n) g = -1) (hx : rg x) (hn : ¬ (0 ≤ x ∧ x < sz (ord (fpl n sz ord g)))) : sM X 6 239 [.ref 179, .int (iI x)] S (sV (some (.int (iI (-102)))) S) := by
  have hf := fpl_lt hv.1 ho ht hl
  have hon := (ho.1 _ hf).1
  have hs := hv.1.2.1 _ hon
  have hhr : hrT n sz ord g = ((ord (fpl n sz ord g) : Nat) : Int) := by unfold hrT; rw [if_neg (by rw [hl]; decide), if_neg (by rw [hl]; decide)]
  have hn := hv.1.1
  have hT0 := hv.1.2.2
  have x1 := hx.1
  have x2 := hx.2
  refine sIni (ls := [some (.ref 179), some (.int (iI x)), none, none]) rfl ?_
  refine sL (pc' := 1) (i := .aload_n 0) rfl rfl ?_
  refine sCv (p := 4) (as := []) rfl rfl rfl rfl (by decide) (Nat.le_of_ble_eq_true rfl) rfl (Nat.le_of_ble_eq_true rfl) (sk_179 _) rfl (by omega) (m_here hv hoM ho hp hg ht) ?_
  rw [hhr]
  refine sL (pc' := 5) (i := .istore_n 2) (ls' := [some (.ref 179), some (.int (iI x)), some (.int (iI ((ord (fpl n sz ord g) : Nat) : Int))), none]) rfl rfl ?_
  refine sL (pc' := 6) (i := .iload_n 2) rfl rfl ?_
  refine sIf_ge (p := 9) rfl rfl ⟨by omega, by omega⟩ (fun c1 => ?_) (fun c1 => ?_)
  · have c1 := c1
    refine sL (pc' := 13) (i := .iload_n 1) rfl rfl ?_
    refine sI2l (p := 14) rfl rfl ⟨by omega, by omega⟩ ?_
    refine sKj0 (p := 15) rfl rfl rfl ?_
    refine sL (pc' := 16) (i := .aload_n 0) rfl rfl ?_
    refine sGc (p := 19) rfl rfl (sk_179 _) rfl rfl rfl ?_
    refine sL (pc' := 20) (i := .iload_n 2) rfl rfl ?_
    refine sAi (p := 21) (i := ord (fpl n sz ord g)) rfl rfl (sk_180 _) (by omega) ⟨by omega, by omega⟩ (hv.2.2.2.1 _ hon) ?_
    refine sKi (p := 22) rfl rfl ?_
    refine sSb (p := 23) rfl rfl ?_
    refine sI2l (p := 24) rfl rfl ⟨by omega, by omega⟩ ?_
    refine sCs (p := 27) (as := [_, _, _]) rfl rfl rfl rfl (by decide) (Nat.le_of_ble_eq_true rfl) rfl (Nat.le_of_ble_eq_true rfl) rfl (by omega) (m_in (x := x) (y := 0) (z := (((sz (ord (fpl n sz ord g)) : Nat) : Int) - 1)) ⟨by omega, by omega⟩ ⟨by omega, by omega⟩ ⟨by omega, by omega⟩) ?_
    refine sBn (p := 30) rfl rfl (fun c2 => ?_) (fun c2 => ?_)
    · exfalso; have c2 := of_decide_eq_true c2; omega
    · have c2 := c2
      have c2 := of_decide_eq_false c2
      refine sKb (p := 32) rfl rfl ?_
      refine sEn (i := .ireturn) rfl (rfl) ?_
      exact ⟨rfl, rfl⟩
  · exfalso; omega
theorem m_down {g : Nat → Bool} {k : Nat} (hv : vM S n sz) (hoM : oM S n ord) (ho : prm n ord pl) (hp : SI S 179 42 = 0) (hg : rowS S 200 0 g) (ht : tbT (pr sz n) g) (hl : lfv (pr sz n) g = -1) (hk : k < sz (ord (fpl n sz ord g))) : sM X 6 239 [.ref 179, .int (iI ((k : Nat) : Int))] S (sV (some (.int (iI (hrT n sz ord (cof n sz g (ord (fpl n sz ord g)) k))))) (wRw (wRw S 187 0 (cof n sz g (ord (fpl n sz ord g)) k)) 200 0 (cof n sz g (ord (fpl n sz ord g)) k))) := by
  have hf := fpl_lt hv.1 ho ht hl
  have hon := (ho.1 _ hf).1
  have hs := hv.1.2.1 _ hon
  have hhr : hrT n sz ord g = ((ord (fpl n sz ord g) : Nat) : Int) := by unfold hrT; rw [if_neg (by rw [hl]; decide), if_neg (by rw [hl]; decide)]
  have hn := hv.1.1
  have hT0 := hv.1.2.2
  refine sIni (ls := [some (.ref 179), some (.int (iI ((k : Nat) : Int))), none, none]) rfl ?_
  refine sL (pc' := 1) (i := .aload_n 0) rfl rfl ?_
  refine sCv (p := 4) (as := []) rfl rfl rfl rfl (by decide) (Nat.le_of_ble_eq_true rfl) rfl (Nat.le_of_ble_eq_true rfl) (sk_179 _) rfl (by omega) (m_here hv hoM ho hp hg ht) ?_
  rw [hhr]
  refine sL (pc' := 5) (i := .istore_n 2) (ls' := [some (.ref 179), some (.int (iI ((k : Nat) : Int))), some (.int (iI ((ord (fpl n sz ord g) : Nat) : Int))), none]) rfl rfl ?_
  refine sL (pc' := 6) (i := .iload_n 2) rfl rfl ?_
  refine sIf_ge (p := 9) rfl rfl ⟨by omega, by omega⟩ (fun c1 => ?_) (fun c1 => ?_)
  · have c1 := c1
    refine sL (pc' := 13) (i := .iload_n 1) rfl rfl ?_
    refine sI2l (p := 14) rfl rfl ⟨by omega, by omega⟩ ?_
    refine sKj0 (p := 15) rfl rfl rfl ?_
    refine sL (pc' := 16) (i := .aload_n 0) rfl rfl ?_
    refine sGc (p := 19) rfl rfl (sk_179 _) rfl rfl rfl ?_
    refine sL (pc' := 20) (i := .iload_n 2) rfl rfl ?_
    refine sAi (p := 21) (i := ord (fpl n sz ord g)) rfl rfl (sk_180 _) (by omega) ⟨by omega, by omega⟩ (hv.2.2.2.1 _ hon) ?_
    refine sKi (p := 22) rfl rfl ?_
    refine sSb (p := 23) rfl rfl ?_
    refine sI2l (p := 24) rfl rfl ⟨by omega, by omega⟩ ?_
    refine sCs (p := 27) (as := [_, _, _]) rfl rfl rfl rfl (by decide) (Nat.le_of_ble_eq_true rfl) rfl (Nat.le_of_ble_eq_true rfl) rfl (by omega) (m_in (x := ((k : Nat) : Int)) (y := 0) (z := (((sz (ord (fpl n sz ord g)) : Nat) : Int) - 1)) ⟨by omega, by omega⟩ ⟨by omega, by omega⟩ ⟨by omega, by omega⟩) ?_
    refine sBn (p := 30) rfl rfl (fun c2 => ?_) (fun c2 => ?_)
    · have c2 := c2
      have c2 := of_decide_eq_true c2
      refine sL (pc' := 34) (i := .aload_n 0) rfl rfl ?_
      refine sL (pc' := 35) (i := .aload_n 0) rfl rfl ?_
      refine sGc (p := 38) rfl rfl (sk_179 _) rfl rfl rfl ?_
      refine sKi (p := 39) rfl rfl ?_
      refine sL (pc' := 40) (i := .iload_n 2) rfl rfl ?_
      refine sL (pc' := 41) (i := .iload_n 1) rfl rfl ?_
      refine sL (pc' := 42) (i := .aload_n 0) rfl rfl ?_
      refine sGc (p := 45) rfl rfl (sk_179 _) rfl rfl rfl ?_
      refine sKi (p := 46) rfl rfl ?_
      refine sCv (p := 49) (as := [_, _, _, _, _, _]) rfl rfl rfl rfl (by decide) (Nat.le_of_ble_eq_true rfl) rfl (Nat.le_of_ble_eq_true rfl) (sk_179 _) rfl (by omega) (m_fix (a := 200) (b := 187) (o1 := 0) (o2 := 0) (f := g) hv (sk_200 _) (sk_187 _) ⟨by omega, by omega⟩ ⟨by omega, by omega⟩ (by decide) hg hon hk) ?_
      refine sKi (p := 50) rfl rfl ?_
      refine sL (pc' := 51) (i := .istore_n 3) (ls' := [some (.ref 179), some (.int (iI ((k : Nat) : Int))), some (.int (iI ((ord (fpl n sz ord g) : Nat) : Int))), some (.int (iI 0))]) rfl rfl ?_
      refine sSh (T := wKw (wRw S 187 0 (cof n sz g (ord (fpl n sz ord g)) k)) 200 0 0 (cof n sz g (ord (fpl n sz ord g)) k)) (congrArg sH (wKw_0 _ _ _ _).symm) ?_
      refine sIt (A := fun i => [some (.ref 179), some (.int (iI ((k : Nat) : Int))), some (.int (iI ((ord (fpl n sz ord g) : Nat) : Int))), some (.int (iI ((i : Nat) : Int)))]) (B := fun i => wKw (wRw S 187 0 (cof n sz g (ord (fpl n sz ord g)) k)) 200 0 i (cof n sz g (ord (fpl n sz ord g)) k)) (fun _ => True) 16 True.intro (fun i hi51 hI51 ih51 => ?_) (fun hI51 => ?_)
      · have hi51 := hi51
        refine sL (pc' := 52) (i := .iload_n 3) rfl rfl ?_
        refine sKb (p := 54) rfl rfl ?_
        refine sIc_ge (p := 57) rfl rfl ⟨by omega, by omega⟩ ⟨by omega, by omega⟩ (fun c3 => ?_) (fun c3 => ?_)
        · exfalso; omega
        · have c3 := c3
          refine sL (pc' := 58) (i := .aload_n 0) rfl rfl ?_
          refine sGc (p := 61) rfl rfl (sk_179 _) rfl rfl rfl ?_
          refine sL (pc' := 62) (i := .iload_n 3) rfl rfl ?_
          refine sL (pc' := 63) (i := .aload_n 0) rfl rfl ?_
          refine sGc (p := 66) rfl rfl (sk_179 _) rfl rfl rfl ?_
          refine sL (pc' := 67) (i := .iload_n 3) rfl rfl ?_
          refine sAl (p := 68) (i := i) rfl rfl (sk_187 _) (by omega) ⟨by omega, by omega⟩ (wKw_o (by decide) (rowS_wRw _ _ _ _) (by omega)) ?_
          refine sWl (p := 69) (i := i) rfl rfl (sk_200 _) (by omega) ⟨by omega, by omega⟩ ?_
          refine sInX (z := ((i : Nat) : Int)) (ls' := [some (.ref 179), some (.int (iI ((k : Nat) : Int))), some (.int (iI ((ord (fpl n sz ord g) : Nat) : Int))), some (.int (iI (((i : Nat) : Int) + 1)))]) (p := 72) rfl rfl (Nat.le_of_ble_eq_true rfl) rfl rfl ?_
          refine sL (i := .goto (-21)) rfl rfl ?_
          refine sRo (ls := [some (.ref 179), some (.int (iI ((k : Nat) : Int))), some (.int (iI ((ord (fpl n sz ord g) : Nat) : Int))), some (.int (iI ((i + 1 : Nat) : Int)))]) (T := wKw (wRw S 187 0 (cof n sz g (ord (fpl n sz ord g)) k)) 200 0 (i + 1) (cof n sz g (ord (fpl n sz ord g)) k)) (And.intro rfl (And.intro rfl (And.intro rfl (And.intro rfl (True.intro))))) (congrArg sH (wKw_s (Nat.zero_add _).symm rfl)) (ih51 ?_)
          exact True.intro
      · have hI51 := hI51
        refine sL (pc' := 52) (i := .iload_n 3) rfl rfl ?_
        refine sKb (p := 54) rfl rfl ?_
        refine sIc_ge (p := 57) rfl rfl ⟨by omega, by omega⟩ ⟨by omega, by omega⟩ (fun c4 => ?_) (fun c4 => ?_)
        · have c4 := c4
          refine sL (pc' := 76) (i := .aload_n 0) rfl rfl ?_
          refine sCv (p := 79) (as := []) rfl rfl rfl rfl (by decide) (Nat.le_of_ble_eq_true rfl) rfl (Nat.le_of_ble_eq_true rfl) (sk_179 _) rfl (by omega) (m_here (S := wRw (wRw S 187 0 (cof n sz g (ord (fpl n sz ord g)) k)) 200 0 (cof n sz g (ord (fpl n sz ord g)) k)) hv hoM ho hp (rowS_wRw _ _ _ _) (cof_tb _ _ _ _ _)) ?_
          refine sEn (i := .ireturn) rfl (rfl) ?_
          exact ⟨rfl, rfl⟩
        · exact absurd c4 (by decide)
    · exfalso; have c2 := of_decide_eq_false c2; omega
  · exfalso; omega
end M12
