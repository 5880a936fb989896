/-! ===== the reference: print as a whole, printed ===== -/
section MS
variable {X : List Int32} {S : ST} {n fn : Nat} {sz ord pl : Nat → Nat} {Fn : Nat → Nat → Bool}
theorem pr_hd {Q : Option Value → ST → Prop} {S1 : ST} {f0 N : Nat} {l : Int} {L1 : List Nat} {v : Nat → Nat} {c : Nat → Nat → Nat} (hv : vM S1 n sz) (hN : SI S1 179 38 = ((N : Nat) : Int)) (hN2 : N ≤ 380) (hL1 : L1.length ≤ 1) (hvv : ∀ j, j < N → v j < n ∧ SI S1 196 j = ((v j : Nat) : Int) ∧ ∀ k, k < sz (v j) → SI S1 197 (j * 6 + k) = ((c j k : Nat) : Int) ∧ c j k < 1000)
  (hq : ∀ S', frI S1 S' → tbM S' (L1 ++ ndsT v c sz N) 20000 → Q (some (.int (iI (((L1 ++ ndsT v c sz N).length : Nat) : Int)))) S') :
  ∀ u j, j + u = N → ∀ S, frI S1 S → tbM S (L1 ++ ndsT v c sz j) (1 + 33 * j) → sT X 2 243 50 [some (.ref 179), some (.int (iI ((f0 : Nat) : Int))), some (.int (iI l)), some (.int (iI ((j : Nat) : Int))), none] [] S (sE X 243 Q) := by
  intro u
  induction u with
  | zero =>
    intro j hj S hf ht
    have hj : j = N := hj
    subst hj
    have h38 : SI S 179 38 = ((j : Nat) : Int) := (hf.2.2.2.2 38 (by decide)).trans hN
    have hl := ht.2.2
    refine sL (pc' := 51) (i := .iload_n 3) rfl rfl ?_
    refine sL (pc' := 52) (i := .aload_n 0) rfl rfl ?_
    refine sGi (p := 55) rfl rfl (sk_179 _) rfl rfl rfl h38 ?_
    refine sIc_ge (p := 58) rfl rfl ⟨by omega, by omega⟩ ⟨by omega, by omega⟩ (fun c1 => ?_) (fun c1 => ?_)
    · have c1 := c1
      refine sL (pc' := 161) (i := .aload_n 0) rfl rfl ?_
      refine sGi (p := 164) rfl rfl (sk_179 _) rfl rfl rfl ht.1 ?_
      refine sEn (i := .ireturn) rfl (rfl) ?_
      exact hq S hf ⟨ht.1, ht.2.1, Nat.le_trans ht.2.2 (by omega)⟩
    · exfalso; omega
  | succ u ih =>
    intro j hj S hf ht
    have h38 : SI S 179 38 = ((N : Nat) : Int) := (hf.2.2.2.2 38 (by decide)).trans hN
    have hvj := hvv j (by omega)
    refine sL (pc' := 51) (i := .iload_n 3) rfl rfl ?_
    refine sL (pc' := 52) (i := .aload_n 0) rfl rfl ?_
    refine sGi (p := 55) rfl rfl (sk_179 _) rfl rfl rfl h38 ?_
    refine sIc_ge (p := 58) rfl rfl ⟨by omega, by omega⟩ ⟨by omega, by omega⟩ (fun c1 => ?_) (fun c1 => ?_)
    · exfalso; omega
    · have c1 := c1
      refine pr_nd (vM_I hv hf) ht (by omega) (by omega) ((congrFun (hf.2.2.2.1 196 (by decide) (by decide)) _).trans hvj.2.1) hvj.1 (fun k hk => (congrFun (hf.2.2.2.1 197 (by decide) (by decide)) _).trans (hvj.2.2 k hk).1) (fun k hk => (hvj.2.2 k hk).2) ?_
      intro S' f1 t1
      refine ih (j + 1) (by omega) S' (frI_trans hf f1) ?_
      rw [show ndsT v c sz (j + 1) = ndsT v c sz j ++ ndT j (v j) (c j) (sz (v j)) from rfl, ← List.append_assoc]
      exact ⟨t1.1, t1.2.1, Nat.le_trans t1.2.2 (by omega)⟩
theorem m_print_u {x : Int} (hfn : SI S 179 9 = (fn : Nat)) (h40 : fn ≤ 40) (hx : rg x) (hn : ¬ (0 ≤ x ∧ x < fn)) : sM X 7 243 [.ref 179, .int (iI x)] S (sV (some (.int (iI (-101)))) S) := by
  have x1 := hx.1
  have x2 := hx.2
  refine sIni (ls := [some (.ref 179), some (.int (iI x)), none, none, none]) rfl ?_
  refine sL (pc' := 1) (i := .aload_n 0) rfl rfl ?_
  refine sL (pc' := 2) (i := .iload_n 1) rfl rfl ?_
  refine sCv (p := 5) (as := [_]) rfl rfl rfl rfl (by decide) (Nat.le_of_ble_eq_true rfl) rfl (Nat.le_of_ble_eq_true rfl) (sk_179 _) rfl (by omega) (m_isFunction hx hfn h40) ?_
  refine sBn (p := 8) rfl rfl (fun c1 => ?_) (fun c1 => ?_)
  · have c1 := c1
    have c1 := of_decide_eq_true c1
    exact absurd (by assumption) hn
  · have c1 := c1
    have c1 := of_decide_eq_false c1
    refine sKb (p := 10) rfl rfl ?_
    refine sEn (i := .ireturn) rfl (rfl) ?_
    exact ⟨rfl, rfl⟩
theorem m_print {f0 : Nat} (hv : vM S n sz) (hoM : oM S n ord) (ho : prm n ord pl) (hfn : SI S 179 9 = (fn : Nat)) (h40 : fn ≤ 40) (hF : ∀ i, i < fn → rowS S 185 (16 * i) (Fn i)) (htb : ∀ i, i < fn → tbT (pr sz n) (Fn i)) (hf0 : f0 < fn) : sM X 7 243 [.ref 179, .int (iI ((f0 : Nat) : Int))] S (fun r S' => r = some (.int (iI (((prT n sz ord (Fn f0)).length : Nat) : Int))) ∧ (∃ S1, frG S S1 ∧ frI S1 S') ∧ tbM S' (prT n sz ord (Fn f0)) 20000) := by
  have hw := hv.1
  have hNF := NF_380 hw ho (htb f0 hf0)
  have hE := (NF_ok (F := Fn) hw ho h40 hf0 (htb f0 hf0)).1
  have hcf : ∀ S2 : ST, gM S2 n sz ord (NF n sz ord (Fn f0)) (LF n sz ord (Fn f0)) (NF n sz ord (Fn f0)) → ∀ j, j < NF n sz ord (Fn f0) → prV n sz ord (Fn f0) j < n ∧ SI S2 196 j = ((prV n sz ord (Fn f0) j : Nat) : Int) ∧ ∀ k, k < sz (prV n sz ord (Fn f0) j) → SI S2 197 (j * 6 + k) = ((prC n sz ord (Fn f0) j k : Nat) : Int) ∧ prC n sz ord (Fn f0) j k < 1000 := by
    intro S2 hg j hj
    refine ⟨hNF.2 j hj, (hg j hj).1, fun k hk => ?_⟩
    have h1 := (hg j hj).2 k hk
    have h2 := cdN_b (L := LF n sz ord (Fn f0)) (T := pr sz n) (N := NF n sz ord (Fn f0)) (q := cof n sz (LF n sz ord (Fn f0) j) (prV n sz ord (Fn f0) j) k)
    refine ⟨h1.trans ?_, ?_⟩
    · show cdN (pr sz n) (NF n sz ord (Fn f0)) (LF n sz ord (Fn f0)) (cof n sz (LF n sz ord (Fn f0) j) (prV n sz ord (Fn f0) j) k) = ((Int.toNat (cdN (pr sz n) (NF n sz ord (Fn f0)) (LF n sz ord (Fn f0)) (cof n sz (LF n sz ord (Fn f0) j) (prV n sz ord (Fn f0) j) k)) : Nat) : Int)
      omega
    · show Int.toNat (cdN (pr sz n) (NF n sz ord (Fn f0)) (LF n sz ord (Fn f0)) (cof n sz (LF n sz ord (Fn f0) j) (prV n sz ord (Fn f0) j) k)) < 1000
      have := hNF.1
      omega
  have hlf : lfv (pr sz n) (Fn f0) = -1 ∨ lfv (pr sz n) (Fn f0) = 0 ∨ lfv (pr sz n) (Fn f0) = 1 := by
    unfold lfv
    repeat' split
    · exact Or.inr (Or.inl rfl)
    · exact Or.inr (Or.inr rfl)
    · exact Or.inl rfl
  by_cases cl : lfv (pr sz n) (Fn f0) = -1
  · have cl2 := cl
    refine sIni (ls := [some (.ref 179), some (.int (iI ((f0 : Nat) : Int))), none, none, none]) rfl ?_
    refine sL (pc' := 1) (i := .aload_n 0) rfl rfl ?_
    refine sL (pc' := 2) (i := .iload_n 1) rfl rfl ?_
    refine sCv (p := 5) (as := [_]) rfl rfl rfl rfl (by decide) (Nat.le_of_ble_eq_true rfl) rfl (Nat.le_of_ble_eq_true rfl) (sk_179 _) rfl (by omega) (m_isFunction (x := ((f0 : Nat) : Int)) ⟨by omega, by omega⟩ hfn h40) ?_
    refine sBn (p := 8) rfl rfl (fun c1 => ?_) (fun c1 => ?_)
    · have c1 := c1
      have c1 := of_decide_eq_true c1
      refine sL (pc' := 12) (i := .aload_n 0) rfl rfl ?_
      refine sL (pc' := 13) (i := .iload_n 1) rfl rfl ?_
      refine sCvQ (p := 16) (as := [_]) rfl rfl rfl rfl (by decide) (Nat.le_of_ble_eq_true rfl) rfl (Nat.le_of_ble_eq_true rfl) (sk_179 _) rfl (by omega) (m_size_f hv hoM ho hfn h40 hF htb hf0 hE) ?_
      rintro _ S1 ⟨rfl, hf1, hn1, hg1⟩
      have hv1 : vM S1 n sz := frG_vM hf1 hv
      have hi1 : frI S1 (wI S1 179 44 0) := frI_w
      have hrow : rowS S1 185 (16 * f0) (Fn f0) := frG_row hf1 (by decide) (by decide) (hF f0 hf0)
      have t0 : tbM (wI S1 179 44 0) [] 0 := ⟨rI_at, fun j hj => absurd hj (Nat.not_lt_zero _), Nat.le_refl _⟩
      refine sL (pc' := 17) (i := .pop) rfl rfl ?_
      refine sL (pc' := 18) (i := .aload_n 0) rfl rfl ?_
      refine sKi (p := 19) rfl rfl ?_
      refine sPi (z := 0) (p := 22) rfl rfl (sk_179 _) rfl rfl rfl rfl ?_
      refine sL (pc' := 23) (i := .aload_n 0) rfl rfl ?_
      refine sL (pc' := 24) (i := .aload_n 0) rfl rfl ?_
      refine sGc (p := 27) rfl rfl (sk_179 _) rfl rfl rfl ?_
      refine sKb (p := 29) rfl rfl ?_
      refine sL (pc' := 30) (i := .iload_n 1) rfl rfl ?_
      refine sMu (p := 31) rfl rfl ?_
      refine sCv (p := 34) (as := [_, _]) rfl rfl rfl rfl (by decide) (Nat.le_of_ble_eq_true rfl) rfl (Nat.le_of_ble_eq_true rfl) (sk_179 _) rfl (by omega) (m_leaf (o := 16 * f0) (vM_I hv1 hi1) (sk_185 _) ⟨by omega, by omega⟩ hrow) ?_
      refine sL (pc' := 35) (i := .istore_n 2) (ls' := [some (.ref 179), some (.int (iI ((f0 : Nat) : Int))), some (.int (iI (lfv (pr sz n) (Fn f0)))), none, none]) rfl rfl ?_
      refine sL (pc' := 36) (i := .iload_n 2) rfl rfl ?_
      refine sKi (p := 37) rfl rfl ?_
      refine sIc_eq (p := 40) rfl rfl ⟨by omega, by omega⟩ ⟨by omega, by omega⟩ (fun c2 => ?_) (fun c2 => ?_)
      · have c2 := c2
        refine sKi (p := 49) rfl rfl ?_
        refine sL (pc' := 50) (i := .istore_n 3) (ls' := [some (.ref 179), some (.int (iI ((f0 : Nat) : Int))), some (.int (iI (lfv (pr sz n) (Fn f0)))), some (.int (iI 0)), none]) rfl rfl ?_
        refine sT.deeper (d := 2) (pr_hd (S1 := S1) (L1 := []) hv1 hn1.1 hNF.1 (Nat.zero_le _) (hcf S1 hg1) ?_ (NF n sz ord (Fn f0)) 0 (Nat.zero_add _) _ hi1 ⟨t0.1, t0.2.1, Nat.zero_le _⟩) (by decide)
        intro S' f1 t1
        have e9 : prT n sz ord (Fn f0) = [] ++ ndsT (prV n sz ord (Fn f0)) (prC n sz ord (Fn f0)) sz (NF n sz ord (Fn f0)) := by
          unfold prT
          rw [if_pos cl]
        rw [e9]
        exact ⟨rfl, ⟨S1, hf1, f1⟩, t1⟩
      · exfalso; omega
    · exfalso; have c1 := of_decide_eq_false c1; omega
  · obtain ⟨q, hq⟩ : ∃ q : Nat, lfv (pr sz n) (Fn f0) = ((q : Nat) : Int) := ⟨(lfv (pr sz n) (Fn f0)).toNat, by omega⟩
    have hqt : (lfv (pr sz n) (Fn f0)).toNat = q := by rw [hq]; rfl
    refine sIni (ls := [some (.ref 179), some (.int (iI ((f0 : Nat) : Int))), none, none, none]) rfl ?_
    refine sL (pc' := 1) (i := .aload_n 0) rfl rfl ?_
    refine sL (pc' := 2) (i := .iload_n 1) rfl rfl ?_
    refine sCv (p := 5) (as := [_]) rfl rfl rfl rfl (by decide) (Nat.le_of_ble_eq_true rfl) rfl (Nat.le_of_ble_eq_true rfl) (sk_179 _) rfl (by omega) (m_isFunction (x := ((f0 : Nat) : Int)) ⟨by omega, by omega⟩ hfn h40) ?_
    refine sBn (p := 8) rfl rfl (fun c1 => ?_) (fun c1 => ?_)
    · have c1 := c1
      have c1 := of_decide_eq_true c1
      refine sL (pc' := 12) (i := .aload_n 0) rfl rfl ?_
      refine sL (pc' := 13) (i := .iload_n 1) rfl rfl ?_
      refine sCvQ (p := 16) (as := [_]) rfl rfl rfl rfl (by decide) (Nat.le_of_ble_eq_true rfl) rfl (Nat.le_of_ble_eq_true rfl) (sk_179 _) rfl (by omega) (m_size_f hv hoM ho hfn h40 hF htb hf0 hE) ?_
      rintro _ S1 ⟨rfl, hf1, hn1, hg1⟩
      have hv1 : vM S1 n sz := frG_vM hf1 hv
      have hi1 : frI S1 (wI S1 179 44 0) := frI_w
      have hrow : rowS S1 185 (16 * f0) (Fn f0) := frG_row hf1 (by decide) (by decide) (hF f0 hf0)
      have t0 : tbM (wI S1 179 44 0) [] 0 := ⟨rI_at, fun j hj => absurd hj (Nat.not_lt_zero _), Nat.le_refl _⟩
      refine sL (pc' := 17) (i := .pop) rfl rfl ?_
      refine sL (pc' := 18) (i := .aload_n 0) rfl rfl ?_
      refine sKi (p := 19) rfl rfl ?_
      refine sPi (z := 0) (p := 22) rfl rfl (sk_179 _) rfl rfl rfl rfl ?_
      refine sL (pc' := 23) (i := .aload_n 0) rfl rfl ?_
      refine sL (pc' := 24) (i := .aload_n 0) rfl rfl ?_
      refine sGc (p := 27) rfl rfl (sk_179 _) rfl rfl rfl ?_
      refine sKb (p := 29) rfl rfl ?_
      refine sL (pc' := 30) (i := .iload_n 1) rfl rfl ?_
      refine sMu (p := 31) rfl rfl ?_
      refine sCv (p := 34) (as := [_, _]) rfl rfl rfl rfl (by decide) (Nat.le_of_ble_eq_true rfl) rfl (Nat.le_of_ble_eq_true rfl) (sk_179 _) rfl (by omega) (m_leaf (o := 16 * f0) (vM_I hv1 hi1) (sk_185 _) ⟨by omega, by omega⟩ hrow) ?_
      rw [hq]
      refine sL (pc' := 35) (i := .istore_n 2) (ls' := [some (.ref 179), some (.int (iI ((f0 : Nat) : Int))), some (.int (iI ((q : Nat) : Int))), none, none]) rfl rfl ?_
      refine sL (pc' := 36) (i := .iload_n 2) rfl rfl ?_
      refine sKi (p := 37) rfl rfl ?_
      refine sIc_eq (p := 40) rfl rfl ⟨by omega, by omega⟩ ⟨by omega, by omega⟩ (fun c2 => ?_) (fun c2 => ?_)
      · exfalso; omega
      · have c2 := c2
        refine sL (pc' := 41) (i := .aload_n 0) rfl rfl ?_
        refine sKb (p := 43) rfl rfl ?_
        refine sL (pc' := 44) (i := .iload_n 2) rfl rfl ?_
        refine sAd (p := 45) rfl rfl ?_
        rw [show ((48 + ((q : Nat) : Int)) : Int) = ((48 + q : Nat) : Int) from by omega]
        refine sCvQ (p := 48) (as := [_]) rfl rfl rfl rfl (by decide) (Nat.le_of_ble_eq_true rfl) rfl (Nat.le_of_ble_eq_true rfl) (sk_179 _) rfl (by omega) (m_put (c := 48 + q) (by omega) t0 (by omega)) ?_
        rintro _ P1 ⟨rfl, t1, f1⟩
        refine sKi (p := 49) rfl rfl ?_
        refine sL (pc' := 50) (i := .istore_n 3) (ls' := [some (.ref 179), some (.int (iI ((f0 : Nat) : Int))), some (.int (iI ((q : Nat) : Int))), some (.int (iI 0)), none]) rfl rfl ?_
        refine sT.deeper (d := 2) (pr_hd (S1 := S1) (L1 := [48 + (lfv (pr sz n) (Fn f0)).toNat]) hv1 hn1.1 hNF.1 (Nat.le_refl _) (hcf S1 hg1) ?_ (NF n sz ord (Fn f0)) 0 (Nat.zero_add _) _ (frI_trans hi1 f1) (by rw [hqt]; exact t1)) (by decide)
        intro S' f1 t1
        have e9 : prT n sz ord (Fn f0) = [48 + (lfv (pr sz n) (Fn f0)).toNat] ++ ndsT (prV n sz ord (Fn f0)) (prC n sz ord (Fn f0)) sz (NF n sz ord (Fn f0)) := by
          unfold prT
          rw [if_neg cl]
        rw [e9]
        exact ⟨rfl, ⟨S1, hf1, f1⟩, t1⟩
    · exfalso; have c1 := of_decide_eq_false c1; omega
theorem m_printed {x : Int} {L : List Nat} (ht : tbM S L 20000) (hb : ∀ j, j < L.length → L.getD j 0 < 128) (hx : rg x) : sM X 1 244 [.ref 179, .int (iI x)] S (sV (some (.int (iI (if 0 ≤ x ∧ x < ((L.length : Nat) : Int) then ((L.getD x.toNat 0 : Nat) : Int) else -1)))) S) := by
  have x1 := hx.1
  have x2 := hx.2
  have hl := ht.2.2
  refine sIni (ls := [some (.ref 179), some (.int (iI x))]) rfl ?_
  refine sL (pc' := 1) (i := .iload_n 1) rfl rfl ?_
  refine sI2l (p := 2) rfl rfl ⟨by omega, by omega⟩ ?_
  refine sKj0 (p := 3) rfl rfl rfl ?_
  refine sL (pc' := 4) (i := .aload_n 0) rfl rfl ?_
  refine sGi (p := 7) rfl rfl (sk_179 _) rfl rfl rfl ht.1 ?_
  refine sKi (p := 8) rfl rfl ?_
  refine sSb (p := 9) rfl rfl ?_
  refine sI2l (p := 10) rfl rfl ⟨by omega, by omega⟩ ?_
  refine sCs (p := 13) (as := [_, _, _]) rfl rfl rfl rfl (by decide) (Nat.le_of_ble_eq_true rfl) rfl (Nat.le_of_ble_eq_true rfl) rfl (by omega) (m_in (x := x) (y := 0) (z := ((L.length : Nat) : Int) - 1) ⟨by omega, by omega⟩ ⟨by omega, by omega⟩ ⟨by omega, by omega⟩) ?_
  refine sBe (p := 16) rfl rfl (fun c1 => ?_) (fun c1 => ?_)
  · have c1 := c1
    have c1 := of_decide_eq_false c1
    refine sKi (p := 26) rfl rfl ?_
    refine sEn (i := .ireturn) rfl (rfl) ?_
    exact ⟨congrArg (fun z : Int => some (Value.int (iI z))) (show (-1 : Int) = _ from by rw [if_neg (by omega)]), rfl⟩
  · have c1 := c1
    have c1 := of_decide_eq_true c1
    refine sL (pc' := 17) (i := .aload_n 0) rfl rfl ?_
    refine sGc (p := 20) rfl rfl (sk_179 _) rfl rfl rfl ?_
    refine sL (pc' := 21) (i := .iload_n 1) rfl rfl ?_
    refine sAb (p := 22) (i := x.toNat) rfl rfl (sk_201 _) (Or.inr rfl) (by omega) ⟨by omega, by omega⟩ (ht.2.1 x.toNat (by omega)) ?_
    refine sL (i := .goto 4) rfl rfl ?_
    refine sEn (i := .ireturn) rfl (rfl) ?_
    exact ⟨congrArg (fun z : Int => some (Value.int (iI z))) (show ((L.getD x.toNat 0 : Nat) : Int) = _ from by rw [if_pos (by omega)]), rfl⟩
end MS
