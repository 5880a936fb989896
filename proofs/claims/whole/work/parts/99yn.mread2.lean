/-! ===== the reference: read as a whole, named, fault, end ===== -/
section MN
variable {X : List Int32} {S S0 : ST} {y : Nat → Nat} {s i n : Nat} {sz : Nat → Nat} {C : Nat → Int64} {fn nc : Nat} {Fn : Nat → Nat → Bool} {nm rn : Nat → Int64} {rof : Nat → Nat} {QQ : Option Value → ST → Prop}
theorem rd_end {d : Nat} (hA : mA S y s i) (hK : tk y s i = 264) (h9 : SI S 179 9 = ((fn + d : Nat) : Int)) (hq : QQ (some (.int (iI ((d : Nat) : Int)))) S) : sT X 6 210 37 [some (.ref 179), some (.int (iI ((fn : Nat) : Int))), some (.int (iI ((nc : Nat) : Int))), none, none, none] [] S (sE X 210 QQ) := by
  have e1 : rc (tk y s i) = 0 := by rw [hK]; rfl
  refine sL (pc' := 38) (i := .aload_n 0) rfl rfl ?_
  refine sGi (p := 41) rfl rfl (sk_179 _) rfl rfl rfl hA.2.1 ?_
  refine sIf_ne (p := 44) rfl rfl ⟨by omega, by omega⟩ (fun c1 => ?_) (fun c1 => ?_)
  · exact absurd c1 (by decide)
  · have c1 := c1
    refine sL (pc' := 45) (i := .aload_n 0) rfl rfl ?_
    refine sGi (p := 48) rfl rfl (sk_179 _) rfl rfl rfl hA.2.2.2.1 ?_
    refine sIf_eq (p := 51) rfl rfl ⟨by omega, by omega⟩ (fun c2 => ?_) (fun c2 => ?_)
    · have c2 := c2
      refine sL (pc' := 247) (i := .aload_n 0) rfl rfl ?_
      refine sGi (p := 250) rfl rfl (sk_179 _) rfl rfl rfl hA.2.1 ?_
      refine sIf_eq (p := 253) rfl rfl ⟨by omega, by omega⟩ (fun c3 => ?_) (fun c3 => ?_)
      · have c3 := c3
        refine sL (pc' := 302) (i := .aload_n 0) rfl rfl ?_
        refine sGi (p := 305) rfl rfl (sk_179 _) rfl rfl rfl h9 ?_
        refine sL (pc' := 306) (i := .iload_n 1) rfl rfl ?_
        refine sSb (p := 307) rfl rfl ?_
        rw [show (((fn + d : Nat) : Int) - ((fn : Nat) : Int) : Int) = ((d : Nat) : Int) from by omega]
        refine sEn (i := .ireturn) rfl (rfl) ?_
        exact hq
      · exact absurd c3 (by decide)
    · exfalso; omega
theorem rd_hd (hs : s ≤ 400) (hag : agC C y s) (hnc : nc ≤ fn) (htb : ∀ f, f < fn → tbT (pr sz n) (Fn f)) (hro : ∀ i, i < nc → rof i < fn)
  (hok : (tx (tk y s) C n sz fn Fn nm (nTx (tk y s) C n sz fn Fn nm)).1 = 0 → ∀ S' rn' rof', frE S0 S' → SI S' 179 14 = 0 → SI S' 179 13 = SI S0 179 13 → mFn S' (fn + (tx (tk y s) C n sz fn Fn nm (nTx (tk y s) C n sz fn Fn nm)).2.2.1) (tx (tk y s) C n sz fn Fn nm (nTx (tk y s) C n sz fn Fn nm)).2.2.2.1 (nc + (tx (tk y s) C n sz fn Fn nm (nTx (tk y s) C n sz fn Fn nm)).2.2.1) rn' rof' → nmJ (tx (tk y s) C n sz fn Fn nm (nTx (tk y s) C n sz fn Fn nm)).2.2.2.2 (fn + (tx (tk y s) C n sz fn Fn nm (nTx (tk y s) C n sz fn Fn nm)).2.2.1) rn' rof' (nc + (tx (tk y s) C n sz fn Fn nm (nTx (tk y s) C n sz fn Fn nm)).2.2.1) → QQ (some (.int (iI (((tx (tk y s) C n sz fn Fn nm (nTx (tk y s) C n sz fn Fn nm)).2.2.1 : Nat) : Int)))) S')
  (hbad : (tx (tk y s) C n sz fn Fn nm (nTx (tk y s) C n sz fn Fn nm)).1 ≠ 0 → ∀ S', (tx (tk y s) C n sz fn Fn nm (nTx (tk y s) C n sz fn Fn nm)).1 ≤ 5 → frE S0 S' → SI S' 179 14 = (((tx (tk y s) C n sz fn Fn nm (nTx (tk y s) C n sz fn Fn nm)).1 : Nat) : Int) → SI S' 179 13 = SI S0 179 13 → mFn S' fn Fn nc rn rof → QQ (some (.int (iI (-1000 - ((tA y s (tx (tk y s) C n sz fn Fn nm (nTx (tk y s) C n sz fn Fn nm)).2.1 : Nat) : Int))))) S') :
  ∀ u t, t + u = (nTx (tk y s) C n sz fn Fn nm) → (tx (tk y s) C n sz fn Fn nm t).1 = 0 → ∀ S rn' rof', frE S0 S → SI S 179 13 = SI S0 179 13 → vM S n sz → mN S y s (tx (tk y s) C n sz fn Fn nm t).2.1 → mFn S (fn + (tx (tk y s) C n sz fn Fn nm t).2.2.1) (tx (tk y s) C n sz fn Fn nm t).2.2.2.1 (nc + (tx (tk y s) C n sz fn Fn nm t).2.2.1) rn' rof' → nmJ (tx (tk y s) C n sz fn Fn nm t).2.2.2.2 (fn + (tx (tk y s) C n sz fn Fn nm t).2.2.1) rn' rof' (nc + (tx (tk y s) C n sz fn Fn nm t).2.2.1) → (∀ i, i < nc → rn' i = rn i ∧ rof' i = rof i) → sT X 6 210 37 [some (.ref 179), some (.int (iI ((fn : Nat) : Int))), some (.int (iI ((nc : Nat) : Int))), none, none, none] [] S (sE X 210 QQ) := by
  have hN := nTx_ok (tk y s) C n sz fn Fn nm
  have hNl := nTx_lt (y := y) (s := s) (C := C) (n := n) (sz := sz) (fn := fn) (Fn := Fn) (nm := nm) hs
  intro u
  induction u with
  | zero =>
    intro t ht h0 S rn' rof' hf h13 hv hm hF hnm hrn
    have ht : t = (nTx (tk y s) C n sz fn Fn nm) := ht
    rw [← ht] at hok
    have hN2 := hN.2.2 hNl
    rw [← ht] at hN2
    have hK : tk y s (tx (tk y s) C n sz fn Fn nm t).2.1 = 264 := Classical.byContradiction fun c => hN2 ⟨h0, c⟩
    have hA := mN_alive hm (by omega)
    exact rd_end (d := (tx (tk y s) C n sz fn Fn nm t).2.2.1) hA hK hF.1 (hok h0 S rn' rof' hf hA.2.1 h13 hF hnm)
  | succ u ih =>
    intro t ht h0 S rn' rof' hf h13 hv hm hF hnm hrn
    have hgo := hN.2.1 t (by omega)
    have hpos := tx_pos (y := y) (s := s) (C := C) (n := n) (sz := sz) (fn := fn) (Fn := Fn) (nm := nm) t (fun v q => (hN.2.1 v (by omega)).1) h0
    have htx := tb_tx (K := tk y s) (C := C) (nm := nm) (sz := sz) (n := n) htb t
    refine rd_step (d := (tx (tk y s) C n sz fn Fn nm t).2.2.1) (i := (tx (tk y s) C n sz fn Fn nm t).2.1) (nm' := (tx (tk y s) C n sz fn Fn nm t).2.2.2.2) hag hv hpos.1 hm hgo.2 hF hnm hnc htx.1 (pDef (tk y s) C n sz (fn + (tx (tk y s) C n sz fn Fn nm t).2.2.1) (tx (tk y s) C n sz fn Fn nm t).2.2.2.1 (tx (tk y s) C n sz fn Fn nm t).2.2.2.2 (tx (tk y s) C n sz fn Fn nm t).2.1) rfl (fun S' r1 r2 r3 r4 r5 => ?_) (fun S' r1 r2 r3 r4 r5 r6 => ?_)
    · have e := tx_e2 (t := t) r1
      have hlast : (nTx (tk y s) C n sz fn Fn nm) = t + 1 := by
        refine Classical.byContradiction fun c => ?_
        have := (hN.2.1 (t + 1) (by omega)).1
        rw [e] at this
        exact r1 this
      rw [hlast, e] at hbad
      refine rd_dead r4 r5 (fun i hi => (htx.2 i hi).1) hrn hro (fun S3 q1 q2 q3 q4 => ?_)
      exact hbad r1 S3 r4.2.2.1.2 (frE_trans hf (frE_trans r2 q1)) q2 (q3.trans (r3.trans h13)) q4
    · have e := tx_e1 (t := t) r1
      have ih := ih (t + 1) (by omega)
      rw [e] at ih
      refine ih rfl S' _ _ (frE_trans hf r2) (r3.trans h13) (vM_E hv r2) r4 r5 (nmJ_add hnm r6) (fun i hi => ?_)
      refine ⟨?_, ?_⟩
      · rw [show nup rn' (nc + (tx (tk y s) C n sz fn Fn nm t).2.2.1) (C (tx (tk y s) C n sz fn Fn nm t).2.1) i = rn' i from if_neg (by omega)]
        exact (hrn i hi).1
      · rw [show fup rof' (nc + (tx (tk y s) C n sz fn Fn nm t).2.2.1) (fn + (tx (tk y s) C n sz fn Fn nm t).2.2.1) i = rof' i from if_neg (by omega)]
        exact (hrn i hi).2
/-- the reference reads a text -/
theorem m_read (hv : vM S n sz) (ht : mT S y s) (hF : mFn S fn Fn nc rn rof) (hnm : nmJ nm fn rn rof nc) (hnc : nc ≤ fn) (htb : ∀ f, f < fn → tbT (pr sz n) (Fn f)) (hag : agC C y s) : sM X 6 210 [.ref 179] S (fun r S' => frE S S' ∧ SI S' 179 13 = 0 ∧ ((tx (tk y s) C n sz fn Fn nm (nTx (tk y s) C n sz fn Fn nm)).1 = 0 → r = some (.int (iI (((tx (tk y s) C n sz fn Fn nm (nTx (tk y s) C n sz fn Fn nm)).2.2.1 : Nat) : Int))) ∧ SI S' 179 14 = 0 ∧ ∃ rn' rof', mFn S' (fn + (tx (tk y s) C n sz fn Fn nm (nTx (tk y s) C n sz fn Fn nm)).2.2.1) (tx (tk y s) C n sz fn Fn nm (nTx (tk y s) C n sz fn Fn nm)).2.2.2.1 (nc + (tx (tk y s) C n sz fn Fn nm (nTx (tk y s) C n sz fn Fn nm)).2.2.1) rn' rof' ∧ nmJ (tx (tk y s) C n sz fn Fn nm (nTx (tk y s) C n sz fn Fn nm)).2.2.2.2 (fn + (tx (tk y s) C n sz fn Fn nm (nTx (tk y s) C n sz fn Fn nm)).2.2.1) rn' rof' (nc + (tx (tk y s) C n sz fn Fn nm (nTx (tk y s) C n sz fn Fn nm)).2.2.1)) ∧ ((tx (tk y s) C n sz fn Fn nm (nTx (tk y s) C n sz fn Fn nm)).1 ≠ 0 → r = some (.int (iI (-1000 - ((tA y s (tx (tk y s) C n sz fn Fn nm (nTx (tk y s) C n sz fn Fn nm)).2.1 : Nat) : Int)))) ∧ SI S' 179 14 = (((tx (tk y s) C n sz fn Fn nm (nTx (tk y s) C n sz fn Fn nm)).1 : Nat) : Int) ∧ (tx (tk y s) C n sz fn Fn nm (nTx (tk y s) C n sz fn Fn nm)).1 ≤ 5 ∧ mFn S' fn Fn nc rn rof)) := by
  have hs := ht.1
  obtain ⟨S1, hS1⟩ : ∃ S1, S1 = wI (wI (wI (wI S 179 22 ((s : Nat) : Int)) 179 13 0) 179 23 0) 179 14 0 := ⟨_, rfl⟩
  have hfE : frE S S1 := by
    rw [hS1]
    exact frE_trans (frE_trans (frE_trans (frE_w (by omega)) (frE_w (by omega))) (frE_w (by omega))) (frE_w (by omega))
  have hiS : ∀ j, j ≠ 22 → j ≠ 13 → j ≠ 23 → j ≠ 14 → SI S1 179 j = SI S 179 j := fun j h1 h2 h3 h4 => by
    rw [hS1]
    exact (rI_nj h4).trans ((rI_nj h3).trans ((rI_nj h2).trans (rI_nj h1)))
  have hlS : SL S1 = SL S := by rw [hS1]; rfl
  have hcS : ∀ c, c ≠ 179 → SI S1 c = SI S c := fun c hc => by
    rw [hS1]
    exact funext fun j => (rI_ne hc _).trans ((rI_ne hc _).trans ((rI_ne hc _).trans (rI_ne hc _)))
  have h131 : SI S1 179 13 = 0 := by
    rw [hS1]
    exact (rI_nj (by decide)).trans ((rI_nj (by decide)).trans rI_at)
  have hmt : mt S1 y s := ⟨hs, ht.2.1, by rw [hS1]; exact (rI_nj (by decide)).trans ((rI_nj (by decide)).trans ((rI_nj (by decide)).trans rI_at)), fun j hj => by rw [hcS 188 (by decide)]; exact ht.2.2.2 j hj⟩
  have hG : mG S1 y s 0 := ⟨hmt, by rw [hS1]; exact rI_at, 0, Nat.zero_le _, by rw [hS1]; exact (rI_nj (by decide)).trans rI_at, rfl⟩
  have hF1 : mFn S1 fn Fn nc rn rof := by
    unfold mFn rowS at *
    rw [hiS 9 (by decide) (by decide) (by decide) (by decide), hiS 17 (by decide) (by decide) (by decide) (by decide), hcS 190 (by decide), hlS]
    exact hF
  have h91 := hF1.1
  have h171 := hF1.2.2.2.1
  refine sIni (ls := [some (.ref 179), none, none, none, none, none]) rfl ?_
  refine sL (pc' := 1) (i := .aload_n 0) rfl rfl ?_
  refine sL (pc' := 2) (i := .aload_n 0) rfl rfl ?_
  refine sGi (p := 5) rfl rfl (sk_179 _) rfl rfl rfl ht.2.2.1 ?_
  refine sPi (z := ((s : Nat) : Int)) (p := 8) rfl rfl (sk_179 _) rfl rfl rfl rfl ?_
  refine sL (pc' := 9) (i := .aload_n 0) rfl rfl ?_
  refine sKi (p := 10) rfl rfl ?_
  refine sPi (z := 0) (p := 13) rfl rfl (sk_179 _) rfl rfl rfl rfl ?_
  refine sL (pc' := 14) (i := .aload_n 0) rfl rfl ?_
  refine sKi (p := 15) rfl rfl ?_
  refine sPi (z := 0) (p := 18) rfl rfl (sk_179 _) rfl rfl rfl rfl ?_
  refine sL (pc' := 19) (i := .aload_n 0) rfl rfl ?_
  refine sKi (p := 20) rfl rfl ?_
  refine sPi (z := 0) (p := 23) rfl rfl (sk_179 _) rfl rfl rfl rfl ?_
  rw [show (wI (wI (wI (wI S 179 (534 % 64) ((s : Nat) : Int)) 179 (525 % 64) 0) 179 (535 % 64) 0) 179 (526 % 64) 0) = S1 from hS1.symm]
  refine sL (pc' := 24) (i := .aload_n 0) rfl rfl ?_
  refine sGi (p := 27) rfl rfl (sk_179 _) rfl rfl rfl h91 ?_
  refine sL (pc' := 28) (i := .istore_n 1) (ls' := [some (.ref 179), some (.int (iI ((fn : Nat) : Int))), none, none, none, none]) rfl rfl ?_
  refine sL (pc' := 29) (i := .aload_n 0) rfl rfl ?_
  refine sGi (p := 32) rfl rfl (sk_179 _) rfl rfl rfl h171 ?_
  refine sL (pc' := 33) (i := .istore_n 2) (ls' := [some (.ref 179), some (.int (iI ((fn : Nat) : Int))), some (.int (iI ((nc : Nat) : Int))), none, none, none]) rfl rfl ?_
  refine sL (pc' := 34) (i := .aload_n 0) rfl rfl ?_
  refine sCvQ (p := 37) (as := []) rfl rfl rfl rfl (by decide) (Nat.le_of_ble_eq_true rfl) rfl (Nat.le_of_ble_eq_true rfl) (sk_179 _) rfl (by omega) (m_nextG hG) ?_
  rintro _ S2 ⟨rfl, hf2, hN2⟩
  have hf02 := frE_trans hfE (frE_K (frK_J hf2))
  refine rd_hd (C := C) (nm := nm) (Fn := Fn) (rn := rn) (rof := rof) (S0 := S2) (sz := sz) (n := n) hs hag hnc htb (fun i hi => (hF.2.2.2.2.2.2 i hi).2) ?_ ?_ _ 0 (Nat.zero_add _) rfl S2 rn rof (frE_refl _) rfl (vM_E hv hf02) hN2 (mFn_K hF1 (frK_J hf2)) hnm (fun _ _ => ⟨rfl, rfl⟩)
  · intro q S' rn' rof' f1 f2 f3 f4 f5
    exact ⟨frE_trans hf02 f1, f3.trans (((frK_J hf2).2.2.2.1 13 (by decide)).trans h131), fun _ => ⟨rfl, f2, rn', rof', f4, f5⟩, fun z => absurd q z⟩
  · intro q S' f0 f1 f2 f3 f4
    exact ⟨frE_trans hf02 f1, f3.trans (((frK_J hf2).2.2.2.1 13 (by decide)).trans h131), fun z => absurd z q, fun _ => ⟨rfl, f2, f0, f4⟩⟩
theorem m_fault {z : Int} (h : SI S 179 14 = z) : sM X 0 211 [.ref 179] S (sV (some (.int (iI z))) S) := by
  refine sIni (ls := [some (.ref 179)]) rfl ?_
  refine sL (pc' := 1) (i := .aload_n 0) rfl rfl ?_
  refine sGi (p := 4) rfl rfl (sk_179 _) rfl rfl rfl h ?_
  refine sEn (i := .ireturn) rfl (rfl) ?_
  exact ⟨rfl, rfl⟩
theorem m_end_t {x : Int} (ht : mT S y s) (hx : rg x) (hb : ¬ (0 ≤ x ∧ x ≤ ((s : Nat) : Int))) : sM X 1 190 [.ref 179, .int (iI x)] S (sV none (wI (wI S 179 0 0) 179 0 1)) := by
  have x1 := hx.1
  have x2 := hx.2
  have hs := ht.1
  refine sIni (ls := [some (.ref 179), some (.int (iI x))]) rfl ?_
  refine sL (pc' := 1) (i := .aload_n 0) rfl rfl ?_
  refine sKi (p := 2) rfl rfl ?_
  refine sPi (z := 0) (p := 5) rfl rfl (sk_179 _) rfl rfl rfl rfl ?_
  refine sL (pc' := 6) (i := .iload_n 1) rfl rfl ?_
  refine sI2l (p := 7) rfl rfl ⟨by omega, by omega⟩ ?_
  refine sKj0 (p := 8) rfl rfl rfl ?_
  refine sL (pc' := 9) (i := .aload_n 0) rfl rfl ?_
  refine sGi (p := 12) rfl rfl (sk_179 _) rfl rfl rfl ((rI_nj (by decide)).trans ht.2.2.1) ?_
  refine sI2l (p := 13) rfl rfl ⟨by omega, by omega⟩ ?_
  refine sCs (p := 16) (as := [_, _, _]) rfl rfl rfl rfl (by decide) (Nat.le_of_ble_eq_true rfl) rfl (Nat.le_of_ble_eq_true rfl) rfl (by omega) (m_in (x := x) (y := 0) (z := ((s : Nat) : Int)) ⟨by omega, by omega⟩ ⟨by omega, by omega⟩ ⟨by omega, by omega⟩) ?_
  refine sBn (p := 19) rfl rfl (fun c1 => ?_) (fun c1 => ?_)
  · have c1 := c1
    have c1 := of_decide_eq_true c1
    exact absurd (by assumption) hb
  · have c1 := c1
    have c1 := of_decide_eq_false c1
    refine sL (pc' := 20) (i := .aload_n 0) rfl rfl ?_
    refine sKi (p := 21) rfl rfl ?_
    refine sPi (z := 1) (p := 24) rfl rfl (sk_179 _) rfl rfl rfl rfl ?_
    refine sEn (i := .return_) rfl (rfl) ?_
    exact ⟨rfl, rfl⟩
theorem m_end {k : Nat} (ht : mT S y s) (hk : k ≤ s) : sM X 1 190 [.ref 179, .int (iI ((k : Nat) : Int))] S (sV none (wI (wI S 179 0 0) 179 13 ((k : Nat) : Int))) := by
  have hs := ht.1
  refine sIni (ls := [some (.ref 179), some (.int (iI ((k : Nat) : Int)))]) rfl ?_
  refine sL (pc' := 1) (i := .aload_n 0) rfl rfl ?_
  refine sKi (p := 2) rfl rfl ?_
  refine sPi (z := 0) (p := 5) rfl rfl (sk_179 _) rfl rfl rfl rfl ?_
  refine sL (pc' := 6) (i := .iload_n 1) rfl rfl ?_
  refine sI2l (p := 7) rfl rfl ⟨by omega, by omega⟩ ?_
  refine sKj0 (p := 8) rfl rfl rfl ?_
  refine sL (pc' := 9) (i := .aload_n 0) rfl rfl ?_
  refine sGi (p := 12) rfl rfl (sk_179 _) rfl rfl rfl ((rI_nj (by decide)).trans ht.2.2.1) ?_
  refine sI2l (p := 13) rfl rfl ⟨by omega, by omega⟩ ?_
  refine sCs (p := 16) (as := [_, _, _]) rfl rfl rfl rfl (by decide) (Nat.le_of_ble_eq_true rfl) rfl (Nat.le_of_ble_eq_true rfl) rfl (by omega) (m_in (x := ((k : Nat) : Int)) (y := 0) (z := ((s : Nat) : Int)) ⟨by omega, by omega⟩ ⟨by omega, by omega⟩ ⟨by omega, by omega⟩) ?_
  refine sBn (p := 19) rfl rfl (fun c1 => ?_) (fun c1 => ?_)
  · have c1 := c1
    have c1 := of_decide_eq_true c1
    refine sL (pc' := 26) (i := .aload_n 0) rfl rfl ?_
    refine sL (pc' := 27) (i := .iload_n 1) rfl rfl ?_
    refine sPi (z := ((k : Nat) : Int)) (p := 30) rfl rfl (sk_179 _) rfl rfl rfl rfl ?_
    refine sEn (i := .return_) rfl (rfl) ?_
    exact ⟨rfl, rfl⟩
  · exfalso; have c1 := of_decide_eq_false c1; omega
end MN
