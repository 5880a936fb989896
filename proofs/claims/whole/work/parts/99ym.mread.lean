/-! ===== the reference: read ===== -/
def mT (S : ST) (y : Nat → Nat) (s : Nat) : Prop := s ≤ 400 ∧ (∀ j, y j < 256) ∧ SI S 179 13 = ((s : Nat) : Int) ∧ ∀ j, j < s → SI S 188 j = sb (y j)
theorem mAddN_i {S : ST} {f c j : Nat} {v : Nat → Bool} {x : Int64} (h1 : j ≠ 9) (h2 : j ≠ 17) : SI (mAddN S f c v x) 179 j = SI S 179 j := (rI_nj h2).trans ((rI_ne (by decide) _).trans (rI_nj h1))
section MM
variable {X : List Int32} {S S0 : ST} {y : Nat → Nat} {s i n : Nat} {sz : Nat → Nat} {C : Nat → Int64} {fn nc : Nat} {Fn : Nat → Nat → Bool} {nm rn : Nat → Int64} {rof : Nat → Nat} {QQ : Option Value → ST → Prop}
theorem rd_dead {k p d e : Nat} {F' : Nat → Nat → Bool} {rn' : Nat → Int64} {rof' : Nat → Nat} (hX : mX S y s k p) (hF : mFn S (fn + d) F' (nc + e) rn' rof') (hFn : ∀ i, i < fn → F' i = Fn i) (hrn : ∀ i, i < nc → rn' i = rn i ∧ rof' i = rof i) (hro : ∀ i, i < nc → rof i < fn) (hq : ∀ S', frE S S' → SI S' 179 14 = ((k : Nat) : Int) → SI S' 179 13 = SI S 179 13 → mFn S' fn Fn nc rn rof → QQ (some (.int (iI (-1000 - ((p : Nat) : Int))))) S') : sT X 6 210 37 [some (.ref 179), some (.int (iI ((fn : Nat) : Int))), some (.int (iI ((nc : Nat) : Int))), none, none, none] [] S (sE X 210 QQ) := by
  have hk := hX.2.2.1
  have h40 := hF.2.1
  have h40c := hF.2.2.2.2.1
  refine sL (pc' := 38) (i := .aload_n 0) rfl rfl ?_
  refine sGi (p := 41) rfl rfl (sk_179 _) rfl rfl rfl hX.2.1 ?_
  refine sIf_ne (p := 44) rfl rfl ⟨by omega, by omega⟩ (fun c1 => ?_) (fun c1 => ?_)
  · have c1 := c1
    refine sL (pc' := 247) (i := .aload_n 0) rfl rfl ?_
    refine sGi (p := 250) rfl rfl (sk_179 _) rfl rfl rfl hX.2.1 ?_
    refine sIf_eq (p := 253) rfl rfl ⟨by omega, by omega⟩ (fun c2 => ?_) (fun c2 => ?_)
    · exfalso; omega
    · have c2 := c2
      refine sKb (p := 255) rfl rfl ?_
      refine sL (pc' := 256) (i := .iload_n 1) rfl rfl ?_
      refine sMu (p := 257) rfl rfl ?_
      rw [show ((16 * ((fn : Nat) : Int))) = ((16 * fn + 0 : Nat) : Int) from by omega]
      refine sL (pc' := 258) (i := .istore_n 3) (ls' := [some (.ref 179), some (.int (iI ((fn : Nat) : Int))), some (.int (iI ((nc : Nat) : Int))), some (.int (iI ((16 * fn + 0 : Nat) : Int))), none, none]) rfl rfl ?_
      refine sSh (T := (wKw S 185 (16 * fn) 0 (fun _ => false))) (congrArg sH (wKw_0 _ _ _ _).symm) ?_
      refine sIt (A := fun i => [some (.ref 179), some (.int (iI ((fn : Nat) : Int))), some (.int (iI ((nc : Nat) : Int))), some (.int (iI ((16 * fn + i : Nat) : Int))), none, none]) (B := fun i => (wKw S 185 (16 * fn) i (fun _ => false))) (fun _ => True) (16 * d) True.intro (fun i hi258 hI258 ih258 => ?_) (fun hI258 => ?_)
      · have hi258 := hi258
        refine sL (pc' := 259) (i := .iload_n 3) rfl rfl ?_
        refine sKb (p := 261) rfl rfl ?_
        refine sL (pc' := 262) (i := .aload_n 0) rfl rfl ?_
        refine sGi (p := 265) rfl rfl (sk_179 _) rfl rfl rfl hF.1 ?_
        refine sMu (p := 266) rfl rfl ?_
        refine sIc_ge (p := 269) rfl rfl ⟨by omega, by omega⟩ ⟨by omega, by omega⟩ (fun c3 => ?_) (fun c3 => ?_)
        · exfalso; omega
        · have c3 := c3
          refine sL (pc' := 270) (i := .aload_n 0) rfl rfl ?_
          refine sGc (p := 273) rfl rfl (sk_179 _) rfl rfl rfl ?_
          refine sL (pc' := 274) (i := .iload_n 3) rfl rfl ?_
          refine sKj0 (p := 275) rfl rfl rfl ?_
          refine sWl (p := 276) (i := 16 * fn + i) rfl rfl (sk_185 _) (by omega) ⟨by omega, by omega⟩ ?_
          refine sInX (z := ((16 * fn + i : Nat) : Int)) (ls' := [some (.ref 179), some (.int (iI ((fn : Nat) : Int))), some (.int (iI ((nc : Nat) : Int))), some (.int (iI (((16 * fn + i : Nat) : Int) + 1))), none, none]) (p := 279) rfl rfl (Nat.le_of_ble_eq_true rfl) rfl rfl ?_
          refine sL (i := .goto (-21)) rfl rfl ?_
          refine sRo (ls := [some (.ref 179), some (.int (iI ((fn : Nat) : Int))), some (.int (iI ((nc : Nat) : Int))), some (.int (iI ((16 * fn + (i + 1) : Nat) : Int))), none, none]) (T := (wKw S 185 (16 * fn) (i + 1) (fun _ => false))) (And.intro rfl (And.intro rfl (And.intro rfl (And.intro rfl (True.intro))))) (congrArg sH (wKw_s rfl (pkw_0 _).symm)) (ih258 ?_)
          exact True.intro
      · have hI258 := hI258
        refine sL (pc' := 259) (i := .iload_n 3) rfl rfl ?_
        refine sKb (p := 261) rfl rfl ?_
        refine sL (pc' := 262) (i := .aload_n 0) rfl rfl ?_
        refine sGi (p := 265) rfl rfl (sk_179 _) rfl rfl rfl hF.1 ?_
        refine sMu (p := 266) rfl rfl ?_
        refine sIc_ge (p := 269) rfl rfl ⟨by omega, by omega⟩ ⟨by omega, by omega⟩ (fun c4 => ?_) (fun c4 => ?_)
        · have c4 := c4
          refine sL (pc' := 283) (i := .aload_n 0) rfl rfl ?_
          refine sL (pc' := 284) (i := .iload_n 1) rfl rfl ?_
          refine sPi (z := ((fn : Nat) : Int)) (p := 287) rfl rfl (sk_179 _) rfl rfl rfl rfl ?_
          refine sL (pc' := 288) (i := .aload_n 0) rfl rfl ?_
          refine sL (pc' := 289) (i := .iload_n 2) rfl rfl ?_
          refine sPi (z := ((nc : Nat) : Int)) (p := 292) rfl rfl (sk_179 _) rfl rfl rfl rfl ?_
          refine sKs (p := 295) rfl rfl ?_
          refine sL (pc' := 296) (i := .aload_n 0) rfl rfl ?_
          refine sGi (p := 299) rfl rfl (sk_179 _) rfl rfl rfl ((rI_nj (by decide)).trans ((rI_nj (by decide)).trans hX.2.2.2.1)) ?_
          refine sSb (p := 300) rfl rfl ?_
          refine sEn (i := .ireturn) rfl (rfl) ?_
          refine hq _ ?_ ?_ ?_ ?_
          · refine frE_trans (frE_trans (S := S) (T := (wKw S 185 (16 * fn) (16 * d) (fun _ => false))) ?_ (frE_w (Or.inl rfl))) (frE_w (Or.inr (Or.inr (Or.inr (Or.inl rfl)))))
            exact ⟨rfl, rfl, fun _ _ _ _ _ => rfl, fun _ _ => rfl, fun c _ h1 _ _ _ => funext fun j => by rw [SL_wKw, if_neg (fun z => h1 z.1)], fun j _ => by rw [SL_wKw, if_neg (fun z => absurd z.1 (by decide))]⟩
          · exact (rI_nj (by decide)).trans ((rI_nj (by decide)).trans hX.2.1)
          · exact (rI_nj (by decide)).trans (rI_nj (by decide))
          · refine ⟨(rI_nj (by decide)).trans rI_at, by omega, fun i hi k hk => ?_, rI_at, by omega, fun i hi => ?_, fun i hi => ⟨?_, hro i hi⟩⟩
            · show SL (wKw S 185 (16 * fn) (16 * d) (fun _ => false)) 185 (16 * i + k) = _
              rw [SL_wKw, if_neg (by omega), ← hFn i hi]
              exact hF.2.2.1 i (by omega) k hk
            · show SL (wKw S 185 (16 * fn) (16 * d) (fun _ => false)) 189 i = _
              rw [SL_wKw, if_neg (by omega), ← (hrn i hi).1]
              exact hF.2.2.2.2.2.1 i (by omega)
            · refine (rI_ne (by decide) _).trans ((rI_ne (by decide) _).trans ?_)
              show SI S 190 i = _
              rw [← (hrn i hi).2]
              exact (hF.2.2.2.2.2.2 i (by omega)).1
        · exfalso; omega
  · exfalso; omega
theorem pDef_prg {N : Nat} (hi : i ≤ nT y s) (h : (pDef (tk y s) C n sz N Fn nm i).1 = 0) : i + 2 ≤ (pDef (tk y s) C n sz N Fn nm i).2.1 ∧ (pDef (tk y s) C n sz N Fn nm i).2.1 ≤ nT y s := by
  unfold pDef at h ⊢
  by_cases q1 : tk y s i = 258
  · rw [if_neg (fun z => z q1)] at h ⊢
    by_cases q2 : fnd nm (C i) N 0 = -1
    · rw [if_neg (fun z => z q2)] at h ⊢
      by_cases q3 : N = 40
      · rw [if_pos q3] at h
        cases h
      · rw [if_neg q3] at h ⊢
        by_cases q4 : tk y s (i + 1) = 58
        · rw [if_neg (fun z => z q4)] at h ⊢
          have l1 := nT_lt hi (by omega) (by omega)
          have l2 := nT_lt (y := y) (s := s) (j := i + 1) (by omega) (by omega) (by omega)
          have hp := prg_frm (K := tk y s) (T := pr sz n) hltT (prg_one (y := y) (s := s) (C := C) (n := n) (N := N) (sz := sz) (Fn := Fn) (nm := nm) 20) (i + 2) l2
          generalize frm (tk y s) (pr sz n) (one (tk y s) C n sz N Fn nm 20) (i + 2) = R at *
          unfold xpR at h ⊢
          by_cases q5 : R.1 = 0
          · rw [if_neg (fun z => z q5)] at h ⊢
            have hp := hp q5
            by_cases q6 : tk y s R.2.1 = 59
            · rw [if_pos q6]
              have l3 := nT_lt hp.2 (by omega) (by omega)
              exact ⟨show i + 2 ≤ R.2.1 + 1 by omega, l3⟩
            · rw [if_neg q6] at h
              exact absurd h (rf_nz (K := tk y s) (q := 2) (a := R.2.1) (by decide))
          · rw [if_pos q5] at h
            exact absurd h q5
        · rw [if_pos q4] at h
          exact absurd h (rf_nz (K := tk y s) (q := 2) (a := i + 1) (by decide))
    · rw [if_pos q2] at h
      cases h
  · rw [if_pos q1] at h
    exact absurd h (rf_nz (K := tk y s) (q := 2) (a := i) (by decide))
theorem tx_e1 {t : Nat} (c : (pDef (tk y s) C n sz (fn + (tx (tk y s) C n sz fn Fn nm t).2.2.1) (tx (tk y s) C n sz fn Fn nm t).2.2.2.1 (tx (tk y s) C n sz fn Fn nm t).2.2.2.2 (tx (tk y s) C n sz fn Fn nm t).2.1).1 = 0) : (tx (tk y s) C n sz fn Fn nm (t + 1)) = (0, (pDef (tk y s) C n sz (fn + (tx (tk y s) C n sz fn Fn nm t).2.2.1) (tx (tk y s) C n sz fn Fn nm t).2.2.2.1 (tx (tk y s) C n sz fn Fn nm t).2.2.2.2 (tx (tk y s) C n sz fn Fn nm t).2.1).2.1, (tx (tk y s) C n sz fn Fn nm t).2.2.1 + 1, lup (tx (tk y s) C n sz fn Fn nm t).2.2.2.1 (fn + (tx (tk y s) C n sz fn Fn nm t).2.2.1) (pDef (tk y s) C n sz (fn + (tx (tk y s) C n sz fn Fn nm t).2.2.1) (tx (tk y s) C n sz fn Fn nm t).2.2.2.1 (tx (tk y s) C n sz fn Fn nm t).2.2.2.2 (tx (tk y s) C n sz fn Fn nm t).2.1).2.2, nup (tx (tk y s) C n sz fn Fn nm t).2.2.2.2 (fn + (tx (tk y s) C n sz fn Fn nm t).2.2.1) (C (tx (tk y s) C n sz fn Fn nm t).2.1)) := by
  show (if _ then _ else _) = _
  rw [if_pos c]
theorem tx_e2 {t : Nat} (c : (pDef (tk y s) C n sz (fn + (tx (tk y s) C n sz fn Fn nm t).2.2.1) (tx (tk y s) C n sz fn Fn nm t).2.2.2.1 (tx (tk y s) C n sz fn Fn nm t).2.2.2.2 (tx (tk y s) C n sz fn Fn nm t).2.1).1 ≠ 0) : (tx (tk y s) C n sz fn Fn nm (t + 1)) = ((pDef (tk y s) C n sz (fn + (tx (tk y s) C n sz fn Fn nm t).2.2.1) (tx (tk y s) C n sz fn Fn nm t).2.2.2.1 (tx (tk y s) C n sz fn Fn nm t).2.2.2.2 (tx (tk y s) C n sz fn Fn nm t).2.1).1, (pDef (tk y s) C n sz (fn + (tx (tk y s) C n sz fn Fn nm t).2.2.1) (tx (tk y s) C n sz fn Fn nm t).2.2.2.1 (tx (tk y s) C n sz fn Fn nm t).2.2.2.2 (tx (tk y s) C n sz fn Fn nm t).2.1).2.1, (tx (tk y s) C n sz fn Fn nm t).2.2.1, (tx (tk y s) C n sz fn Fn nm t).2.2.2.1, (tx (tk y s) C n sz fn Fn nm t).2.2.2.2) := by
  show (if _ then _ else _) = _
  rw [if_neg c]
theorem tx_pos : ∀ t, (∀ u, u < t → (tx (tk y s) C n sz fn Fn nm u).1 = 0) → (tx (tk y s) C n sz fn Fn nm t).1 = 0 → (tx (tk y s) C n sz fn Fn nm t).2.1 ≤ nT y s ∧ 2 * t ≤ (tx (tk y s) C n sz fn Fn nm t).2.1
  | 0, _, _ => ⟨Nat.zero_le _, Nat.zero_le _⟩
  | t + 1, hu, h => by
    have ih := tx_pos t (fun u q => hu u (Nat.lt_succ_of_lt q)) (hu t (Nat.lt_succ_self _))
    by_cases c : (pDef (tk y s) C n sz (fn + (tx (tk y s) C n sz fn Fn nm t).2.2.1) (tx (tk y s) C n sz fn Fn nm t).2.2.2.1 (tx (tk y s) C n sz fn Fn nm t).2.2.2.2 (tx (tk y s) C n sz fn Fn nm t).2.1).1 = 0
    · have hp := pDef_prg ih.1 c
      rw [tx_e1 c]
      exact ⟨hp.2, show 2 * (t + 1) ≤ (pDef (tk y s) C n sz (fn + (tx (tk y s) C n sz fn Fn nm t).2.2.1) (tx (tk y s) C n sz fn Fn nm t).2.2.2.1 (tx (tk y s) C n sz fn Fn nm t).2.2.2.2 (tx (tk y s) C n sz fn Fn nm t).2.1).2.1 by omega⟩
    · rw [tx_e2 c] at h
      exact absurd h c
theorem nTx_lt (hs : s ≤ 400) : (nTx (tk y s) C n sz fn Fn nm) < 400 := by
  have h1 := nTx_ok (tk y s) C n sz fn Fn nm
  have hnT := (nT_ok y s).1
  refine Classical.byContradiction fun c => ?_
  have h2 := tx_pos (y := y) (s := s) (C := C) (n := n) (sz := sz) (fn := fn) (Fn := Fn) (nm := nm) 399 (fun u q => (h1.2.1 u (by omega)).1) (h1.2.1 399 (by omega)).1
  omega
/-- one definition -/
theorem rd_step {d : Nat} {F' : Nat → Nat → Bool} {nm' rn' : Nat → Int64} {rof' : Nat → Nat} (hag : agC C y s) (hv : vM S n sz) (hi : i ≤ nT y s) (hN : mN S y s i) (hKe : tk y s i ≠ 264) (hF : mFn S (fn + d) F' (nc + d) rn' rof') (hnm : nmJ nm' (fn + d) rn' rof' (nc + d)) (hnc : nc ≤ fn) (htb : ∀ f, f < fn + d → tbT (pr sz n) (F' f)) (R : Nat × Nat × (Nat → Bool)) (hR : R = pDef (tk y s) C n sz (fn + d) F' nm' i)
  (hdead : ∀ S', R.1 ≠ 0 → frE S S' → SI S' 179 13 = SI S 179 13 → mX S' y s R.1 (tA y s R.2.1) → mFn S' (fn + d) F' (nc + d) rn' rof' → sT X 6 210 37 [some (.ref 179), some (.int (iI ((fn : Nat) : Int))), some (.int (iI ((nc : Nat) : Int))), none, none, none] [] S' (sE X 210 QQ))
  (hgo : ∀ S', R.1 = 0 → frE S S' → SI S' 179 13 = SI S 179 13 → mN S' y s R.2.1 → mFn S' (fn + d + 1) (lup F' (fn + d) R.2.2) (nc + d + 1) (nup rn' (nc + d) (C i)) (fup rof' (nc + d) (fn + d)) → fnd nm' (C i) (fn + d) 0 = -1 → sT X 6 210 37 [some (.ref 179), some (.int (iI ((fn : Nat) : Int))), some (.int (iI ((nc : Nat) : Int))), none, none, none] [] S' (sE X 210 QQ)) :
  sT X 6 210 37 [some (.ref 179), some (.int (iI ((fn : Nat) : Int))), some (.int (iI ((nc : Nat) : Int))), none, none, none] [] S (sE X 210 QQ) := by
  have h40 := hF.2.1
  have h40c := hF.2.2.2.2.1
  have hs := mN_s hN
  have hr0 := rc_b (k := tk y s i) (tK_lt _)
  have hr1 := rc_b (k := tk y s (i + 1)) (tK_lt _)
  by_cases c5 : tk y s i = 265
  · have hX := mN_dead hN c5
    have e : R = (1, i, fun _ => false) := by
      rw [hR]
      unfold pDef
      rw [if_pos (by omega), show rf (tk y s) 2 i = 1 from if_pos ⟨rfl, c5⟩]
    rw [e] at hdead
    exact hdead S (Nat.succ_ne_zero _) (frE_refl S) rfl hX hF
  · have hA := mN_alive hN c5
    have hks := tk_sm (y := y) (s := s) (i := i)
    have hne0 : rc (tk y s i) ≠ 0 := by
      have h9 : tk y s i ≤ 265 := tK_lt _
      unfold rc
      repeat' split
      all_goals omega
    unfold pDef at hR
    by_cases q1 : tk y s i = 258
    · rw [if_neg (fun z => z q1)] at hR
      have e1 : rc (tk y s i) = 1 := by rw [q1]; rfl
      have hx : SL S 179 26 = C i := by
        rw [hag i hi (Or.inl q1)]
        exact hA.2.2.2.2.2.2.1 q1
      have hnz : C i ≠ 0 := by
        rw [hag i hi (Or.inl q1)]
        exact tC_nz q1
      have hj := hnm (C i) hnz
      have hlt := nT_lt hi (by omega) (by omega)
      by_cases q2 : fnd nm' (C i) (fn + d) 0 = -1
      · rw [if_neg (fun z => z q2)] at hR
        have hf : fnd rn' (C i) (nc + d) 0 = -1 := Classical.byContradiction fun z => by
          have := hj.2 z
          omega
        by_cases q3 : fn + d = 40
        · rw [if_pos q3] at hR
          obtain ⟨L0, hL0⟩ : ∃ L0, SL (bdS S 0 5 ((tA y s i : Nat) : Int)) 179 26 = L0 := ⟨_, rfl⟩
          refine sL (pc' := 38) (i := .aload_n 0) rfl rfl ?_
          refine sGi (p := 41) rfl rfl (sk_179 _) rfl rfl rfl hA.2.1 ?_
          refine sIf_ne (p := 44) rfl rfl ⟨by omega, by omega⟩ (fun c1 => ?_) (fun c1 => ?_)
          · exact absurd c1 (by decide)
          · have c1 := c1
            refine sL (pc' := 45) (i := .aload_n 0) rfl rfl ?_
            refine sGi (p := 48) rfl rfl (sk_179 _) rfl rfl rfl hA.2.2.2.1 ?_
            refine sIf_eq (p := 51) rfl rfl ⟨by omega, by omega⟩ (fun c2 => ?_) (fun c2 => ?_)
            · exfalso; omega
            · have c2 := c2
              refine sL (pc' := 52) (i := .aload_n 0) rfl rfl ?_
              refine sGi (p := 55) rfl rfl (sk_179 _) rfl rfl rfl hA.2.2.2.1 ?_
              refine sKi (p := 56) rfl rfl ?_
              refine sIc_eq (p := 59) rfl rfl ⟨by omega, by omega⟩ ⟨by omega, by omega⟩ (fun c3 => ?_) (fun c3 => ?_)
              · have c3 := c3
                refine sL (pc' := 72) (i := .aload_n 0) rfl rfl ?_
                refine sL (pc' := 73) (i := .aload_n 0) rfl rfl ?_
                refine sGl (p := 76) rfl rfl (sk_179 _) rfl rfl rfl hx ?_
                refine sCv (p := 79) (as := [_]) rfl rfl rfl rfl (by decide) (Nat.le_of_ble_eq_true rfl) rfl (Nat.le_of_ble_eq_true rfl) (sk_179 _) rfl (by omega) (m_findName (x := C i) hF.2.2.2.1 h40c hF.2.2.2.2.2.1) ?_
                rw [hf]
                refine sKi (p := 80) rfl rfl ?_
                refine sIc_eq (p := 83) rfl rfl ⟨by omega, by omega⟩ ⟨by omega, by omega⟩ (fun c4 => ?_) (fun c4 => ?_)
                · have c4 := c4
                  refine sL (pc' := 96) (i := .aload_n 0) rfl rfl ?_
                  refine sGi (p := 99) rfl rfl (sk_179 _) rfl rfl rfl hF.1 ?_
                  refine sKb (p := 101) rfl rfl ?_
                  refine sIc_ne (p := 104) rfl rfl ⟨by omega, by omega⟩ ⟨by omega, by omega⟩ (fun c5 => ?_) (fun c5 => ?_)
                  · exfalso; omega
                  · have c5 := c5
                    refine sL (pc' := 105) (i := .aload_n 0) rfl rfl ?_
                    refine sKi (p := 106) rfl rfl ?_
                    refine sL (pc' := 107) (i := .aload_n 0) rfl rfl ?_
                    refine sGi (p := 110) rfl rfl (sk_179 _) rfl rfl rfl hA.2.2.2.2.1 ?_
                    refine sCv (p := 113) (as := [_, _]) rfl rfl rfl rfl (by decide) (Nat.le_of_ble_eq_true rfl) rfl (Nat.le_of_ble_eq_true rfl) (sk_179 _) rfl (by omega) (m_bad (kz := 0) hA.2.1 ⟨by decide, by decide⟩) ?_
                    refine sL (pc' := 114) (i := .aload_n 0) rfl rfl ?_
                    refine sGl (p := 117) rfl rfl (sk_179 _) rfl rfl rfl hL0 ?_
                    refine sL (pc' := 118) (i := .lstore_n 3) (ls' := [some (.ref 179), some (.int (iI ((fn : Nat) : Int))), some (.int (iI ((nc : Nat) : Int))), some (.long L0), none, none]) rfl rfl ?_
                    refine sL (pc' := 119) (i := .aload_n 0) rfl rfl ?_
                    refine sGi (p := 122) rfl rfl (sk_179 _) rfl rfl rfl ((bd_14 hA.2.1).trans (if_pos rfl)) ?_
                    refine sIf_ne (p := 125) rfl rfl ⟨by omega, by omega⟩ (fun c6 => ?_) (fun c6 => ?_)
                    · have c6 := c6
                      refine sL (pc' := 130) (i := .aload_n 0) rfl rfl ?_
                      refine sGi (p := 133) rfl rfl (sk_179 _) rfl rfl rfl ((bd_14 hA.2.1).trans (if_pos rfl)) ?_
                      refine sIf_ne (p := 136) rfl rfl ⟨by omega, by omega⟩ (fun c7 => ?_) (fun c7 => ?_)
                      · have c7 := c7
                        refine sL (pc' := 155) (i := .aload_n 0) rfl rfl ?_
                        refine sGi (p := 158) rfl rfl (sk_179 _) rfl rfl rfl ((bd_14 hA.2.1).trans (if_pos rfl)) ?_
                        refine sIf_ne (p := 161) rfl rfl ⟨by omega, by omega⟩ (fun c8 => ?_) (fun c8 => ?_)
                        · have c8 := c8
                          refine sL (pc' := 170) (i := .aload_n 0) rfl rfl ?_
                          refine sGi (p := 173) rfl rfl (sk_179 _) rfl rfl rfl ((bd_14 hA.2.1).trans (if_pos rfl)) ?_
                          refine sIf_ne (p := 176) rfl rfl ⟨by omega, by omega⟩ (fun c9 => ?_) (fun c9 => ?_)
                          · have c9 := c9
                            refine sL (i := .goto (-206)) rfl rfl ?_
                            rw [hR] at hdead
                            have hbd := mX_bd (k := 5) (q := tA y s i) hA.1 hA.2.1 ⟨by decide, by decide⟩ rfl (tP_le (i + 1)) hA.2.2.1
                            refine sFg (ls := [some (.ref 179), some (.int (iI ((fn : Nat) : Int))), some (.int (iI ((nc : Nat) : Int))), none, none, none]) (xx_ll_le (And.intro rfl (And.intro rfl (And.intro rfl (True.intro))))) (hdead _ (Nat.succ_ne_zero _) (frE_K (frK_J hbd.2)) (bdS_f (by decide)) hbd.1 (mFn_K hF (frK_J hbd.2)))
                          · exact absurd c9 (by decide)
                        · exact absurd c8 (by decide)
                      · exact absurd c7 (by decide)
                    · exact absurd c6 (by decide)
                · exact absurd c4 (by decide)
              · exfalso; omega
        · rw [if_neg q3] at hR
          by_cases q4 : tk y s (i + 1) = 58
          · rw [if_neg (fun z => z q4)] at hR
            have e2 : rc (tk y s (i + 1)) = 58 := by rw [q4]; rfl
            have hlt2 := nT_lt (y := y) (s := s) (j := i + 1) (by omega) (by omega) (by omega)
            obtain ⟨R0, hR0⟩ : ∃ R0, R0 = frm (tk y s) (pr sz n) (one (tk y s) C n sz (fn + d) F' nm' 20) (i + 2) := ⟨_, rfl⟩
            rw [← hR0] at hR
            have hxp : R0.1 = 0 → tk y s R0.2.1 = 59 → R = (0, R0.2.1 + 1, R0.2.2) := by
              intro z1 z2
              rw [hR]
              unfold xpR
              rw [if_neg (fun z => z z1), if_pos z2]
            refine sL (pc' := 38) (i := .aload_n 0) rfl rfl ?_
            refine sGi (p := 41) rfl rfl (sk_179 _) rfl rfl rfl hA.2.1 ?_
            refine sIf_ne (p := 44) rfl rfl ⟨by omega, by omega⟩ (fun c1 => ?_) (fun c1 => ?_)
            · exact absurd c1 (by decide)
            · have c1 := c1
              refine sL (pc' := 45) (i := .aload_n 0) rfl rfl ?_
              refine sGi (p := 48) rfl rfl (sk_179 _) rfl rfl rfl hA.2.2.2.1 ?_
              refine sIf_eq (p := 51) rfl rfl ⟨by omega, by omega⟩ (fun c2 => ?_) (fun c2 => ?_)
              · exfalso; omega
              · have c2 := c2
                refine sL (pc' := 52) (i := .aload_n 0) rfl rfl ?_
                refine sGi (p := 55) rfl rfl (sk_179 _) rfl rfl rfl hA.2.2.2.1 ?_
                refine sKi (p := 56) rfl rfl ?_
                refine sIc_eq (p := 59) rfl rfl ⟨by omega, by omega⟩ ⟨by omega, by omega⟩ (fun c3 => ?_) (fun c3 => ?_)
                · have c3 := c3
                  refine sL (pc' := 72) (i := .aload_n 0) rfl rfl ?_
                  refine sL (pc' := 73) (i := .aload_n 0) rfl rfl ?_
                  refine sGl (p := 76) rfl rfl (sk_179 _) rfl rfl rfl hx ?_
                  refine sCv (p := 79) (as := [_]) rfl rfl rfl rfl (by decide) (Nat.le_of_ble_eq_true rfl) rfl (Nat.le_of_ble_eq_true rfl) (sk_179 _) rfl (by omega) (m_findName (x := C i) hF.2.2.2.1 h40c hF.2.2.2.2.2.1) ?_
                  rw [hf]
                  refine sKi (p := 80) rfl rfl ?_
                  refine sIc_eq (p := 83) rfl rfl ⟨by omega, by omega⟩ ⟨by omega, by omega⟩ (fun c4 => ?_) (fun c4 => ?_)
                  · have c4 := c4
                    refine sL (pc' := 96) (i := .aload_n 0) rfl rfl ?_
                    refine sGi (p := 99) rfl rfl (sk_179 _) rfl rfl rfl hF.1 ?_
                    refine sKb (p := 101) rfl rfl ?_
                    refine sIc_ne (p := 104) rfl rfl ⟨by omega, by omega⟩ ⟨by omega, by omega⟩ (fun c5 => ?_) (fun c5 => ?_)
                    · have c5 := c5
                      refine sL (pc' := 114) (i := .aload_n 0) rfl rfl ?_
                      refine sGl (p := 117) rfl rfl (sk_179 _) rfl rfl rfl hx ?_
                      refine sL (pc' := 118) (i := .lstore_n 3) (ls' := [some (.ref 179), some (.int (iI ((fn : Nat) : Int))), some (.int (iI ((nc : Nat) : Int))), some (.long (C i)), none, none]) rfl rfl ?_
                      refine sL (pc' := 119) (i := .aload_n 0) rfl rfl ?_
                      refine sGi (p := 122) rfl rfl (sk_179 _) rfl rfl rfl hA.2.1 ?_
                      refine sIf_ne (p := 125) rfl rfl ⟨by omega, by omega⟩ (fun c6 => ?_) (fun c6 => ?_)
                      · exact absurd c6 (by decide)
                      · have c6 := c6
                        refine sL (pc' := 126) (i := .aload_n 0) rfl rfl ?_
                        refine sCvQ (p := 129) (as := []) rfl rfl rfl rfl (by decide) (Nat.le_of_ble_eq_true rfl) rfl (Nat.le_of_ble_eq_true rfl) (sk_179 _) rfl (by omega) (m_nextA hA) ?_
                        rintro _ S1 ⟨rfl, hf1, hN1⟩
                        have hF1 := mFn_K hF (frK_J hf1)
                        have hv1 := vM_fr hv hf1
                        have hA1 := mN_alive hN1 (by omega)
                        refine sL (pc' := 130) (i := .aload_n 0) rfl rfl ?_
                        refine sGi (p := 133) rfl rfl (sk_179 _) rfl rfl rfl hA1.2.1 ?_
                        refine sIf_ne (p := 136) rfl rfl ⟨by omega, by omega⟩ (fun c7 => ?_) (fun c7 => ?_)
                        · exact absurd c7 (by decide)
                        · have c7 := c7
                          refine sL (pc' := 137) (i := .aload_n 0) rfl rfl ?_
                          refine sGi (p := 140) rfl rfl (sk_179 _) rfl rfl rfl hA1.2.2.2.1 ?_
                          refine sKb (p := 142) rfl rfl ?_
                          refine sIc_eq (p := 145) rfl rfl ⟨by omega, by omega⟩ ⟨by omega, by omega⟩ (fun c8 => ?_) (fun c8 => ?_)
                          · have c8 := c8
                            refine sL (pc' := 155) (i := .aload_n 0) rfl rfl ?_
                            refine sGi (p := 158) rfl rfl (sk_179 _) rfl rfl rfl hA1.2.1 ?_
                            refine sIf_ne (p := 161) rfl rfl ⟨by omega, by omega⟩ (fun c9 => ?_) (fun c9 => ?_)
                            · exact absurd c9 (by decide)
                            · have c9 := c9
                              refine sL (pc' := 162) (i := .aload_n 0) rfl rfl ?_
                              refine sCvQ (p := 165) (as := []) rfl rfl rfl rfl (by decide) (Nat.le_of_ble_eq_true rfl) rfl (Nat.le_of_ble_eq_true rfl) (sk_179 _) rfl (by omega) (m_nextA hA1) ?_
                              rintro _ S2 ⟨rfl, hf2, hN2⟩
                              have hF2 := mFn_K hF1 (frK_J hf2)
                              have hv2 := vM_fr hv1 hf2
                              refine sL (pc' := 166) (i := .aload_n 0) rfl rfl ?_
                              refine sCvQ (p := 169) (as := []) rfl rfl rfl rfl (by decide) (Nat.le_of_ble_eq_true rfl) rfl (Nat.le_of_ble_eq_true rfl) (sk_179 _) rfl (by omega) (m_formula hv2 hag hF2 hnm htb hlt2 hN2 R0 hR0) ?_
                              rintro _ S3 ⟨rfl, hf3, hd3⟩
                              have hF3 := mFn_K hF2 hf3
                              have h173 := hF3.2.2.2.1
                              have h93 := hF3.1
                              have hf03 : frK S S3 := frK_trans (frK_J (frJ_trans hf1 hf2)) hf3
                              rcases hd3 with ⟨r1, r2, hA3, hm3⟩ | ⟨r1, hX3⟩
                              · have hrow : rowS S3 192 0 R0.2.2 := hm3.2.2.1.1
                                refine sL (pc' := 170) (i := .aload_n 0) rfl rfl ?_
                                refine sGi (p := 173) rfl rfl (sk_179 _) rfl rfl rfl hA3.2.1 ?_
                                refine sIf_ne (p := 176) rfl rfl ⟨by omega, by omega⟩ (fun c1 => ?_) (fun c1 => ?_)
                                · exact absurd c1 (by decide)
                                · have c1 := c1
                                  refine sKi (p := 177) rfl rfl ?_
                                  refine sL (pc' := 179) (i := .istore 5) (ls' := [some (.ref 179), some (.int (iI ((fn : Nat) : Int))), some (.int (iI ((nc : Nat) : Int))), some (.long (C i)), none, some (.int (iI 0))]) rfl rfl ?_
                                  refine sSh (T := (wKw S3 186 0 0 R0.2.2)) (congrArg sH (wKw_0 _ _ _ _).symm) ?_
                                  refine sIt (A := fun i_ => [some (.ref 179), some (.int (iI ((fn : Nat) : Int))), some (.int (iI ((nc : Nat) : Int))), some (.long (C i)), none, some (.int (iI ((i_ : Nat) : Int)))]) (B := fun i_ => (wKw S3 186 0 i_ R0.2.2)) (fun _ => True) 16 True.intro (fun i_ hi179 hI179 ih179 => ?_) (fun hI179 => ?_)
                                  · have hi179 := hi179
                                    refine sL (pc' := 181) (i := .iload 5) rfl rfl ?_
                                    refine sKb (p := 183) rfl rfl ?_
                                    refine sIc_ge (p := 186) rfl rfl ⟨by omega, by omega⟩ ⟨by omega, by omega⟩ (fun c2 => ?_) (fun c2 => ?_)
                                    · exfalso; omega
                                    · have c2 := c2
                                      refine sL (pc' := 187) (i := .aload_n 0) rfl rfl ?_
                                      refine sGc (p := 190) rfl rfl (sk_179 _) rfl rfl rfl ?_
                                      refine sL (pc' := 192) (i := .iload 5) rfl rfl ?_
                                      refine sL (pc' := 193) (i := .aload_n 0) rfl rfl ?_
                                      refine sGc (p := 196) rfl rfl (sk_179 _) rfl rfl rfl ?_
                                      refine sL (pc' := 198) (i := .iload 5) rfl rfl ?_
                                      refine sAl (p := 199) (i := i_) rfl rfl (sk_192 _) (by omega) ⟨by omega, by omega⟩ (wKw_o (by decide) hrow hi179) ?_
                                      refine sWl (p := 200) (i := i_) rfl rfl (sk_186 _) (by omega) ⟨by omega, by omega⟩ ?_
                                      refine sInX (z := ((i_ : Nat) : Int)) (ls' := [some (.ref 179), some (.int (iI ((fn : Nat) : Int))), some (.int (iI ((nc : Nat) : Int))), some (.long (C i)), none, some (.int (iI (((i_ : Nat) : Int) + 1)))]) (p := 203) rfl rfl (Nat.le_of_ble_eq_true rfl) rfl rfl ?_
                                      refine sL (i := .goto (-24)) rfl rfl ?_
                                      refine sRo (ls := [some (.ref 179), some (.int (iI ((fn : Nat) : Int))), some (.int (iI ((nc : Nat) : Int))), some (.long (C i)), none, some (.int (iI ((i_ + 1 : Nat) : Int)))]) (T := (wKw S3 186 0 (i_ + 1) R0.2.2)) (And.intro rfl (And.intro rfl (And.intro rfl (And.intro rfl (And.intro rfl (True.intro)))))) (congrArg sH (wKw_s (by omega) rfl)) (ih179 ?_)
                                      exact True.intro
                                  · have hI179 := hI179
                                    refine sL (pc' := 181) (i := .iload 5) rfl rfl ?_
                                    refine sKb (p := 183) rfl rfl ?_
                                    refine sIc_ge (p := 186) rfl rfl ⟨by omega, by omega⟩ ⟨by omega, by omega⟩ (fun c3 => ?_) (fun c3 => ?_)
                                    · have c3 := c3
                                      refine sL (pc' := 207) (i := .aload_n 0) rfl rfl ?_
                                      refine sGc (p := 210) rfl rfl (sk_179 _) rfl rfl rfl ?_
                                      refine sL (pc' := 211) (i := .aload_n 0) rfl rfl ?_
                                      refine sGi (p := 214) rfl rfl (sk_179 _) rfl rfl rfl h173 ?_
                                      refine sL (pc' := 215) (i := .lload_n 3) rfl rfl ?_
                                      refine sWl (p := 216) (i := nc + d) rfl rfl (sk_189 _) (by omega) ⟨by omega, by omega⟩ ?_
                                      refine sL (pc' := 217) (i := .aload_n 0) rfl rfl ?_
                                      refine sGc (p := 220) rfl rfl (sk_179 _) rfl rfl rfl ?_
                                      refine sL (pc' := 221) (i := .aload_n 0) rfl rfl ?_
                                      refine sGi (p := 224) rfl rfl (sk_179 _) rfl rfl rfl h173 ?_
                                      refine sL (pc' := 225) (i := .aload_n 0) rfl rfl ?_
                                      refine sCv (p := 228) (as := []) rfl rfl rfl rfl (by decide) (Nat.le_of_ble_eq_true rfl) rfl (Nat.le_of_ble_eq_true rfl) (sk_179 _) rfl (by omega) (m_keep (fn := fn + d) (g := R0.2.2) h93 (by omega) (fun k hk => by rw [SL_wL, if_neg (by omega)]; exact rowS_wRw S3 186 0 R0.2.2 k hk)) ?_
                                      refine sWi (p := 229) (i := nc + d) rfl rfl (sk_190 _) (by omega) ⟨by omega, by omega⟩ ?_
                                      refine sL (pc' := 230) (i := .aload_n 0) rfl rfl ?_
                                      refine sL (pc' := 231) (i := .dup) rfl rfl ?_
                                      refine sGi (p := 234) rfl rfl (sk_179 _) rfl rfl rfl ((rI_ne (by decide) _).trans ((rI_nj (by decide)).trans h173)) ?_
                                      refine sKi (p := 235) rfl rfl ?_
                                      refine sAd (p := 236) rfl rfl ?_
                                      rw [show ((((nc + d : Nat) : Int) + 1)) = ((nc + d + 1 : Nat) : Int) from by omega]
                                      refine sPi (z := ((nc + d + 1 : Nat) : Int)) (p := 239) rfl rfl (sk_179 _) rfl rfl rfl rfl ?_
                                      refine sL (pc' := 240) (i := .aload_n 0) rfl rfl ?_
                                      refine sCvQ (p := 243) (as := []) rfl rfl rfl rfl (by decide) (Nat.le_of_ble_eq_true rfl) rfl (Nat.le_of_ble_eq_true rfl) (sk_179 _) rfl (by omega) (m_nextA (mA_add (f := fn + d) (c := nc + d) (v := R0.2.2) (x := C i) hA3)) ?_
                                      rintro _ S5 ⟨rfl, hf5, hN5⟩
                                      have hF5 := mFn_K (mFn_add (v := R0.2.2) (x := C i) hF3 (by omega) (by omega)) (frK_J hf5)
                                      refine sL (i := .goto (-206)) rfl rfl ?_
                                      rw [hxp r1 r2] at hgo
                                      refine sFg (ls := [some (.ref 179), some (.int (iI ((fn : Nat) : Int))), some (.int (iI ((nc : Nat) : Int))), none, none, none]) (xx_ll_le (And.intro rfl (And.intro rfl (And.intro rfl (True.intro))))) (hgo S5 rfl (frE_trans (frE_K hf03) (frE_trans frE_add (frE_K (frK_J hf5)))) (((frK_J hf5).2.2.2.1 13 (by decide)).trans ((mAddN_i (by decide) (by decide)).trans (hf03.2.2.2.1 13 (by decide)))) hN5 hF5 q2)
                                    · exact absurd c3 (by decide)
                              · have hk3 := hX3.2.2.1
                                refine sL (pc' := 170) (i := .aload_n 0) rfl rfl ?_
                                refine sGi (p := 173) rfl rfl (sk_179 _) rfl rfl rfl hX3.2.1 ?_
                                refine sIf_ne (p := 176) rfl rfl ⟨by omega, by omega⟩ (fun c1 => ?_) (fun c1 => ?_)
                                · have c1 := c1
                                  refine sL (i := .goto (-206)) rfl rfl ?_
                                  rw [hR] at hdead
                                  refine sFg (ls := [some (.ref 179), some (.int (iI ((fn : Nat) : Int))), some (.int (iI ((nc : Nat) : Int))), none, none, none]) (xx_ll_le (And.intro rfl (And.intro rfl (And.intro rfl (True.intro))))) (hdead S3 r1 (frE_K hf03) (hf03.2.2.2.1 13 (by decide)) hX3 hF3)
                                · exfalso; omega
                          · exfalso; omega
                    · exfalso; omega
                  · exact absurd c4 (by decide)
                · exfalso; omega
          · rw [if_pos q4] at hR
            have e2 : rc (tk y s (i + 1)) ≠ 58 := fun z => q4 (by
              have h9 := tk_20 (y := y) (s := s) (i + 1)
              unfold rc at z
              revert z
              repeat' split
              all_goals omega)
            by_cases q6 : tk y s (i + 1) = 265
            · rw [show rf (tk y s) 2 (i + 1) = 1 from if_pos ⟨rfl, q6⟩] at hR
              refine sL (pc' := 38) (i := .aload_n 0) rfl rfl ?_
              refine sGi (p := 41) rfl rfl (sk_179 _) rfl rfl rfl hA.2.1 ?_
              refine sIf_ne (p := 44) rfl rfl ⟨by omega, by omega⟩ (fun c1 => ?_) (fun c1 => ?_)
              · exact absurd c1 (by decide)
              · have c1 := c1
                refine sL (pc' := 45) (i := .aload_n 0) rfl rfl ?_
                refine sGi (p := 48) rfl rfl (sk_179 _) rfl rfl rfl hA.2.2.2.1 ?_
                refine sIf_eq (p := 51) rfl rfl ⟨by omega, by omega⟩ (fun c2 => ?_) (fun c2 => ?_)
                · exfalso; omega
                · have c2 := c2
                  refine sL (pc' := 52) (i := .aload_n 0) rfl rfl ?_
                  refine sGi (p := 55) rfl rfl (sk_179 _) rfl rfl rfl hA.2.2.2.1 ?_
                  refine sKi (p := 56) rfl rfl ?_
                  refine sIc_eq (p := 59) rfl rfl ⟨by omega, by omega⟩ ⟨by omega, by omega⟩ (fun c3 => ?_) (fun c3 => ?_)
                  · have c3 := c3
                    refine sL (pc' := 72) (i := .aload_n 0) rfl rfl ?_
                    refine sL (pc' := 73) (i := .aload_n 0) rfl rfl ?_
                    refine sGl (p := 76) rfl rfl (sk_179 _) rfl rfl rfl hx ?_
                    refine sCv (p := 79) (as := [_]) rfl rfl rfl rfl (by decide) (Nat.le_of_ble_eq_true rfl) rfl (Nat.le_of_ble_eq_true rfl) (sk_179 _) rfl (by omega) (m_findName (x := C i) hF.2.2.2.1 h40c hF.2.2.2.2.2.1) ?_
                    rw [hf]
                    refine sKi (p := 80) rfl rfl ?_
                    refine sIc_eq (p := 83) rfl rfl ⟨by omega, by omega⟩ ⟨by omega, by omega⟩ (fun c4 => ?_) (fun c4 => ?_)
                    · have c4 := c4
                      refine sL (pc' := 96) (i := .aload_n 0) rfl rfl ?_
                      refine sGi (p := 99) rfl rfl (sk_179 _) rfl rfl rfl hF.1 ?_
                      refine sKb (p := 101) rfl rfl ?_
                      refine sIc_ne (p := 104) rfl rfl ⟨by omega, by omega⟩ ⟨by omega, by omega⟩ (fun c5 => ?_) (fun c5 => ?_)
                      · have c5 := c5
                        refine sL (pc' := 114) (i := .aload_n 0) rfl rfl ?_
                        refine sGl (p := 117) rfl rfl (sk_179 _) rfl rfl rfl hx ?_
                        refine sL (pc' := 118) (i := .lstore_n 3) (ls' := [some (.ref 179), some (.int (iI ((fn : Nat) : Int))), some (.int (iI ((nc : Nat) : Int))), some (.long (C i)), none, none]) rfl rfl ?_
                        refine sL (pc' := 119) (i := .aload_n 0) rfl rfl ?_
                        refine sGi (p := 122) rfl rfl (sk_179 _) rfl rfl rfl hA.2.1 ?_
                        refine sIf_ne (p := 125) rfl rfl ⟨by omega, by omega⟩ (fun c6 => ?_) (fun c6 => ?_)
                        · exact absurd c6 (by decide)
                        · have c6 := c6
                          refine sL (pc' := 126) (i := .aload_n 0) rfl rfl ?_
                          refine sCvQ (p := 129) (as := []) rfl rfl rfl rfl (by decide) (Nat.le_of_ble_eq_true rfl) rfl (Nat.le_of_ble_eq_true rfl) (sk_179 _) rfl (by omega) (m_nextA hA) ?_
                          rintro _ S1 ⟨rfl, hf1, hN1⟩
                          have hF1 := mFn_K hF (frK_J hf1)
                          have hv1 := vM_fr hv hf1
                          have hX1 := mN_dead hN1 q6
                          refine sL (pc' := 130) (i := .aload_n 0) rfl rfl ?_
                          refine sGi (p := 133) rfl rfl (sk_179 _) rfl rfl rfl hX1.2.1 ?_
                          refine sIf_ne (p := 136) rfl rfl ⟨by omega, by omega⟩ (fun c7 => ?_) (fun c7 => ?_)
                          · have c7 := c7
                            refine sL (pc' := 155) (i := .aload_n 0) rfl rfl ?_
                            refine sGi (p := 158) rfl rfl (sk_179 _) rfl rfl rfl hX1.2.1 ?_
                            refine sIf_ne (p := 161) rfl rfl ⟨by omega, by omega⟩ (fun c8 => ?_) (fun c8 => ?_)
                            · have c8 := c8
                              refine sL (pc' := 170) (i := .aload_n 0) rfl rfl ?_
                              refine sGi (p := 173) rfl rfl (sk_179 _) rfl rfl rfl hX1.2.1 ?_
                              refine sIf_ne (p := 176) rfl rfl ⟨by omega, by omega⟩ (fun c9 => ?_) (fun c9 => ?_)
                              · have c9 := c9
                                refine sL (i := .goto (-206)) rfl rfl ?_
                                rw [hR] at hdead
                                refine sFg (ls := [some (.ref 179), some (.int (iI ((fn : Nat) : Int))), some (.int (iI ((nc : Nat) : Int))), none, none, none]) (xx_ll_le (And.intro rfl (And.intro rfl (And.intro rfl (True.intro))))) (hdead S1 (Nat.succ_ne_zero _) (frE_K (frK_J hf1)) ((frK_J hf1).2.2.2.1 13 (by decide)) hX1 hF1)
                              · exact absurd c9 (by decide)
                            · exact absurd c8 (by decide)
                          · exact absurd c7 (by decide)
                      · exfalso; omega
                    · exact absurd c4 (by decide)
                  · exfalso; omega
            · rw [show rf (tk y s) 2 (i + 1) = 2 from if_neg (fun z => q6 z.2)] at hR
              refine sL (pc' := 38) (i := .aload_n 0) rfl rfl ?_
              refine sGi (p := 41) rfl rfl (sk_179 _) rfl rfl rfl hA.2.1 ?_
              refine sIf_ne (p := 44) rfl rfl ⟨by omega, by omega⟩ (fun c1 => ?_) (fun c1 => ?_)
              · exact absurd c1 (by decide)
              · have c1 := c1
                refine sL (pc' := 45) (i := .aload_n 0) rfl rfl ?_
                refine sGi (p := 48) rfl rfl (sk_179 _) rfl rfl rfl hA.2.2.2.1 ?_
                refine sIf_eq (p := 51) rfl rfl ⟨by omega, by omega⟩ (fun c2 => ?_) (fun c2 => ?_)
                · exfalso; omega
                · have c2 := c2
                  refine sL (pc' := 52) (i := .aload_n 0) rfl rfl ?_
                  refine sGi (p := 55) rfl rfl (sk_179 _) rfl rfl rfl hA.2.2.2.1 ?_
                  refine sKi (p := 56) rfl rfl ?_
                  refine sIc_eq (p := 59) rfl rfl ⟨by omega, by omega⟩ ⟨by omega, by omega⟩ (fun c3 => ?_) (fun c3 => ?_)
                  · have c3 := c3
                    refine sL (pc' := 72) (i := .aload_n 0) rfl rfl ?_
                    refine sL (pc' := 73) (i := .aload_n 0) rfl rfl ?_
                    refine sGl (p := 76) rfl rfl (sk_179 _) rfl rfl rfl hx ?_
                    refine sCv (p := 79) (as := [_]) rfl rfl rfl rfl (by decide) (Nat.le_of_ble_eq_true rfl) rfl (Nat.le_of_ble_eq_true rfl) (sk_179 _) rfl (by omega) (m_findName (x := C i) hF.2.2.2.1 h40c hF.2.2.2.2.2.1) ?_
                    rw [hf]
                    refine sKi (p := 80) rfl rfl ?_
                    refine sIc_eq (p := 83) rfl rfl ⟨by omega, by omega⟩ ⟨by omega, by omega⟩ (fun c4 => ?_) (fun c4 => ?_)
                    · have c4 := c4
                      refine sL (pc' := 96) (i := .aload_n 0) rfl rfl ?_
                      refine sGi (p := 99) rfl rfl (sk_179 _) rfl rfl rfl hF.1 ?_
                      refine sKb (p := 101) rfl rfl ?_
                      refine sIc_ne (p := 104) rfl rfl ⟨by omega, by omega⟩ ⟨by omega, by omega⟩ (fun c5 => ?_) (fun c5 => ?_)
                      · have c5 := c5
                        refine sL (pc' := 114) (i := .aload_n 0) rfl rfl ?_
                        refine sGl (p := 117) rfl rfl (sk_179 _) rfl rfl rfl hx ?_
                        refine sL (pc' := 118) (i := .lstore_n 3) (ls' := [some (.ref 179), some (.int (iI ((fn : Nat) : Int))), some (.int (iI ((nc : Nat) : Int))), some (.long (C i)), none, none]) rfl rfl ?_
                        refine sL (pc' := 119) (i := .aload_n 0) rfl rfl ?_
                        refine sGi (p := 122) rfl rfl (sk_179 _) rfl rfl rfl hA.2.1 ?_
                        refine sIf_ne (p := 125) rfl rfl ⟨by omega, by omega⟩ (fun c6 => ?_) (fun c6 => ?_)
                        · exact absurd c6 (by decide)
                        · have c6 := c6
                          refine sL (pc' := 126) (i := .aload_n 0) rfl rfl ?_
                          refine sCvQ (p := 129) (as := []) rfl rfl rfl rfl (by decide) (Nat.le_of_ble_eq_true rfl) rfl (Nat.le_of_ble_eq_true rfl) (sk_179 _) rfl (by omega) (m_nextA hA) ?_
                          rintro _ S1 ⟨rfl, hf1, hN1⟩
                          have hF1 := mFn_K hF (frK_J hf1)
                          have hv1 := vM_fr hv hf1
                          have hA1 := mN_alive hN1 q6
                          refine sL (pc' := 130) (i := .aload_n 0) rfl rfl ?_
                          refine sGi (p := 133) rfl rfl (sk_179 _) rfl rfl rfl hA1.2.1 ?_
                          refine sIf_ne (p := 136) rfl rfl ⟨by omega, by omega⟩ (fun c7 => ?_) (fun c7 => ?_)
                          · exact absurd c7 (by decide)
                          · have c7 := c7
                            refine sL (pc' := 137) (i := .aload_n 0) rfl rfl ?_
                            refine sGi (p := 140) rfl rfl (sk_179 _) rfl rfl rfl hA1.2.2.2.1 ?_
                            refine sKb (p := 142) rfl rfl ?_
                            refine sIc_eq (p := 145) rfl rfl ⟨by omega, by omega⟩ ⟨by omega, by omega⟩ (fun c8 => ?_) (fun c8 => ?_)
                            · exfalso; omega
                            · have c8 := c8
                              refine sL (pc' := 146) (i := .aload_n 0) rfl rfl ?_
                              refine sKi (p := 147) rfl rfl ?_
                              refine sL (pc' := 148) (i := .aload_n 0) rfl rfl ?_
                              refine sGi (p := 151) rfl rfl (sk_179 _) rfl rfl rfl hA1.2.2.2.2.1 ?_
                              refine sCv (p := 154) (as := [_, _]) rfl rfl rfl rfl (by decide) (Nat.le_of_ble_eq_true rfl) rfl (Nat.le_of_ble_eq_true rfl) (sk_179 _) rfl (by omega) (m_bad (kz := 0) hA1.2.1 ⟨by decide, by decide⟩) ?_
                              refine sL (pc' := 155) (i := .aload_n 0) rfl rfl ?_
                              refine sGi (p := 158) rfl rfl (sk_179 _) rfl rfl rfl ((bd_14 hA1.2.1).trans (if_pos rfl)) ?_
                              refine sIf_ne (p := 161) rfl rfl ⟨by omega, by omega⟩ (fun c9 => ?_) (fun c9 => ?_)
                              · have c9 := c9
                                refine sL (pc' := 170) (i := .aload_n 0) rfl rfl ?_
                                refine sGi (p := 173) rfl rfl (sk_179 _) rfl rfl rfl ((bd_14 hA1.2.1).trans (if_pos rfl)) ?_
                                refine sIf_ne (p := 176) rfl rfl ⟨by omega, by omega⟩ (fun c10 => ?_) (fun c10 => ?_)
                                · have c10 := c10
                                  refine sL (i := .goto (-206)) rfl rfl ?_
                                  rw [hR] at hdead
                                  have hbd := mX_bd (k := 2) (q := tA y s (i + 1)) hA1.1 hA1.2.1 ⟨by decide, by decide⟩ rfl (tP_le (i + 1 + 1)) hA1.2.2.1
                                  refine sFg (ls := [some (.ref 179), some (.int (iI ((fn : Nat) : Int))), some (.int (iI ((nc : Nat) : Int))), none, none, none]) (xx_ll_le (And.intro rfl (And.intro rfl (And.intro rfl (True.intro))))) (hdead _ (Nat.succ_ne_zero _) (frE_K (frK_J (frJ_trans hf1 hbd.2))) ((frK_J (frJ_trans hf1 hbd.2)).2.2.2.1 13 (by decide)) hbd.1 (mFn_K hF1 (frK_J hbd.2)))
                                · exact absurd c10 (by decide)
                              · exact absurd c9 (by decide)
                      · exfalso; omega
                    · exact absurd c4 (by decide)
                  · exfalso; omega
      · rw [if_pos q2] at hR
        have hf : fnd rn' (C i) (nc + d) 0 ≠ -1 := fun z => q2 (hj.1 z)
        have hfb := fnd_b (nm := rn') (x := C i) (nc + d) 0
        obtain ⟨L0, hL0⟩ : ∃ L0, SL (bdS S 0 3 ((tA y s i : Nat) : Int)) 179 26 = L0 := ⟨_, rfl⟩
        refine sL (pc' := 38) (i := .aload_n 0) rfl rfl ?_
        refine sGi (p := 41) rfl rfl (sk_179 _) rfl rfl rfl hA.2.1 ?_
        refine sIf_ne (p := 44) rfl rfl ⟨by omega, by omega⟩ (fun c1 => ?_) (fun c1 => ?_)
        · exact absurd c1 (by decide)
        · have c1 := c1
          refine sL (pc' := 45) (i := .aload_n 0) rfl rfl ?_
          refine sGi (p := 48) rfl rfl (sk_179 _) rfl rfl rfl hA.2.2.2.1 ?_
          refine sIf_eq (p := 51) rfl rfl ⟨by omega, by omega⟩ (fun c2 => ?_) (fun c2 => ?_)
          · exfalso; omega
          · have c2 := c2
            refine sL (pc' := 52) (i := .aload_n 0) rfl rfl ?_
            refine sGi (p := 55) rfl rfl (sk_179 _) rfl rfl rfl hA.2.2.2.1 ?_
            refine sKi (p := 56) rfl rfl ?_
            refine sIc_eq (p := 59) rfl rfl ⟨by omega, by omega⟩ ⟨by omega, by omega⟩ (fun c3 => ?_) (fun c3 => ?_)
            · have c3 := c3
              refine sL (pc' := 72) (i := .aload_n 0) rfl rfl ?_
              refine sL (pc' := 73) (i := .aload_n 0) rfl rfl ?_
              refine sGl (p := 76) rfl rfl (sk_179 _) rfl rfl rfl hx ?_
              refine sCv (p := 79) (as := [_]) rfl rfl rfl rfl (by decide) (Nat.le_of_ble_eq_true rfl) rfl (Nat.le_of_ble_eq_true rfl) (sk_179 _) rfl (by omega) (m_findName (x := C i) hF.2.2.2.1 h40c hF.2.2.2.2.2.1) ?_
              refine sKi (p := 80) rfl rfl ?_
              refine sIc_eq (p := 83) rfl rfl ⟨by omega, by omega⟩ ⟨by omega, by omega⟩ (fun c4 => ?_) (fun c4 => ?_)
              · exfalso; omega
              · have c4 := c4
                refine sL (pc' := 84) (i := .aload_n 0) rfl rfl ?_
                refine sKi (p := 85) rfl rfl ?_
                refine sL (pc' := 86) (i := .aload_n 0) rfl rfl ?_
                refine sGi (p := 89) rfl rfl (sk_179 _) rfl rfl rfl hA.2.2.2.2.1 ?_
                refine sCv (p := 92) (as := [_, _]) rfl rfl rfl rfl (by decide) (Nat.le_of_ble_eq_true rfl) rfl (Nat.le_of_ble_eq_true rfl) (sk_179 _) rfl (by omega) (m_bad (kz := 0) hA.2.1 ⟨by decide, by decide⟩) ?_
                refine sL (i := .goto 21) rfl rfl ?_
                refine sL (pc' := 114) (i := .aload_n 0) rfl rfl ?_
                refine sGl (p := 117) rfl rfl (sk_179 _) rfl rfl rfl hL0 ?_
                refine sL (pc' := 118) (i := .lstore_n 3) (ls' := [some (.ref 179), some (.int (iI ((fn : Nat) : Int))), some (.int (iI ((nc : Nat) : Int))), some (.long L0), none, none]) rfl rfl ?_
                refine sL (pc' := 119) (i := .aload_n 0) rfl rfl ?_
                refine sGi (p := 122) rfl rfl (sk_179 _) rfl rfl rfl ((bd_14 hA.2.1).trans (if_pos rfl)) ?_
                refine sIf_ne (p := 125) rfl rfl ⟨by omega, by omega⟩ (fun c5 => ?_) (fun c5 => ?_)
                · have c5 := c5
                  refine sL (pc' := 130) (i := .aload_n 0) rfl rfl ?_
                  refine sGi (p := 133) rfl rfl (sk_179 _) rfl rfl rfl ((bd_14 hA.2.1).trans (if_pos rfl)) ?_
                  refine sIf_ne (p := 136) rfl rfl ⟨by omega, by omega⟩ (fun c6 => ?_) (fun c6 => ?_)
                  · have c6 := c6
                    refine sL (pc' := 155) (i := .aload_n 0) rfl rfl ?_
                    refine sGi (p := 158) rfl rfl (sk_179 _) rfl rfl rfl ((bd_14 hA.2.1).trans (if_pos rfl)) ?_
                    refine sIf_ne (p := 161) rfl rfl ⟨by omega, by omega⟩ (fun c7 => ?_) (fun c7 => ?_)
                    · have c7 := c7
                      refine sL (pc' := 170) (i := .aload_n 0) rfl rfl ?_
                      refine sGi (p := 173) rfl rfl (sk_179 _) rfl rfl rfl ((bd_14 hA.2.1).trans (if_pos rfl)) ?_
                      refine sIf_ne (p := 176) rfl rfl ⟨by omega, by omega⟩ (fun c8 => ?_) (fun c8 => ?_)
                      · have c8 := c8
                        refine sL (i := .goto (-206)) rfl rfl ?_
                        rw [hR] at hdead
                        have hbd := mX_bd (k := 3) (q := tA y s i) hA.1 hA.2.1 ⟨by decide, by decide⟩ rfl (tP_le (i + 1)) hA.2.2.1
                        refine sFg (ls := [some (.ref 179), some (.int (iI ((fn : Nat) : Int))), some (.int (iI ((nc : Nat) : Int))), none, none, none]) (xx_ll_le (And.intro rfl (And.intro rfl (And.intro rfl (True.intro))))) (hdead _ (Nat.succ_ne_zero _) (frE_K (frK_J hbd.2)) (bdS_f (by decide)) hbd.1 (mFn_K hF (frK_J hbd.2)))
                      · exact absurd c8 (by decide)
                    · exact absurd c7 (by decide)
                  · exact absurd c6 (by decide)
                · exact absurd c5 (by decide)
            · exfalso; omega
    · rw [if_pos q1, show rf (tk y s) 2 i = 2 from if_neg (fun z => c5 z.2)] at hR
      have e1 : rc (tk y s i) ≠ 1 := by
        have h9 : tk y s i ≤ 265 := tK_lt _
        unfold rc
        repeat' split
        all_goals omega
      obtain ⟨L0, hL0⟩ : ∃ L0, SL (bdS S 0 2 ((tA y s i : Nat) : Int)) 179 26 = L0 := ⟨_, rfl⟩
      refine sL (pc' := 38) (i := .aload_n 0) rfl rfl ?_
      refine sGi (p := 41) rfl rfl (sk_179 _) rfl rfl rfl hA.2.1 ?_
      refine sIf_ne (p := 44) rfl rfl ⟨by omega, by omega⟩ (fun c1 => ?_) (fun c1 => ?_)
      · exact absurd c1 (by decide)
      · have c1 := c1
        refine sL (pc' := 45) (i := .aload_n 0) rfl rfl ?_
        refine sGi (p := 48) rfl rfl (sk_179 _) rfl rfl rfl hA.2.2.2.1 ?_
        refine sIf_eq (p := 51) rfl rfl ⟨by omega, by omega⟩ (fun c2 => ?_) (fun c2 => ?_)
        · exfalso; omega
        · have c2 := c2
          refine sL (pc' := 52) (i := .aload_n 0) rfl rfl ?_
          refine sGi (p := 55) rfl rfl (sk_179 _) rfl rfl rfl hA.2.2.2.1 ?_
          refine sKi (p := 56) rfl rfl ?_
          refine sIc_eq (p := 59) rfl rfl ⟨by omega, by omega⟩ ⟨by omega, by omega⟩ (fun c3 => ?_) (fun c3 => ?_)
          · exfalso; omega
          · have c3 := c3
            refine sL (pc' := 60) (i := .aload_n 0) rfl rfl ?_
            refine sKi (p := 61) rfl rfl ?_
            refine sL (pc' := 62) (i := .aload_n 0) rfl rfl ?_
            refine sGi (p := 65) rfl rfl (sk_179 _) rfl rfl rfl hA.2.2.2.2.1 ?_
            refine sCv (p := 68) (as := [_, _]) rfl rfl rfl rfl (by decide) (Nat.le_of_ble_eq_true rfl) rfl (Nat.le_of_ble_eq_true rfl) (sk_179 _) rfl (by omega) (m_bad (kz := 0) hA.2.1 ⟨by decide, by decide⟩) ?_
            refine sL (i := .goto 45) rfl rfl ?_
            refine sL (pc' := 114) (i := .aload_n 0) rfl rfl ?_
            refine sGl (p := 117) rfl rfl (sk_179 _) rfl rfl rfl hL0 ?_
            refine sL (pc' := 118) (i := .lstore_n 3) (ls' := [some (.ref 179), some (.int (iI ((fn : Nat) : Int))), some (.int (iI ((nc : Nat) : Int))), some (.long L0), none, none]) rfl rfl ?_
            refine sL (pc' := 119) (i := .aload_n 0) rfl rfl ?_
            refine sGi (p := 122) rfl rfl (sk_179 _) rfl rfl rfl ((bd_14 hA.2.1).trans (if_pos rfl)) ?_
            refine sIf_ne (p := 125) rfl rfl ⟨by omega, by omega⟩ (fun c4 => ?_) (fun c4 => ?_)
            · have c4 := c4
              refine sL (pc' := 130) (i := .aload_n 0) rfl rfl ?_
              refine sGi (p := 133) rfl rfl (sk_179 _) rfl rfl rfl ((bd_14 hA.2.1).trans (if_pos rfl)) ?_
              refine sIf_ne (p := 136) rfl rfl ⟨by omega, by omega⟩ (fun c5 => ?_) (fun c5 => ?_)
              · have c5 := c5
                refine sL (pc' := 155) (i := .aload_n 0) rfl rfl ?_
                refine sGi (p := 158) rfl rfl (sk_179 _) rfl rfl rfl ((bd_14 hA.2.1).trans (if_pos rfl)) ?_
                refine sIf_ne (p := 161) rfl rfl ⟨by omega, by omega⟩ (fun c6 => ?_) (fun c6 => ?_)
                · have c6 := c6
                  refine sL (pc' := 170) (i := .aload_n 0) rfl rfl ?_
                  refine sGi (p := 173) rfl rfl (sk_179 _) rfl rfl rfl ((bd_14 hA.2.1).trans (if_pos rfl)) ?_
                  refine sIf_ne (p := 176) rfl rfl ⟨by omega, by omega⟩ (fun c7 => ?_) (fun c7 => ?_)
                  · have c7 := c7
                    refine sL (i := .goto (-206)) rfl rfl ?_
                    rw [hR] at hdead
                    have hbd := mX_bd (k := 2) (q := tA y s i) hA.1 hA.2.1 ⟨by decide, by decide⟩ rfl (tP_le (i + 1)) hA.2.2.1
                    refine sFg (ls := [some (.ref 179), some (.int (iI ((fn : Nat) : Int))), some (.int (iI ((nc : Nat) : Int))), none, none, none]) (xx_ll_le (And.intro rfl (And.intro rfl (And.intro rfl (True.intro))))) (hdead _ (Nat.succ_ne_zero _) (frE_K (frK_J hbd.2)) (bdS_f (by decide)) hbd.1 (mFn_K hF (frK_J hbd.2)))
                  · exact absurd c7 (by decide)
                · exact absurd c6 (by decide)
              · exact absurd c5 (by decide)
            · exact absurd c4 (by decide)
end MM
