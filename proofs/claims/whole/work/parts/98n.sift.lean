/-! ===== the diagram: a variable is brought to a place; a good place is sought ===== -/
def skp (p r : Nat) : Nat := if r < p then r else r + 1
/-- the order with the variable of place p brought to place t -/
def mvO (ord : Nat → Nat) (p t : Nat) : Nat → Nat := fun q => if q = t then ord p else ord (skp p (if q < t then q else q - 1))
theorem mvO_t (ord : Nat → Nat) (p t : Nat) : mvO ord p t t = ord p := if_pos rfl
theorem mvO_p (ord : Nat → Nat) (p : Nat) : mvO ord p p = ord := funext fun q => by
  unfold mvO skp
  by_cases c : q = p
  · rw [if_pos c, c]
  · rw [if_neg c]
    by_cases c2 : q < p
    · rw [if_pos c2, if_pos c2]
    · rw [if_neg c2, if_neg (by omega), show q - 1 + 1 = q from by omega]
theorem mvO_mvO (ord : Nat → Nat) (p s t : Nat) : mvO (mvO ord p s) s t = mvO ord p t := funext fun q => by
  show (if q = t then mvO ord p s s else mvO ord p s (skp s (if q < t then q else q - 1))) = if q = t then ord p else ord (skp p (if q < t then q else q - 1))
  by_cases c : q = t
  · rw [if_pos c, if_pos c, mvO_t]
  · rw [if_neg c, if_neg c]
    generalize (if q < t then q else q - 1) = r
    show (if skp s r = s then ord p else ord (skp p (if skp s r < s then skp s r else skp s r - 1))) = _
    unfold skp
    by_cases c2 : r < s
    · rw [if_pos c2, if_neg (by omega), if_pos c2]
    · rw [if_neg c2, if_neg (show ¬ r + 1 = s by omega), if_neg (show ¬ r + 1 < s by omega), show r + 1 - 1 = r from by omega]
theorem mv_dn (ord : Nat → Nat) (p t : Nat) : swp (mvO ord p (t + 1)) t = mvO ord p t := funext fun q => by
  by_cases c1 : q = t
  · rw [c1, swp_p, mvO_t, mvO_t]
  · by_cases c2 : q = t + 1
    · rw [c2, swp_s]
      unfold mvO
      rw [if_neg (by omega), if_pos (by omega), if_neg (by omega), if_neg (by omega), show t + 1 - 1 = t from by omega]
    · rw [swp_n c1 c2]
      unfold mvO
      rw [if_neg c2, if_neg c1]
      by_cases c3 : q < t
      · rw [if_pos c3, if_pos (by omega)]
      · rw [if_neg c3, if_neg (by omega)]
theorem mv_up (ord : Nat → Nat) (p t : Nat) : swp (mvO ord p t) t = mvO ord p (t + 1) := funext fun q => by
  by_cases c1 : q = t
  · rw [c1, swp_p]
    unfold mvO
    rw [if_neg (by omega), if_neg (by omega), if_neg (by omega), if_pos (by omega), show t + 1 - 1 = t from by omega]
  · by_cases c2 : q = t + 1
    · rw [c2, swp_s, mvO_t, mvO_t]
    · rw [swp_n c1 c2]
      unfold mvO
      rw [if_neg c1, if_neg c2]
      by_cases c3 : q < t
      · rw [if_pos c3, if_pos (by omega)]
      · rw [if_neg c3, if_neg (by omega)]
/-- at rest, with the functions' roots -/
def dRF (S : ST) (b R n : Nat) (sz ord pl : Nat → Nat) (D : DT) (U fn : Nat) (rt : Nat → Nat) (Fn : Nat → Nat → Bool) : Prop := dR S b R n sz ord pl D (exF rt fn) U ∧ (∀ f, f < fn → dok D 0 (rt f) ∧ ds D (rt f) = Fn f) ∧ fn ≤ 40 ∧ (∀ f, f < fn → tbT (pr sz n) (Fn f))
/-- how many nodes all functions have -/
noncomputable def NN (n : Nat) (sz ord : Nat → Nat) (fn : Nat) (Fn : Nat → Nat → Bool) : Nat := Classical.epsilon (fun N => bEnd n sz ord (addF n sz Fn fn).1 (addF n sz Fn fn).2 N)
def rQ (S : ST) (b R n : Nat) (sz ord : Nat → Nat) (fn : Nat) (rt : Nat → Nat) (Fn : Nat → Nat → Bool) (S' : ST) : Prop := ∃ pl' b' R' D' U', dRF S' b' R' n sz ord pl' D' U' fn rt Fn ∧ frD b R S b' R' S'
section EA
variable {X : List Int32} {S : ST} {b R n U fn : Nat} {sz ord pl rt : Nat → Nat} {D : DT} {Fn : Nat → Nat → Bool}
theorem NN_ok (hw : wf n sz) (ho : prm n ord pl) (h40 : fn ≤ 40) (htb : ∀ f, f < fn → tbT (pr sz n) (Fn f)) : bEnd n sz ord (addF n sz Fn fn).1 (addF n sz Fn fn).2 (NN n sz ord fn Fn) ∧ NN n sz ord fn Fn ≤ 8910 := by
  obtain ⟨N, h1, h2, h3, _⟩ := bfs_end hw ho h40 (addF_LS hw ho htb (Nat.le_refl fn))
  have h4 : bEnd n sz ord (addF n sz Fn fn).1 (addF n sz Fn fn).2 (NN n sz ord fn Fn) := Classical.epsilon_spec (p := fun N => bEnd n sz ord (addF n sz Fn fn).1 (addF n sz Fn fn).2 N) ⟨N, h1, h2⟩
  exact ⟨h4, by rw [bEnd_u h4 ⟨h1, h2⟩]; exact h3⟩
theorem dRF_live (hw : wf n sz) (h : dRF S b R n sz ord pl D U fn rt Fn) : SI S 52 12 = ((NN n sz ord fn Fn : Nat) : Int) ∧ cntB (dl D) U = NN n sz ord fn Fn ∧ NN n sz ord fn Fn ≤ 8910 := by
  obtain ⟨⟨hG, hc, hu, hO, ho⟩, hrt, h40, htb⟩ := h
  obtain ⟨h1, h2⟩ := NN_ok hw ho h40 htb
  have h3 := live_N hw ho hG.2.1 hc hu hrt htb h1
  refine ⟨?_, h3, h2⟩
  rw [hG.2.2.2.2.2.1, h3]
  rfl
theorem c_swapF {p : Nat} (hvC : vC S n sz) (hR : dRF S b R n sz ord pl D U fn rt Fn) (hp : p + 1 < n) : sM X 4 41 [.ref 52, .int (iI ((p : Nat) : Int))] S (fun r S' => r = none ∧ rQ S b R n sz (swp ord p) fn rt Fn S') := by
  have hl := dRF_live hvC.1 hR
  obtain ⟨h1, hrt, h40, htb⟩ := hR
  refine sM.weaken (c_swapAt hvC h1 hp (by omega) (fun x => by have := exF_le rt fn x; omega)) ?_
  rintro r S' ⟨h2, b', R', D', U', h3, h4, h5⟩
  refine ⟨h2, _, b', R', D', U', ⟨h3, fun f hf => ⟨?_, ?_⟩, h40, htb⟩, h5⟩
  · exact h3.1.2.2.1.2.2.2.2.2 _ (exF_pos hf)
  · rw [h4 _ (exF_pos hf)]
    exact (hrt f hf).2
theorem prm_pl {pl' : Nat → Nat} {p t : Nat} (h : prm n (mvO ord p t) pl') (ht : t < n) : pl' (ord p) = t := by
  have := (h.1 t ht).2
  rw [mvO_t] at this
  exact this
theorem c_bring {v t : Nat} (hvC : vC S n sz) (hR : dRF S b R n sz ord pl D U fn rt Fn) (hv : v < n) (ht : t < n) : sM X 5 39 [.ref 52, .int (iI ((v : Nat) : Int)), .int (iI ((t : Nat) : Int))] S (fun r S' => r = none ∧ rQ S b R n sz (mvO ord (pl v) t) fn rt Fn S') := by
  have hwf := hvC.1
  have hn10 := hwf.1
  have hb58 := hR.1.1.1.1
  have ho := hR.1.2.2.2.2
  have hO := hR.1.2.2.2.1
  obtain ⟨S0, hS0⟩ : ∃ S0, S0 = S := ⟨S, rfl⟩
  have hvC0 : vC S0 n sz := by rw [hS0]; exact hvC
  have hplv := ho.2 v hv
  have hq : ∀ (r : Option Value) (S' : ST), (r = none ∧ rQ S0 b R n sz (mvO ord (pl v) t) fn rt Fn S') → (r = none ∧ rQ S b R n sz (mvO ord (pl v) t) fn rt Fn S') := fun r S' h => by rw [← hS0]; exact h
  refine sM.weaken ?_ hq
  clear hq
  refine sIni (ls := [some (.ref 52), some (.int (iI ((v : Nat) : Int))), some (.int (iI ((t : Nat) : Int))), none]) rfl ?_
  refine sL (pc' := 1) (i := .aload_n 0) rfl rfl ?_
  refine sL (pc' := 2) (i := .iload_n 1) rfl rfl ?_
  refine sCv (p := 5) (as := [_]) rfl rfl rfl rfl (by decide) (Nat.le_of_ble_eq_true rfl) rfl (Nat.le_of_ble_eq_true rfl) (sk_52 _) rfl (by omega) (c_placeOf (z := ((pl v : Nat) : Int)) (by omega) (hO.2 v hv)) ?_
  refine sL (pc' := 6) (i := .istore_n 3) (ls' := [some (.ref 52), some (.int (iI ((v : Nat) : Int))), some (.int (iI ((t : Nat) : Int))), some (.int (iI ((pl v : Nat) : Int)))]) rfl rfl ?_
  refine sItR (A := fun i => [some (.ref 52), some (.int (iI ((v : Nat) : Int))), some (.int (iI ((t : Nat) : Int))), some (.int (iI ((pl v - i : Nat) : Int)))]) (fun i S => ∃ pl1 b1 R1 D1 U1, dRF S b1 R1 n sz (mvO ord (pl v) (pl v - i)) pl1 D1 U1 fn rt Fn ∧ frD b R S0 b1 R1 S) (pl v - t) (⟨pl, b, R, D, U, by show dRF S b R n sz (mvO ord (pl v) (pl v)) pl D U fn rt Fn; rw [mvO_p]; exact hR, by rw [hS0]; exact frD_refl _ _ _⟩) (fun i hi6 Sa hJ6 ih6 => ?_) (fun Saf hJ6 => ?_)
  · have hi6 := hi6
    obtain ⟨pl1, b1, R1, D1, U1, hRa, hfa⟩ := hJ6
    refine sL (pc' := 7) (i := .iload_n 3) rfl rfl ?_
    refine sL (pc' := 8) (i := .iload_n 2) rfl rfl ?_
    refine sIc_le (p := 11) rfl rfl ⟨by omega, by omega⟩ ⟨by omega, by omega⟩ (fun c1 => ?_) (fun c1 => ?_)
    · exfalso; omega
    · have c1 := c1
      refine sL (pc' := 12) (i := .aload_n 0) rfl rfl ?_
      refine sL (pc' := 13) (i := .iload_n 3) rfl rfl ?_
      refine sKi (p := 14) rfl rfl ?_
      refine sSb (p := 15) rfl rfl ?_
      rw [show (((pl v - i : Nat) : Int) - 1) = (((pl v - i - 1 : Nat) : Int)) from by omega]
      refine sCvQ (p := 18) (as := [_]) rfl rfl rfl rfl (by decide) (Nat.le_of_ble_eq_true rfl) rfl (Nat.le_of_ble_eq_true rfl) (sk_52 _) rfl (by omega) (c_swapF (frD_vC hfa hb58 hvC0) hRa (by omega)) ?_
      rintro _ Sw ⟨rfl, pl2, b2, R2, D2, U2, hR2, hf2⟩
      refine sInX (z := ((pl v - i : Nat) : Int)) (ls' := [some (.ref 52), some (.int (iI ((v : Nat) : Int))), some (.int (iI ((t : Nat) : Int))), some (.int (iI (((pl v - i : Nat) : Int) + (-1))))]) (p := 21) rfl rfl (Nat.le_of_ble_eq_true rfl) rfl rfl ?_
      refine sL (i := .goto (-15)) rfl rfl ?_
      refine sFg (ls := [some (.ref 52), some (.int (iI ((v : Nat) : Int))), some (.int (iI ((t : Nat) : Int))), some (.int (iI ((pl v - (i + 1) : Nat) : Int)))]) (xx_ll_le (And.intro rfl (And.intro rfl (And.intro rfl (And.intro (congrArg (fun z => some (Value.int z)) (congrArg iI (by omega))) (True.intro)))))) (ih6 _ ?_)
      refine ⟨pl2, b2, R2, D2, U2, ?_, frD_trans hfa hf2⟩
      have e9 : swp (mvO ord (pl v) (pl v - i)) (pl v - i - 1) = mvO ord (pl v) (pl v - (i + 1)) := by
        rw [show pl v - i = (pl v - (i + 1)) + 1 from by omega, show pl v - (i + 1) + 1 - 1 = pl v - (i + 1) from by omega]
        exact mv_dn _ _ _
      rw [← e9]
      exact hR2
  · have hJ6 := hJ6
    obtain ⟨pl1, b1, R1, D1, U1, hRf, hff⟩ := hJ6
    have hplf : pl1 v = pl v - (pl v - t) := by
      have h9 := prm_pl hRf.1.2.2.2.2 (by omega)
      rw [hplv.2] at h9
      exact h9
    refine sL (pc' := 7) (i := .iload_n 3) rfl rfl ?_
    refine sL (pc' := 8) (i := .iload_n 2) rfl rfl ?_
    refine sIc_le (p := 11) rfl rfl ⟨by omega, by omega⟩ ⟨by omega, by omega⟩ (fun c2 => ?_) (fun c2 => ?_)
    · have c2 := c2
      refine sL (pc' := 25) (i := .aload_n 0) rfl rfl ?_
      refine sL (pc' := 26) (i := .iload_n 1) rfl rfl ?_
      refine sCv (p := 29) (as := [_]) rfl rfl rfl rfl (by decide) (Nat.le_of_ble_eq_true rfl) rfl (Nat.le_of_ble_eq_true rfl) (sk_52 _) rfl (by omega) (c_placeOf (z := ((pl v - (pl v - t) : Nat) : Int)) (by omega) ((hRf.1.2.2.2.1.2 v hv).trans (by rw [hplf]))) ?_
      refine sL (pc' := 30) (i := .istore_n 3) (ls' := [some (.ref 52), some (.int (iI ((v : Nat) : Int))), some (.int (iI ((t : Nat) : Int))), some (.int (iI ((pl v - (pl v - t) : Nat) : Int)))]) rfl rfl ?_
      refine sItR (A := fun i => [some (.ref 52), some (.int (iI ((v : Nat) : Int))), some (.int (iI ((t : Nat) : Int))), some (.int (iI ((pl v - (pl v - t) + i : Nat) : Int)))]) (fun i S => ∃ pl1 b1 R1 D1 U1, dRF S b1 R1 n sz (mvO ord (pl v) (pl v - (pl v - t) + i)) pl1 D1 U1 fn rt Fn ∧ frD b R S0 b1 R1 S) (t - (pl v - (pl v - t))) (⟨pl1, b1, R1, D1, U1, hRf, hff⟩) (fun i hi30 Sb hJ30 ih30 => ?_) (fun Sbf hJ30 => ?_)
      · have hi30 := hi30
        obtain ⟨pl3, b3, R3, D3, U3, hRb, hfb⟩ := hJ30
        refine sL (pc' := 31) (i := .iload_n 3) rfl rfl ?_
        refine sL (pc' := 32) (i := .iload_n 2) rfl rfl ?_
        refine sIc_ge (p := 35) rfl rfl ⟨by omega, by omega⟩ ⟨by omega, by omega⟩ (fun c3 => ?_) (fun c3 => ?_)
        · exfalso; omega
        · have c3 := c3
          refine sL (pc' := 36) (i := .aload_n 0) rfl rfl ?_
          refine sL (pc' := 37) (i := .iload_n 3) rfl rfl ?_
          refine sCvQ (p := 40) (as := [_]) rfl rfl rfl rfl (by decide) (Nat.le_of_ble_eq_true rfl) rfl (Nat.le_of_ble_eq_true rfl) (sk_52 _) rfl (by omega) (c_swapF (frD_vC hfb hb58 hvC0) hRb (by omega)) ?_
          rintro _ Sw ⟨rfl, pl2, b2, R2, D2, U2, hR2, hf2⟩
          refine sInX (z := ((pl v - (pl v - t) + i : Nat) : Int)) (ls' := [some (.ref 52), some (.int (iI ((v : Nat) : Int))), some (.int (iI ((t : Nat) : Int))), some (.int (iI (((pl v - (pl v - t) + i : Nat) : Int) + 1)))]) (p := 43) rfl rfl (Nat.le_of_ble_eq_true rfl) rfl rfl ?_
          refine sL (i := .goto (-13)) rfl rfl ?_
          refine sFg (ls := [some (.ref 52), some (.int (iI ((v : Nat) : Int))), some (.int (iI ((t : Nat) : Int))), some (.int (iI ((pl v - (pl v - t) + (i + 1) : Nat) : Int)))]) (xx_ll_le (And.intro rfl (And.intro rfl (And.intro rfl (And.intro rfl (True.intro)))))) (ih30 _ ?_)
          refine ⟨pl2, b2, R2, D2, U2, ?_, frD_trans hfb hf2⟩
          rw [mv_up] at hR2
          exact hR2
      · have hJ30 := hJ30
        obtain ⟨pl3, b3, R3, D3, U3, hRc, hfc⟩ := hJ30
        refine sL (pc' := 31) (i := .iload_n 3) rfl rfl ?_
        refine sL (pc' := 32) (i := .iload_n 2) rfl rfl ?_
        refine sIc_ge (p := 35) rfl rfl ⟨by omega, by omega⟩ ⟨by omega, by omega⟩ (fun c4 => ?_) (fun c4 => ?_)
        · have c4 := c4
          refine sEn (i := .return_) rfl (rfl) ?_
          refine ⟨rfl, pl3, b3, R3, D3, U3, ?_, hfc⟩
          rw [show pl v - (pl v - t) + (t - (pl v - (pl v - t))) = t from by omega] at hRc
          exact hRc
        · exfalso; omega
    · exfalso; omega
/-- the best place among the first, and the size there -/
noncomputable def sfB (n : Nat) (sz ord : Nat → Nat) (fn : Nat) (Fn : Nat → Nat → Bool) : Nat → Nat × Nat
  | 0 => (0, NN n sz (mvO ord 0 0) fn Fn)
  | i + 1 => if NN n sz (mvO ord 0 (i + 1)) fn Fn < (sfB n sz ord fn Fn i).2 then (i + 1, NN n sz (mvO ord 0 (i + 1)) fn Fn) else sfB n sz ord fn Fn i
theorem sfB_le : ∀ i, (sfB n sz ord fn Fn i).1 ≤ i
  | 0 => Nat.le_refl _
  | i + 1 => by
    have := sfB_le i
    unfold sfB
    split
    · exact Nat.le_refl _
    · omega
/-- the order when a variable was sifted -/
noncomputable def sfO (n : Nat) (sz ord : Nat → Nat) (fn : Nat) (Fn : Nat → Nat → Bool) (p : Nat) : Nat → Nat := mvO ord p (sfB n sz (mvO ord p 0) fn Fn (n - 1)).1
theorem c_sift {v : Nat} (hvC : vC S n sz) (hR : dRF S b R n sz ord pl D U fn rt Fn) (hv : v < n) : sM X 6 40 [.ref 52, .int (iI ((v : Nat) : Int))] S (fun r S' => r = none ∧ rQ S b R n sz (sfO n sz ord fn Fn (pl v)) fn rt Fn S') := by
  have hwf := hvC.1
  have hn10 := hwf.1
  have hb58 := hR.1.1.1.1
  have ho := hR.1.2.2.2.2
  have hO := hR.1.2.2.2.1
  obtain ⟨S0, hS0⟩ : ∃ S0, S0 = S := ⟨S, rfl⟩
  have hvC0 : vC S0 n sz := by rw [hS0]; exact hvC
  have hq : ∀ (r : Option Value) (S' : ST), (r = none ∧ rQ S0 b R n sz (sfO n sz ord fn Fn (pl v)) fn rt Fn S') → (r = none ∧ rQ S b R n sz (sfO n sz ord fn Fn (pl v)) fn rt Fn S') := fun r S' h => by rw [← hS0]; exact h
  refine sM.weaken ?_ hq
  clear hq
  have hplv := ho.2 v hv
  refine sIni (ls := [some (.ref 52), some (.int (iI ((v : Nat) : Int))), none, none, none]) rfl ?_
  refine sL (pc' := 1) (i := .aload_n 0) rfl rfl ?_
  refine sL (pc' := 2) (i := .iload_n 1) rfl rfl ?_
  refine sKi (p := 3) rfl rfl ?_
  refine sCvQ (p := 6) (as := [_, _]) rfl rfl rfl rfl (by decide) (Nat.le_of_ble_eq_true rfl) rfl (Nat.le_of_ble_eq_true rfl) (sk_52 _) rfl (by omega) (c_bring (t := 0) hvC hR hv (by omega)) ?_
  rintro _ S1 ⟨rfl, pl1, b1, R1, D1, U1, hR1, hf1⟩
  have hf1 : frD b R S0 b1 R1 S1 := by rw [hS0]; exact hf1
  have hR0 : dRF S1 b1 R1 n sz (mvO (mvO ord (pl v) 0) 0 0) pl1 D1 U1 fn rt Fn := by rw [mvO_p]; exact hR1
  have hl0 := (dRF_live hwf hR0).2.2
  refine sKi (p := 7) rfl rfl ?_
  refine sL (pc' := 8) (i := .istore_n 2) (ls' := [some (.ref 52), some (.int (iI ((v : Nat) : Int))), some (.int (iI 0)), none, none]) rfl rfl ?_
  refine sL (pc' := 9) (i := .aload_n 0) rfl rfl ?_
  refine sGi (p := 12) rfl rfl (sk_52 _) rfl rfl rfl (dRF_live hwf hR0).1 ?_
  refine sL (pc' := 13) (i := .istore_n 3) (ls' := [some (.ref 52), some (.int (iI ((v : Nat) : Int))), some (.int (iI 0)), some (.int (iI ((NN n sz (mvO (mvO ord (pl v) 0) 0 0) fn Fn : Nat) : Int))), none]) rfl rfl ?_
  refine sKi (p := 14) rfl rfl ?_
  refine sL (pc' := 16) (i := .istore 4) (ls' := [some (.ref 52), some (.int (iI ((v : Nat) : Int))), some (.int (iI 0)), some (.int (iI ((NN n sz (mvO (mvO ord (pl v) 0) 0 0) fn Fn : Nat) : Int))), some (.int (iI 1))]) rfl rfl ?_
  refine sItR (A := fun i => [some (.ref 52), some (.int (iI ((v : Nat) : Int))), some (.int (iI (((sfB n sz (mvO ord (pl v) 0) fn Fn i).1 : Nat) : Int))), some (.int (iI (((sfB n sz (mvO ord (pl v) 0) fn Fn i).2 : Nat) : Int))), some (.int (iI (((i : Nat) : Int) + 1)))]) (fun i S => (∃ pl1 b1 R1 D1 U1, dRF S b1 R1 n sz (mvO (mvO ord (pl v) 0) 0 i) pl1 D1 U1 fn rt Fn ∧ frD b R S0 b1 R1 S) ∧ (sfB n sz (mvO ord (pl v) 0) fn Fn i).2 ≤ 8910) (n - 1) (⟨⟨pl1, b1, R1, D1, U1, hR0, hf1⟩, hl0⟩) (fun i hi16 Sa hJ16 ih16 => ?_) (fun Saf hJ16 => ?_)
  · have hi16 := hi16
    obtain ⟨⟨pl3, b3, R3, D3, U3, hRa, hfa⟩, hlb⟩ := hJ16
    refine sL (pc' := 18) (i := .iload 4) rfl rfl ?_
    refine sL (pc' := 19) (i := .aload_n 0) rfl rfl ?_
    refine sGc (p := 22) rfl rfl (sk_52 _) rfl rfl rfl ?_
    refine sGi (p := 25) rfl rfl (sk_1 _) rfl rfl rfl (frD_vC hfa hb58 hvC0).2.1 ?_
    refine sIc_ge (p := 28) rfl rfl ⟨by omega, by omega⟩ ⟨by omega, by omega⟩ (fun c1 => ?_) (fun c1 => ?_)
    · exfalso; omega
    · have c1 := c1
      refine sL (pc' := 29) (i := .aload_n 0) rfl rfl ?_
      refine sL (pc' := 31) (i := .iload 4) rfl rfl ?_
      refine sKi (p := 32) rfl rfl ?_
      refine sSb (p := 33) rfl rfl ?_
      rw [show ((((i : Nat) : Int) + 1) - 1) = (((i : Nat) : Int)) from by omega]
      refine sCvQ (p := 36) (as := [_]) rfl rfl rfl rfl (by decide) (Nat.le_of_ble_eq_true rfl) rfl (Nat.le_of_ble_eq_true rfl) (sk_52 _) rfl (by omega) (c_swapF (p := i) (frD_vC hfa hb58 hvC0) hRa (by omega)) ?_
      rintro _ Sw ⟨rfl, pl2, b2, R2, D2, U2, hR2, hf2⟩
      rw [mv_up] at hR2
      have hl2 := (dRF_live hwf hR2).2.2
      refine sL (pc' := 37) (i := .aload_n 0) rfl rfl ?_
      refine sGi (p := 40) rfl rfl (sk_52 _) rfl rfl rfl (dRF_live hwf hR2).1 ?_
      refine sL (pc' := 41) (i := .iload_n 3) rfl rfl ?_
      refine sIc_ge (p := 44) rfl rfl ⟨by omega, by omega⟩ ⟨by omega, by omega⟩ (fun c2 => ?_) (fun c2 => ?_)
      · have c2 := c2
        have hst : (sfB n sz (mvO ord (pl v) 0) fn Fn (i + 1)) = (sfB n sz (mvO ord (pl v) 0) fn Fn i) := if_neg (by omega)
        refine sInX (z := (((i : Nat) : Int) + 1)) (ls' := [some (.ref 52), some (.int (iI ((v : Nat) : Int))), some (.int (iI (((sfB n sz (mvO ord (pl v) 0) fn Fn i).1 : Nat) : Int))), some (.int (iI (((sfB n sz (mvO ord (pl v) 0) fn Fn i).2 : Nat) : Int))), some (.int (iI ((((i : Nat) : Int) + 1) + 1)))]) (p := 55) rfl rfl (Nat.le_of_ble_eq_true rfl) rfl rfl ?_
        refine sL (i := .goto (-39)) rfl rfl ?_
        refine sFg (ls := [some (.ref 52), some (.int (iI ((v : Nat) : Int))), some (.int (iI (((sfB n sz (mvO ord (pl v) 0) fn Fn (i + 1)).1 : Nat) : Int))), some (.int (iI (((sfB n sz (mvO ord (pl v) 0) fn Fn (i + 1)).2 : Nat) : Int))), some (.int (iI (((i + 1 : Nat) : Int) + 1)))]) (xx_ll_le (And.intro rfl (And.intro rfl (And.intro (congrArg (fun z => some (Value.int z)) (congrArg iI (by first | (rw [hst]; done) | (rw [hst]; rfl)))) (And.intro (congrArg (fun z => some (Value.int z)) (congrArg iI (by rw [hst]))) (And.intro (congrArg (fun z => some (Value.int z)) (congrArg iI (by omega))) (True.intro))))))) (ih16 _ ?_)
        refine ⟨⟨pl2, b2, R2, D2, U2, hR2, frD_trans hfa hf2⟩, ?_⟩
        rw [hst]
        omega
      · have c2 := c2
        have hst : (sfB n sz (mvO ord (pl v) 0) fn Fn (i + 1)) = (i + 1, NN n sz (mvO (mvO ord (pl v) 0) 0 (i + 1)) fn Fn) := if_pos (by omega)
        refine sL (pc' := 45) (i := .aload_n 0) rfl rfl ?_
        refine sGi (p := 48) rfl rfl (sk_52 _) rfl rfl rfl (dRF_live hwf hR2).1 ?_
        refine sL (pc' := 49) (i := .istore_n 3) (ls' := [some (.ref 52), some (.int (iI ((v : Nat) : Int))), some (.int (iI (((sfB n sz (mvO ord (pl v) 0) fn Fn i).1 : Nat) : Int))), some (.int (iI ((NN n sz (mvO (mvO ord (pl v) 0) 0 (i + 1)) fn Fn : Nat) : Int))), some (.int (iI (((i : Nat) : Int) + 1)))]) rfl rfl ?_
        refine sL (pc' := 51) (i := .iload 4) rfl rfl ?_
        refine sL (pc' := 52) (i := .istore_n 2) (ls' := [some (.ref 52), some (.int (iI ((v : Nat) : Int))), some (.int (iI (((i : Nat) : Int) + 1))), some (.int (iI ((NN n sz (mvO (mvO ord (pl v) 0) 0 (i + 1)) fn Fn : Nat) : Int))), some (.int (iI (((i : Nat) : Int) + 1)))]) rfl rfl ?_
        refine sInX (z := (((i : Nat) : Int) + 1)) (ls' := [some (.ref 52), some (.int (iI ((v : Nat) : Int))), some (.int (iI (((i : Nat) : Int) + 1))), some (.int (iI ((NN n sz (mvO (mvO ord (pl v) 0) 0 (i + 1)) fn Fn : Nat) : Int))), some (.int (iI ((((i : Nat) : Int) + 1) + 1)))]) (p := 55) rfl rfl (Nat.le_of_ble_eq_true rfl) rfl rfl ?_
        refine sL (i := .goto (-39)) rfl rfl ?_
        refine sFg (ls := [some (.ref 52), some (.int (iI ((v : Nat) : Int))), some (.int (iI (((sfB n sz (mvO ord (pl v) 0) fn Fn (i + 1)).1 : Nat) : Int))), some (.int (iI (((sfB n sz (mvO ord (pl v) 0) fn Fn (i + 1)).2 : Nat) : Int))), some (.int (iI (((i + 1 : Nat) : Int) + 1)))]) (xx_ll_le (And.intro rfl (And.intro rfl (And.intro (congrArg (fun z => some (Value.int z)) (congrArg iI (by first | (rw [hst]; done) | (rw [hst]; rfl)))) (And.intro (congrArg (fun z => some (Value.int z)) (congrArg iI (by rw [hst]))) (And.intro (congrArg (fun z => some (Value.int z)) (congrArg iI (by omega))) (True.intro))))))) (ih16 _ ?_)
        refine ⟨⟨pl2, b2, R2, D2, U2, hR2, frD_trans hfa hf2⟩, ?_⟩
        rw [hst]
        omega
  · have hJ16 := hJ16
    obtain ⟨⟨pl3, b3, R3, D3, U3, hRf, hff⟩, hlf⟩ := hJ16
    have hsl := sfB_le (n := n) (sz := sz) (ord := (mvO ord (pl v) 0)) (fn := fn) (Fn := Fn) (n - 1)
    have hplf : pl3 v = n - 1 := by
      have h9 := prm_pl hRf.1.2.2.2.2 (by omega)
      rw [mvO_t, hplv.2] at h9
      exact h9
    refine sL (pc' := 18) (i := .iload 4) rfl rfl ?_
    refine sL (pc' := 19) (i := .aload_n 0) rfl rfl ?_
    refine sGc (p := 22) rfl rfl (sk_52 _) rfl rfl rfl ?_
    refine sGi (p := 25) rfl rfl (sk_1 _) rfl rfl rfl (frD_vC hff hb58 hvC0).2.1 ?_
    refine sIc_ge (p := 28) rfl rfl ⟨by omega, by omega⟩ ⟨by omega, by omega⟩ (fun c3 => ?_) (fun c3 => ?_)
    · have c3 := c3
      refine sL (pc' := 59) (i := .aload_n 0) rfl rfl ?_
      refine sL (pc' := 60) (i := .iload_n 1) rfl rfl ?_
      refine sL (pc' := 61) (i := .iload_n 2) rfl rfl ?_
      refine sCvQ (p := 64) (as := [_, _]) rfl rfl rfl rfl (by decide) (Nat.le_of_ble_eq_true rfl) rfl (Nat.le_of_ble_eq_true rfl) (sk_52 _) rfl (by omega) (c_bring (t := (sfB n sz (mvO ord (pl v) 0) fn Fn (n - 1)).1) (frD_vC hff hb58 hvC0) hRf hv (by omega)) ?_
      rintro _ S2 ⟨rfl, pl4, b4, R4, D4, U4, hR4, hf4⟩
      refine sEn (i := .return_) rfl (rfl) ?_
      refine ⟨rfl, pl4, b4, R4, D4, U4, ?_, frD_trans hff hf4⟩
      rw [hplf, mvO_mvO, mvO_mvO] at hR4
      exact hR4
    · exfalso; omega
end EA
