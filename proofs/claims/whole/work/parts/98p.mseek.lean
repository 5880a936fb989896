/-! ===== a good order is sought ===== -/
def plc (n : Nat) (ord : Nat → Nat) (v : Nat) : Nat := fbF (fun p => decide (ord p = v)) n 0
theorem plc_eq {n : Nat} {ord pl : Nat → Nat} (ho : prm n ord pl) {v : Nat} (hv : v < n) : plc n ord v = pl v := by
  have h := ho.2 v hv
  exact fbF_eq h.1 (decide_eq_true h.2) (fun j hj => decide_eq_false (fun z => by
    have h2 := (ho.1 j (by omega)).2
    rw [z] at h2
    omega))
/-- the order when the first variables were sifted -/
noncomputable def skO (n : Nat) (sz ord : Nat → Nat) (fn : Nat) (Fn : Nat → Nat → Bool) : Nat → Nat → Nat
  | 0 => ord
  | v + 1 => sfO n sz (skO n sz ord fn Fn v) fn Fn (plc n (skO n sz ord fn Fn v) v)
theorem sfB_2 {n : Nat} {sz ord : Nat → Nat} {fn : Nat} {Fn : Nat → Nat → Bool} : ∀ i, (sfB n sz ord fn Fn i).2 = NN n sz (mvO ord 0 (sfB n sz ord fn Fn i).1) fn Fn
  | 0 => rfl
  | i + 1 => by
    have ih := sfB_2 (n := n) (sz := sz) (ord := ord) (fn := fn) (Fn := Fn) i
    unfold sfB
    split
    · rfl
    · exact ih
noncomputable def skB (n : Nat) (sz ord : Nat → Nat) (fn : Nat) (Fn : Nat → Nat → Bool) (p : Nat) : Nat → Nat × Nat
  | 0 => (0, NN n sz ord fn Fn)
  | k + 1 => sfB n sz (mvO ord p 0) fn Fn k
def mkO (ord : Nat → Nat) (p : Nat) : Nat → Nat → Nat
  | 0 => ord
  | k + 1 => mvO ord p k
section M11
variable {X : List Int32} {S : ST} {n : Nat} {sz ord pl : Nat → Nat} {fn : Nat} {Fn : Nat → Nat → Bool}
theorem sf_prm {p : Nat} (ho : prm n ord pl) (hp : p < n) : ∃ pl', prm n (sfO n sz ord fn Fn p) pl' := mv_prm (pl' := pl) ho hp (by
  have := sfB_le (n := n) (sz := sz) (ord := mvO ord p 0) (fn := fn) (Fn := Fn) (n - 1)
  omega)
theorem sk_prm (ho : prm n ord pl) : ∀ {v : Nat}, v ≤ n → ∃ pl', prm n (skO n sz ord fn Fn v) pl'
  | 0, _ => ⟨pl, ho⟩
  | v + 1, hv => by
    obtain ⟨pl1, h1⟩ := sk_prm ho (v := v) (by omega)
    exact sf_prm h1 (by rw [plc_eq h1 (by omega)]; exact (h1.2 v (by omega)).1)
theorem skB_le {p : Nat} : ∀ k, (skB n sz ord fn Fn p k).1 ≤ k - 1
  | 0 => Nat.le_refl _
  | k + 1 => sfB_le k
theorem mk_prm {p : Nat} (ho : prm n ord pl) (hp : p < n) : ∀ {k : Nat}, k ≤ n → ∃ pl', prm n (mkO ord p k) pl'
  | 0, _ => ⟨pl, ho⟩
  | k + 1, hk => mv_prm (pl' := pl) ho hp (by omega)
theorem mk_step {p k v : Nat} {pl' : Nat → Nat} (hv : ord p = v) (hp : p < n) (hk : k ≤ n) (ho : prm n ord pl) (h : prm n (mkO ord p k) pl') : mvO (mkO ord p k) (pl' v) k = mvO ord p k := by
  cases k with
  | zero =>
    have h1 : prm n ord pl' := h
    have h2 := (h1.1 p hp).2
    rw [hv] at h2
    rw [h2]
    rfl
  | succ k =>
    have h1 : prm n (mvO ord p k) pl' := h
    have h2 := prm_pl h1 (by omega)
    rw [hv] at h2
    rw [h2]
    show mvO (mvO ord p k) k (k + 1) = _
    rw [mvO_mvO]
theorem m_seek (hv : vM S n sz) (hoM : oM S n ord) (ho : prm n ord pl) (hfn : SI S 179 9 = (fn : Nat)) (h40 : fn ≤ 40) (hF : ∀ i, i < fn → rowS S 185 (16 * i) (Fn i)) (htb : ∀ i, i < fn → tbT (pr sz n) (Fn i)) : sM X 6 248 [.ref 179] S (fun r S' => r = some (.int (iI ((NN n sz (skO n sz ord fn Fn n) fn Fn : Nat) : Int))) ∧ frM S S' ∧ oM S' n (skO n sz ord fn Fn n) ∧ SI S' 179 42 = -1) := by
  have hn := hv.1.1
  have hT0 := hv.1.2.2
  have hwf := hv.1
  obtain ⟨S0, hS0⟩ : ∃ S0, S0 = S := ⟨S, rfl⟩
  have hq : ∀ (r : Option Value) (S' : ST), (r = some (.int (iI ((NN n sz (skO n sz ord fn Fn n) fn Fn : Nat) : Int))) ∧ frM S0 S' ∧ oM S' n (skO n sz ord fn Fn n) ∧ SI S' 179 42 = -1) → (r = some (.int (iI ((NN n sz (skO n sz ord fn Fn n) fn Fn : Nat) : Int))) ∧ frM S S' ∧ oM S' n (skO n sz ord fn Fn n) ∧ SI S' 179 42 = -1) := fun r S' h => by rw [← hS0]; exact h
  refine sM.weaken ?_ hq
  clear hq
  have hN0 := (NN_ok hwf ho h40 htb).2
  refine sIni (ls := [some (.ref 179), none, none, none, none, none]) rfl ?_
  refine sL (pc' := 1) (i := .aload_n 0) rfl rfl ?_
  refine sCvQ (p := 4) (as := []) rfl rfl rfl rfl (by decide) (Nat.le_of_ble_eq_true rfl) rfl (Nat.le_of_ble_eq_true rfl) (sk_179 _) rfl (by omega) (m_sizeAll hv hoM ho hfn h40 hF htb) ?_
  rintro _ Sz ⟨rfl, hfz⟩
  refine sL (pc' := 5) (i := .istore_n 1) (ls' := [some (.ref 179), some (.int (iI ((NN n sz ord fn Fn : Nat) : Int))), none, none, none, none]) rfl rfl ?_
  refine sL (pc' := 6) (i := .aload_n 0) rfl rfl ?_
  refine sKi (p := 7) rfl rfl ?_
  refine sPi (z := (-1)) (p := 10) rfl rfl (sk_179 _) rfl rfl rfl rfl ?_
  refine sKi (p := 11) rfl rfl ?_
  refine sL (pc' := 12) (i := .istore_n 2) (ls' := [some (.ref 179), some (.int (iI ((NN n sz ord fn Fn : Nat) : Int))), some (.int (iI 0)), none, none, none]) rfl rfl ?_
  refine sItR (A := fun v => [some (.ref 179), some (.int (iI ((NN n sz (skO n sz ord fn Fn v) fn Fn : Nat) : Int))), some (.int (iI ((v : Nat) : Int))), none, none, none]) (fun v S => oM S n (skO n sz ord fn Fn v) ∧ vM S n sz ∧ SI S 179 9 = ((fn : Nat) : Int) ∧ (∀ i, i < fn → rowS S 185 (16 * i) (Fn i)) ∧ SI S 179 42 = -1 ∧ frM S0 S ∧ NN n sz (skO n sz ord fn Fn v) fn Fn ≤ 8910) n (⟨fun q hq => (rI_ne (by decide) _).trans (frG_oM hfz hoM q hq), frM_vM frM_42 (frG_vM hfz hv), (rI_nj (by decide)).trans ((hfz.2.2.2.2 9 (by decide)).trans hfn), fun i hi => (show rowS Sz 185 (16 * i) (Fn i) from frG_row hfz (by decide) (by decide) (hF i hi)), rI_at, by rw [hS0]; exact frM_trans (frM_G hfz) frM_42, hN0⟩) (fun v hi12 Sa hJ12 ih12 => ?_) (fun Saf hJ12 => ?_)
  · have hi12 := hi12
    obtain ⟨hoa, hva, hfa9, hFa, h42a, hfa, hna⟩ := hJ12
    obtain ⟨pl1, hpl1⟩ := sk_prm (sz := sz) (fn := fn) (Fn := Fn) ho (v := v) (by omega)
    have hpe := plc_eq hpl1 hi12
    have hpvn : (plc n (skO n sz ord fn Fn v) v) < n := by rw [hpe]; exact (hpl1.2 v hi12).1
    have hpvo : (skO n sz ord fn Fn v) (plc n (skO n sz ord fn Fn v) v) = v := by rw [hpe]; exact (hpl1.2 v hi12).2
    refine sL (pc' := 13) (i := .iload_n 2) rfl rfl ?_
    refine sL (pc' := 14) (i := .aload_n 0) rfl rfl ?_
    refine sGi (p := 17) rfl rfl (sk_179 _) rfl rfl rfl hva.2.1 ?_
    refine sIc_ge (p := 20) rfl rfl ⟨by omega, by omega⟩ ⟨by omega, by omega⟩ (fun c1 => ?_) (fun c1 => ?_)
    · exfalso; omega
    · have c1 := c1
      refine sKi (p := 21) rfl rfl ?_
      refine sL (pc' := 22) (i := .istore_n 3) (ls' := [some (.ref 179), some (.int (iI ((NN n sz (skO n sz ord fn Fn v) fn Fn : Nat) : Int))), some (.int (iI ((v : Nat) : Int))), some (.int (iI 0)), none, none]) rfl rfl ?_
      refine sKi (p := 23) rfl rfl ?_
      refine sL (pc' := 25) (i := .istore 4) (ls' := [some (.ref 179), some (.int (iI ((NN n sz (skO n sz ord fn Fn v) fn Fn : Nat) : Int))), some (.int (iI ((v : Nat) : Int))), some (.int (iI 0)), some (.int (iI 0)), none]) rfl rfl ?_
      refine sItR (A := fun k => [some (.ref 179), some (.int (iI (((skB n sz (skO n sz ord fn Fn v) fn Fn (plc n (skO n sz ord fn Fn v) v) k).2 : Nat) : Int))), some (.int (iI ((v : Nat) : Int))), some (.int (iI (((skB n sz (skO n sz ord fn Fn v) fn Fn (plc n (skO n sz ord fn Fn v) v) k).1 : Nat) : Int))), some (.int (iI ((k : Nat) : Int))), none]) (fun k S => oM S n (mkO (skO n sz ord fn Fn v) (plc n (skO n sz ord fn Fn v) v) k) ∧ vM S n sz ∧ SI S 179 9 = ((fn : Nat) : Int) ∧ (∀ i, i < fn → rowS S 185 (16 * i) (Fn i)) ∧ SI S 179 42 = -1 ∧ frM S0 S ∧ (skB n sz (skO n sz ord fn Fn v) fn Fn (plc n (skO n sz ord fn Fn v) v) k).2 ≤ 8910) n (⟨hoa, hva, hfa9, hFa, h42a, hfa, hna⟩) (fun k hi25 Sb hJ25 ih25 => ?_) (fun Sbf hJ25 => ?_)
      · have hi25 := hi25
        obtain ⟨hob, hvb, hfb9, hFb, h42b, hfb, hnb⟩ := hJ25
        obtain ⟨plb, hplb⟩ := mk_prm (k := k) hpl1 hpvn (by omega)
        obtain ⟨pl9, hpl9⟩ := mv_prm (pl' := pl) (t := k) hpl1 hpvn hi25
        have hN9 := (NN_ok hwf hpl9 h40 htb).2
        refine sL (pc' := 27) (i := .iload 4) rfl rfl ?_
        refine sL (pc' := 28) (i := .aload_n 0) rfl rfl ?_
        refine sGi (p := 31) rfl rfl (sk_179 _) rfl rfl rfl hvb.2.1 ?_
        refine sIc_ge (p := 34) rfl rfl ⟨by omega, by omega⟩ ⟨by omega, by omega⟩ (fun c2 => ?_) (fun c2 => ?_)
        · exfalso; omega
        · have c2 := c2
          refine sL (pc' := 35) (i := .aload_n 0) rfl rfl ?_
          refine sL (pc' := 36) (i := .iload_n 2) rfl rfl ?_
          refine sL (pc' := 38) (i := .iload 4) rfl rfl ?_
          refine sCv (p := 41) (as := [_, _]) rfl rfl rfl rfl (by decide) (Nat.le_of_ble_eq_true rfl) rfl (Nat.le_of_ble_eq_true rfl) (sk_179 _) rfl (by omega) (m_bring (t := k) hvb hob hplb hi12 hi25) ?_
          refine sL (pc' := 42) (i := .aload_n 0) rfl rfl ?_
          refine sCvQ (p := 45) (as := []) rfl rfl rfl rfl (by decide) (Nat.le_of_ble_eq_true rfl) rfl (Nat.le_of_ble_eq_true rfl) (sk_179 _) rfl (by omega) (m_sizeAll (brS_vM hvb) (by have h9 := brS_o hob (hplb.2 v hi12).1 hi25 (hplb.2 v hi12).2 ; rw [mk_step hpvo hpvn (by omega) hpl1 hplb] at h9; exact h9) hpl9 ((congrFun (brS_ne (by decide)) 9).trans hfb9) h40 (fun i hi => hFb i hi) htb) ?_
          rintro _ Sy ⟨rfl, hfy⟩
          refine sL (pc' := 47) (i := .istore 5) (ls' := [some (.ref 179), some (.int (iI (((skB n sz (skO n sz ord fn Fn v) fn Fn (plc n (skO n sz ord fn Fn v) v) k).2 : Nat) : Int))), some (.int (iI ((v : Nat) : Int))), some (.int (iI (((skB n sz (skO n sz ord fn Fn v) fn Fn (plc n (skO n sz ord fn Fn v) v) k).1 : Nat) : Int))), some (.int (iI ((k : Nat) : Int))), some (.int (iI ((NN n sz (mvO (skO n sz ord fn Fn v) (plc n (skO n sz ord fn Fn v) v) k) fn Fn : Nat) : Int)))]) rfl rfl ?_
          refine sL (pc' := 49) (i := .iload 4) rfl rfl ?_
          refine sIf_eq (p := 52) rfl rfl ⟨by omega, by omega⟩ (fun c3 => ?_) (fun c3 => ?_)
          · have c3 := c3
            have hst : (skB n sz (skO n sz ord fn Fn v) fn Fn (plc n (skO n sz ord fn Fn v) v) (k + 1)) = (k, NN n sz (mvO (skO n sz ord fn Fn v) (plc n (skO n sz ord fn Fn v) v) k) fn Fn) := by
              obtain rfl : k = 0 := by omega
              show (0, NN n sz (mvO (mvO (skO n sz ord fn Fn v) (plc n (skO n sz ord fn Fn v) v) 0) 0 0) fn Fn) = _
              rw [mvO_mvO]
            refine sL (pc' := 60) (i := .iload 5) rfl rfl ?_
            refine sL (pc' := 61) (i := .istore_n 1) (ls' := [some (.ref 179), some (.int (iI ((NN n sz (mvO (skO n sz ord fn Fn v) (plc n (skO n sz ord fn Fn v) v) k) fn Fn : Nat) : Int))), some (.int (iI ((v : Nat) : Int))), some (.int (iI (((skB n sz (skO n sz ord fn Fn v) fn Fn (plc n (skO n sz ord fn Fn v) v) k).1 : Nat) : Int))), some (.int (iI ((k : Nat) : Int))), some (.int (iI ((NN n sz (mvO (skO n sz ord fn Fn v) (plc n (skO n sz ord fn Fn v) v) k) fn Fn : Nat) : Int)))]) rfl rfl ?_
            refine sL (pc' := 63) (i := .iload 4) rfl rfl ?_
            refine sL (pc' := 64) (i := .istore_n 3) (ls' := [some (.ref 179), some (.int (iI ((NN n sz (mvO (skO n sz ord fn Fn v) (plc n (skO n sz ord fn Fn v) v) k) fn Fn : Nat) : Int))), some (.int (iI ((v : Nat) : Int))), some (.int (iI ((k : Nat) : Int))), some (.int (iI ((k : Nat) : Int))), some (.int (iI ((NN n sz (mvO (skO n sz ord fn Fn v) (plc n (skO n sz ord fn Fn v) v) k) fn Fn : Nat) : Int)))]) rfl rfl ?_
            refine sInX (z := ((k : Nat) : Int)) (ls' := [some (.ref 179), some (.int (iI ((NN n sz (mvO (skO n sz ord fn Fn v) (plc n (skO n sz ord fn Fn v) v) k) fn Fn : Nat) : Int))), some (.int (iI ((v : Nat) : Int))), some (.int (iI ((k : Nat) : Int))), some (.int (iI (((k : Nat) : Int) + 1))), some (.int (iI ((NN n sz (mvO (skO n sz ord fn Fn v) (plc n (skO n sz ord fn Fn v) v) k) fn Fn : Nat) : Int)))]) (p := 67) rfl rfl (Nat.le_of_ble_eq_true rfl) rfl rfl ?_
            refine sL (i := .goto (-42)) rfl rfl ?_
            refine sFg (ls := [some (.ref 179), some (.int (iI (((skB n sz (skO n sz ord fn Fn v) fn Fn (plc n (skO n sz ord fn Fn v) v) (k + 1)).2 : Nat) : Int))), some (.int (iI ((v : Nat) : Int))), some (.int (iI (((skB n sz (skO n sz ord fn Fn v) fn Fn (plc n (skO n sz ord fn Fn v) v) (k + 1)).1 : Nat) : Int))), some (.int (iI ((k + 1 : Nat) : Int))), none]) (xx_ll_le (And.intro rfl (And.intro (congrArg (fun z => some (Value.int z)) (congrArg iI (by rw [hst]))) (And.intro rfl (And.intro (congrArg (fun z => some (Value.int z)) (congrArg iI (by rw [hst]))) (And.intro rfl (True.intro))))))) (ih25 _ ?_)
            have h9 := brS_o hob (hplb.2 v hi12).1 hi25 (hplb.2 v hi12).2
            rw [mk_step hpvo hpvn (by omega) hpl1 hplb] at h9
            refine ⟨frG_oM hfy h9, frG_vM hfy (brS_vM hvb), (hfy.2.2.2.2 9 (by decide)).trans ((congrFun (brS_ne (by decide)) 9).trans hfb9), fun i hi => frG_row hfy (by decide) (by decide) (hFb i hi), (hfy.2.2.2.2 42 (by decide)).trans ((congrFun (brS_ne (by decide)) 42).trans h42b), frM_trans hfb (frM_trans frM_br (frM_G hfy)), ?_⟩
            rw [hst]
            first | exact hN9 | exact hnb
          · have c3 := c3
            refine sL (pc' := 54) (i := .iload 5) rfl rfl ?_
            refine sL (pc' := 55) (i := .iload_n 1) rfl rfl ?_
            refine sIc_ge (p := 58) rfl rfl ⟨by omega, by omega⟩ ⟨by omega, by omega⟩ (fun c4 => ?_) (fun c4 => ?_)
            · have c4 := c4
              have hst : (skB n sz (skO n sz ord fn Fn v) fn Fn (plc n (skO n sz ord fn Fn v) v) (k + 1)) = (skB n sz (skO n sz ord fn Fn v) fn Fn (plc n (skO n sz ord fn Fn v) v) k) := by
                obtain ⟨k2, rfl⟩ : ∃ k2, k = k2 + 1 := ⟨k - 1, by omega⟩
                show (if NN n sz (mvO (mvO (skO n sz ord fn Fn v) (plc n (skO n sz ord fn Fn v) v) 0) 0 (k2 + 1)) fn Fn < (sfB n sz (mvO (skO n sz ord fn Fn v) (plc n (skO n sz ord fn Fn v) v) 0) fn Fn k2).2 then _ else sfB n sz (mvO (skO n sz ord fn Fn v) (plc n (skO n sz ord fn Fn v) v) 0) fn Fn k2) = sfB n sz (mvO (skO n sz ord fn Fn v) (plc n (skO n sz ord fn Fn v) v) 0) fn Fn k2
                rw [mvO_mvO, if_neg (by have h8 : ((NN n sz (mvO (skO n sz ord fn Fn v) (plc n (skO n sz ord fn Fn v) v) (k2 + 1)) fn Fn : Nat) : Int) ≥ (((sfB n sz (mvO (skO n sz ord fn Fn v) (plc n (skO n sz ord fn Fn v) v) 0) fn Fn k2).2 : Nat) : Int) := c4; omega)]
              refine sInX (z := ((k : Nat) : Int)) (ls' := [some (.ref 179), some (.int (iI (((skB n sz (skO n sz ord fn Fn v) fn Fn (plc n (skO n sz ord fn Fn v) v) k).2 : Nat) : Int))), some (.int (iI ((v : Nat) : Int))), some (.int (iI (((skB n sz (skO n sz ord fn Fn v) fn Fn (plc n (skO n sz ord fn Fn v) v) k).1 : Nat) : Int))), some (.int (iI (((k : Nat) : Int) + 1))), some (.int (iI ((NN n sz (mvO (skO n sz ord fn Fn v) (plc n (skO n sz ord fn Fn v) v) k) fn Fn : Nat) : Int)))]) (p := 67) rfl rfl (Nat.le_of_ble_eq_true rfl) rfl rfl ?_
              refine sL (i := .goto (-42)) rfl rfl ?_
              refine sFg (ls := [some (.ref 179), some (.int (iI (((skB n sz (skO n sz ord fn Fn v) fn Fn (plc n (skO n sz ord fn Fn v) v) (k + 1)).2 : Nat) : Int))), some (.int (iI ((v : Nat) : Int))), some (.int (iI (((skB n sz (skO n sz ord fn Fn v) fn Fn (plc n (skO n sz ord fn Fn v) v) (k + 1)).1 : Nat) : Int))), some (.int (iI ((k + 1 : Nat) : Int))), none]) (xx_ll_le (And.intro rfl (And.intro (congrArg (fun z => some (Value.int z)) (congrArg iI (by rw [hst]))) (And.intro rfl (And.intro (congrArg (fun z => some (Value.int z)) (congrArg iI (by rw [hst]))) (And.intro rfl (True.intro))))))) (ih25 _ ?_)
              have h9 := brS_o hob (hplb.2 v hi12).1 hi25 (hplb.2 v hi12).2
              rw [mk_step hpvo hpvn (by omega) hpl1 hplb] at h9
              refine ⟨frG_oM hfy h9, frG_vM hfy (brS_vM hvb), (hfy.2.2.2.2 9 (by decide)).trans ((congrFun (brS_ne (by decide)) 9).trans hfb9), fun i hi => frG_row hfy (by decide) (by decide) (hFb i hi), (hfy.2.2.2.2 42 (by decide)).trans ((congrFun (brS_ne (by decide)) 42).trans h42b), frM_trans hfb (frM_trans frM_br (frM_G hfy)), ?_⟩
              rw [hst]
              first | exact hN9 | exact hnb
            · have c4 := c4
              have hst : (skB n sz (skO n sz ord fn Fn v) fn Fn (plc n (skO n sz ord fn Fn v) v) (k + 1)) = (k, NN n sz (mvO (skO n sz ord fn Fn v) (plc n (skO n sz ord fn Fn v) v) k) fn Fn) := by
                obtain ⟨k2, rfl⟩ : ∃ k2, k = k2 + 1 := ⟨k - 1, by omega⟩
                show (if NN n sz (mvO (mvO (skO n sz ord fn Fn v) (plc n (skO n sz ord fn Fn v) v) 0) 0 (k2 + 1)) fn Fn < (sfB n sz (mvO (skO n sz ord fn Fn v) (plc n (skO n sz ord fn Fn v) v) 0) fn Fn k2).2 then (k2 + 1, NN n sz (mvO (mvO (skO n sz ord fn Fn v) (plc n (skO n sz ord fn Fn v) v) 0) 0 (k2 + 1)) fn Fn) else _) = _
                rw [mvO_mvO, if_pos (by have h8 : ((NN n sz (mvO (skO n sz ord fn Fn v) (plc n (skO n sz ord fn Fn v) v) (k2 + 1)) fn Fn : Nat) : Int) < (((sfB n sz (mvO (skO n sz ord fn Fn v) (plc n (skO n sz ord fn Fn v) v) 0) fn Fn k2).2 : Nat) : Int) := c4; omega)]
              refine sL (pc' := 60) (i := .iload 5) rfl rfl ?_
              refine sL (pc' := 61) (i := .istore_n 1) (ls' := [some (.ref 179), some (.int (iI ((NN n sz (mvO (skO n sz ord fn Fn v) (plc n (skO n sz ord fn Fn v) v) k) fn Fn : Nat) : Int))), some (.int (iI ((v : Nat) : Int))), some (.int (iI (((skB n sz (skO n sz ord fn Fn v) fn Fn (plc n (skO n sz ord fn Fn v) v) k).1 : Nat) : Int))), some (.int (iI ((k : Nat) : Int))), some (.int (iI ((NN n sz (mvO (skO n sz ord fn Fn v) (plc n (skO n sz ord fn Fn v) v) k) fn Fn : Nat) : Int)))]) rfl rfl ?_
              refine sL (pc' := 63) (i := .iload 4) rfl rfl ?_
              refine sL (pc' := 64) (i := .istore_n 3) (ls' := [some (.ref 179), some (.int (iI ((NN n sz (mvO (skO n sz ord fn Fn v) (plc n (skO n sz ord fn Fn v) v) k) fn Fn : Nat) : Int))), some (.int (iI ((v : Nat) : Int))), some (.int (iI ((k : Nat) : Int))), some (.int (iI ((k : Nat) : Int))), some (.int (iI ((NN n sz (mvO (skO n sz ord fn Fn v) (plc n (skO n sz ord fn Fn v) v) k) fn Fn : Nat) : Int)))]) rfl rfl ?_
              refine sInX (z := ((k : Nat) : Int)) (ls' := [some (.ref 179), some (.int (iI ((NN n sz (mvO (skO n sz ord fn Fn v) (plc n (skO n sz ord fn Fn v) v) k) fn Fn : Nat) : Int))), some (.int (iI ((v : Nat) : Int))), some (.int (iI ((k : Nat) : Int))), some (.int (iI (((k : Nat) : Int) + 1))), some (.int (iI ((NN n sz (mvO (skO n sz ord fn Fn v) (plc n (skO n sz ord fn Fn v) v) k) fn Fn : Nat) : Int)))]) (p := 67) rfl rfl (Nat.le_of_ble_eq_true rfl) rfl rfl ?_
              refine sL (i := .goto (-42)) rfl rfl ?_
              refine sFg (ls := [some (.ref 179), some (.int (iI (((skB n sz (skO n sz ord fn Fn v) fn Fn (plc n (skO n sz ord fn Fn v) v) (k + 1)).2 : Nat) : Int))), some (.int (iI ((v : Nat) : Int))), some (.int (iI (((skB n sz (skO n sz ord fn Fn v) fn Fn (plc n (skO n sz ord fn Fn v) v) (k + 1)).1 : Nat) : Int))), some (.int (iI ((k + 1 : Nat) : Int))), none]) (xx_ll_le (And.intro rfl (And.intro (congrArg (fun z => some (Value.int z)) (congrArg iI (by rw [hst]))) (And.intro rfl (And.intro (congrArg (fun z => some (Value.int z)) (congrArg iI (by rw [hst]))) (And.intro rfl (True.intro))))))) (ih25 _ ?_)
              have h9 := brS_o hob (hplb.2 v hi12).1 hi25 (hplb.2 v hi12).2
              rw [mk_step hpvo hpvn (by omega) hpl1 hplb] at h9
              refine ⟨frG_oM hfy h9, frG_vM hfy (brS_vM hvb), (hfy.2.2.2.2 9 (by decide)).trans ((congrFun (brS_ne (by decide)) 9).trans hfb9), fun i hi => frG_row hfy (by decide) (by decide) (hFb i hi), (hfy.2.2.2.2 42 (by decide)).trans ((congrFun (brS_ne (by decide)) 42).trans h42b), frM_trans hfb (frM_trans frM_br (frM_G hfy)), ?_⟩
              rw [hst]
              first | exact hN9 | exact hnb
      · have hJ25 := hJ25
        obtain ⟨hoc, hvc, hfc9, hFc, h42c, hfc, hnc⟩ := hJ25
        obtain ⟨plc9, hplc⟩ := mk_prm (k := n) hpl1 hpvn (Nat.le_refl n)
        have hskl := skB_le (n := n) (sz := sz) (ord := (skO n sz ord fn Fn v)) (fn := fn) (Fn := Fn) (p := (plc n (skO n sz ord fn Fn v) v)) n
        have hsk9 : mvO (mkO (skO n sz ord fn Fn v) (plc n (skO n sz ord fn Fn v) v) n) (plc9 v) (skB n sz (skO n sz ord fn Fn v) fn Fn (plc n (skO n sz ord fn Fn v) v) n).1 = (skO n sz ord fn Fn (v + 1)) := by
          obtain ⟨n1, hn1⟩ : ∃ n1, n = n1 + 1 := ⟨n - 1, by omega⟩
          have h8 : mkO (skO n sz ord fn Fn v) (plc n (skO n sz ord fn Fn v) v) n = mvO (skO n sz ord fn Fn v) (plc n (skO n sz ord fn Fn v) v) (n - 1) := by
            have e9 : ∀ m, m = (m - 1) + 1 → mkO (skO n sz ord fn Fn v) (plc n (skO n sz ord fn Fn v) v) m = mvO (skO n sz ord fn Fn v) (plc n (skO n sz ord fn Fn v) v) (m - 1) := fun m hm => by rw [hm]; rfl
            exact e9 n (by omega)
          rw [h8] at hplc ⊢
          have h7 := prm_pl hplc (by omega)
          rw [hpvo] at h7
          rw [h7, mvO_mvO]
          have e8 : ∀ m, m = (m - 1) + 1 → (skB n sz (skO n sz ord fn Fn v) fn Fn (plc n (skO n sz ord fn Fn v) v) m) = sfB n sz (mvO (skO n sz ord fn Fn v) (plc n (skO n sz ord fn Fn v) v) 0) fn Fn (m - 1) := fun m hm => by rw [hm]; rfl
          rw [e8 n (by omega)]
          rfl
        have hst9 : (skB n sz (skO n sz ord fn Fn v) fn Fn (plc n (skO n sz ord fn Fn v) v) n).2 = NN n sz (skO n sz ord fn Fn (v + 1)) fn Fn := by
          have e8 : ∀ m, m = (m - 1) + 1 → (skB n sz (skO n sz ord fn Fn v) fn Fn (plc n (skO n sz ord fn Fn v) v) m) = sfB n sz (mvO (skO n sz ord fn Fn v) (plc n (skO n sz ord fn Fn v) v) 0) fn Fn (m - 1) := fun m hm => by rw [hm]; rfl
          rw [e8 n (by omega), sfB_2, mvO_mvO]
          rfl
        refine sL (pc' := 27) (i := .iload 4) rfl rfl ?_
        refine sL (pc' := 28) (i := .aload_n 0) rfl rfl ?_
        refine sGi (p := 31) rfl rfl (sk_179 _) rfl rfl rfl hvc.2.1 ?_
        refine sIc_ge (p := 34) rfl rfl ⟨by omega, by omega⟩ ⟨by omega, by omega⟩ (fun c5 => ?_) (fun c5 => ?_)
        · have c5 := c5
          refine sL (pc' := 71) (i := .aload_n 0) rfl rfl ?_
          refine sL (pc' := 72) (i := .iload_n 2) rfl rfl ?_
          refine sL (pc' := 73) (i := .iload_n 3) rfl rfl ?_
          refine sCv (p := 76) (as := [_, _]) rfl rfl rfl rfl (by decide) (Nat.le_of_ble_eq_true rfl) rfl (Nat.le_of_ble_eq_true rfl) (sk_179 _) rfl (by omega) (m_bring (t := (skB n sz (skO n sz ord fn Fn v) fn Fn (plc n (skO n sz ord fn Fn v) v) n).1) hvc hoc hplc hi12 (by omega)) ?_
          refine sInX (z := ((v : Nat) : Int)) (ls' := [some (.ref 179), some (.int (iI (((skB n sz (skO n sz ord fn Fn v) fn Fn (plc n (skO n sz ord fn Fn v) v) n).2 : Nat) : Int))), some (.int (iI (((v : Nat) : Int) + 1))), some (.int (iI (((skB n sz (skO n sz ord fn Fn v) fn Fn (plc n (skO n sz ord fn Fn v) v) n).1 : Nat) : Int))), some (.int (iI ((n : Nat) : Int))), none]) (p := 79) rfl rfl (Nat.le_of_ble_eq_true rfl) rfl rfl ?_
          refine sL (i := .goto (-67)) rfl rfl ?_
          refine sFg (ls := [some (.ref 179), some (.int (iI ((NN n sz (skO n sz ord fn Fn (v + 1)) fn Fn : Nat) : Int))), some (.int (iI ((v + 1 : Nat) : Int))), none, none, none]) (xx_ll_le (And.intro rfl (And.intro (congrArg (fun z => some (Value.int z)) (congrArg iI (by rw [hst9]))) (And.intro rfl (True.intro))))) (ih12 _ ?_)
          refine ⟨?_, frM_vM frM_br hvc, (congrFun (brS_ne (by decide)) 9).trans hfc9, fun i hi => hFc i hi, (congrFun (brS_ne (by decide)) 42).trans h42c, frM_trans hfc frM_br, ?_⟩
          · have h9 := brS_o (v := v) (t := (skB n sz (skO n sz ord fn Fn v) fn Fn (plc n (skO n sz ord fn Fn v) v) n).1) hoc (hplc.2 v hi12).1 (by omega) (hplc.2 v hi12).2
            rw [hsk9] at h9
            exact h9
          · rw [← hst9]; exact hnc
        · exfalso; omega
  · have hJ12 := hJ12
    obtain ⟨hof, hvf, hff9, hFf, h42f, hff, hnf⟩ := hJ12
    refine sL (pc' := 13) (i := .iload_n 2) rfl rfl ?_
    refine sL (pc' := 14) (i := .aload_n 0) rfl rfl ?_
    refine sGi (p := 17) rfl rfl (sk_179 _) rfl rfl rfl hvf.2.1 ?_
    refine sIc_ge (p := 20) rfl rfl ⟨by omega, by omega⟩ ⟨by omega, by omega⟩ (fun c6 => ?_) (fun c6 => ?_)
    · have c6 := c6
      refine sL (pc' := 83) (i := .iload_n 1) rfl rfl ?_
      refine sEn (i := .ireturn) rfl (rfl) ?_
      exact ⟨rfl, hff, hof, h42f⟩
    · exfalso; omega
end M11
