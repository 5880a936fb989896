/-! ===== the diagram: the nodes of a function numbered ===== -/
theorem addN_same {T c j : Nat} {L : Nat → Nat → Bool} {g : Nat → Bool} (hj : j < c) (h : L j = g) : addN T c L g = (c, L) := by
  unfold addN
  by_cases c1 : lfv T g ≠ -1
  · rw [if_pos c1]
  · rw [if_neg c1]
    have h1 := fbF_ok (fun i => eqW (L i) g) c 0
    have h2 : fbF (fun i => eqW (L i) g) c 0 < c := Classical.byContradiction fun c2 => by
      have h3 := h1.2.1 j (by omega) (by omega)
      rw [h, eqW_refl] at h3
      exact absurd h3 (by decide)
    rw [if_pos h2]
theorem addN_leaf {T c : Nat} {L : Nat → Nat → Bool} {g : Nat → Bool} (h : lfv T g ≠ -1) : addN T c L g = (c, L) := if_pos h
def lup (L : Nat → Nat → Bool) (c : Nat) (g : Nat → Bool) : Nat → Nat → Bool := fun i => if i = c then g else L i
theorem lup_at {L : Nat → Nat → Bool} {c : Nat} {g : Nat → Bool} : lup L c g c = g := if_pos rfl
theorem lup_ne {L : Nat → Nat → Bool} {c i : Nat} {g : Nat → Bool} (h : i ≠ c) : lup L c g i = L i := if_neg h
theorem addN_new {T c : Nat} {L : Nat → Nat → Bool} {g : Nat → Bool} (h : lfv T g = -1) (hn : ∀ j, j < c → eqW (L j) g = false) : addN T c L g = (c + 1, lup L c g) := by
  unfold addN
  rw [if_neg (fun z => z h), if_neg (by rw [nM_no hn]; omega)]
  rfl
/-- the list of a function: how many nodes -/
noncomputable def NF (n : Nat) (sz ord : Nat → Nat) (g : Nat → Bool) : Nat := Classical.epsilon (fun N => bEnd n sz ord (addN (pr sz n) 0 L0 g).1 (addN (pr sz n) 0 L0 g).2 N)
noncomputable def LF (n : Nat) (sz ord : Nat → Nat) (g : Nat → Bool) : Nat → Nat → Bool := (bfs n sz ord (addN (pr sz n) 0 L0 g).1 (addN (pr sz n) 0 L0 g).2 (NF n sz ord g)).2
def frQ (b : Nat) (S S' : ST) : Prop := S'.1 = S.1 ∧ SR S' = SR S ∧ SL S' = SL S ∧ (∀ c, c ≠ b + 3 → c ≠ b + 4 → SI S' c = SI S c)
theorem frQ_refl (b : Nat) (S : ST) : frQ b S S := ⟨rfl, rfl, rfl, fun _ _ _ => rfl⟩
theorem frQ_trans {b : Nat} {A B C : ST} (h : frQ b A B) (k : frQ b B C) : frQ b A C := ⟨k.1.trans h.1, k.2.1.trans h.2.1, k.2.2.1.trans h.2.2.1, fun c h1 h2 => (k.2.2.2 c h1 h2).trans (h.2.2.2 c h1 h2)⟩
theorem frQ_wI {b : Nat} {S : ST} {a i : Nat} {z : Int} (h : a = b + 3 ∨ a = b + 4) : frQ b S (wI S a i z) := ⟨rfl, rfl, rfl, fun c h1 h2 => u2_ne (by omega)⟩
theorem frQ_vC {b n : Nat} {sz : Nat → Nat} {S S' : ST} (h : frQ b S S') (hb : b = 58 ∨ 203 ≤ b) (hv : vC S n sz) : vC S' n sz := by
  obtain ⟨h1, h2, h3, h4, h5⟩ := hv
  refine ⟨h1, ?_, ?_, ?_, ?_⟩
  · rw [h.2.2.2 1 (by omega) (by omega)]
    exact h2
  · rw [h.2.2.2 1 (by omega) (by omega)]
    exact h3
  · rw [h.2.2.2 2 (by omega) (by omega)]
    exact h4
  · rw [h.2.2.2 3 (by omega) (by omega)]
    exact h5
theorem frQ_A {b R : Nat} {S S' : ST} (h : frQ b S S') (hA : dA S b R) : dA S' b R := dA_cg h.1 h.2.1 hA
/-- numbers and queue over a list of nodes -/
def nuM (S : ST) (b R : Nat) (D : DT) (c : Nat) (L : Nat → Nat → Bool) (q : Nat → Nat) : Prop := (∀ j, j < c → dl D (q j) = true ∧ ds D (q j) = L j ∧ SI S (b + 4) j = ((q j : Nat) : Int) ∧ SI S (b + 3) (q j) = ((j + 2 : Nat) : Int)) ∧ (∀ x, x < R → (∀ j, j < c → q j ≠ x) → SI S (b + 3) x = 0) ∧ (∀ i j, i < c → j < c → q i = q j → i = j)
section EB
variable {X : List Int32} {S : ST} {b R n U fn x : Nat} {sz ord pl rt : Nat → Nat} {D : DT} {ex : Nat → Nat} {Fn : Nat → Nat → Bool}
theorem NF_ok {m f0 : Nat} {F : Nat → Nat → Bool} (hw : wf n sz) (ho : prm n ord pl) (hm : m ≤ 40) (hf : f0 < m) (ht : tbT (pr sz n) (F f0)) : bEnd n sz ord (addN (pr sz n) 0 L0 (F f0)).1 (addN (pr sz n) 0 L0 (F f0)).2 (NF n sz ord (F f0)) ∧ NF n sz ord (F f0) ≤ 8910 ∧ LSt n sz ord m F (NF n sz ord (F f0)) (LF n sz ord (F f0)) := by
  have hLf : LSt n sz ord m F (addN (pr sz n) 0 L0 (F f0)).1 (addN (pr sz n) 0 L0 (F f0)).2 := addN_LS hw (L0_LS _ _ _ _ _) ht (fun _ => isP_root hw ho hf ht)
  obtain ⟨N, h1, h2, h3, h5⟩ := bfs_end hw ho hm hLf
  have h4 : bEnd n sz ord (addN (pr sz n) 0 L0 (F f0)).1 (addN (pr sz n) 0 L0 (F f0)).2 (NF n sz ord (F f0)) := Classical.epsilon_spec (p := fun N => bEnd n sz ord (addN (pr sz n) 0 L0 (F f0)).1 (addN (pr sz n) 0 L0 (F f0)).2 N) ⟨N, h1, h2⟩
  have he : N = NF n sz ord (F f0) := bEnd_u ⟨h1, h2⟩ h4
  subst he
  exact ⟨h4, h3, h5⟩
theorem nu_le {c : Nat} {L : Nat → Nat → Bool} {q : Nat → Nat} (hP : dP n sz D 0 U) (h : nuM S b R D c L q) : c ≤ cntB (dl D) U := inj_cnt (fun i hi => ⟨(hP.1 _ (h.1 i hi).1).2.1, (h.1 i hi).1⟩) h.2.2
theorem nu_new {c y : Nat} {L : Nat → Nat → Bool} {q : Nat → Nat} (hb : b = 58 ∨ 203 ≤ b) (h : nuM S b R D c L q) (hy : dl D y = true) (hyn : ∀ j, j < c → q j ≠ y) : nuM (wI (wI S (b + 3) y ((c : Nat) + 2 : Int)) (b + 4) c ((y : Nat) : Int)) b R D (c + 1) (lup L c (ds D y)) (fup q c y) := by
  refine ⟨fun j hj => ?_, fun x hx hn => ?_, fun i j hi hj e => ?_⟩
  · by_cases cj : j = c
    · subst cj
      rw [fup_at, rI_at, lup_at, rI_ne (by omega), rI_at]
      exact ⟨hy, rfl, rfl, by omega⟩
    · rw [fup_ne cj, rI_nj cj, lup_ne cj, rI_ne (by omega), rI_ne (by omega), rI_nj (hyn j (by omega))]
      exact h.1 j (by omega)
  · have h1 := hn c (by omega)
    rw [fup_at] at h1
    rw [rI_ne (by omega), rI_nj (fun z => h1 z.symm)]
    exact h.2.1 x hx (fun j hj => by
      have := hn j (by omega)
      rw [fup_ne (by omega)] at this
      exact this)
  · by_cases ci : i = c
    · by_cases cj : j = c
      · omega
      · rw [ci, fup_at, fup_ne cj] at e
        exact absurd e.symm (hyn j (by omega))
    · by_cases cj : j = c
      · rw [cj, fup_at, fup_ne ci] at e
        exact absurd e (hyn i (by omega))
      · rw [fup_ne ci, fup_ne cj] at e
        exact h.2.2 i j (by omega) (by omega) e
theorem c_number (hvC : vC S n sz) (hG : dG S b R n sz D ex 0 U) (hc : cnO n sz ord D) (ho : prm n ord pl) (hx : dl D x = true) {N : Nat} (hE : bEnd n sz ord (addN (pr sz n) 0 L0 (ds D x)).1 (addN (pr sz n) 0 L0 (ds D x)).2 N) : sM X 1 48 [.ref 52, .int (iI ((x : Nat) : Int))] S (fun r S' => r = some (.int (iI ((N : Nat) : Int))) ∧ (∃ q, nuM S' b R D N (bfs n sz ord (addN (pr sz n) 0 L0 (ds D x)).1 (addN (pr sz n) 0 L0 (ds D x)).2 N).2 q) ∧ frQ b S S') := by
  obtain ⟨hA, hP, hM, ⟨ch, hC⟩, ⟨fr, hF⟩, hL, hU, hUR, hU2, hz⟩ := hG
  have hwf := hvC.1
  have hn10 := hwf.1
  have hxU := hP.1 x hx
  have hcU := cntB_le (dl D) U
  have hlx := live_lf hwf hP hx
  have hA0e : (addN (pr sz n) 0 L0 (ds D x)) = (1, lup L0 0 (ds D x)) := addN_new hlx (fun j hj => absurd hj (Nat.not_lt_zero j))
  obtain ⟨S0, hS0⟩ : ∃ S0, S0 = S := ⟨S, rfl⟩
  have hA0 : dA S0 b R := by rw [hS0]; exact hA
  have hvC0 : vC S0 n sz := by rw [hS0]; exact hvC
  have hM0 : dM S0 b sz D ex 0 U := by rw [hS0]; exact hM
  have hq : ∀ (r : Option Value) (S' : ST), (r = some (.int (iI ((N : Nat) : Int))) ∧ (∃ q, nuM S' b R D N (bfs n sz ord (addN (pr sz n) 0 L0 (ds D x)).1 (addN (pr sz n) 0 L0 (ds D x)).2 N).2 q) ∧ frQ b S0 S') → (r = some (.int (iI ((N : Nat) : Int))) ∧ (∃ q, nuM S' b R D N (bfs n sz ord (addN (pr sz n) 0 L0 (ds D x)).1 (addN (pr sz n) 0 L0 (ds D x)).2 N).2 q) ∧ frQ b S S') := fun r S' h => by rw [← hS0]; exact h
  refine sM.weaken ?_ hq
  clear hq
  have hle : ∀ i, i ≤ N → (bfs n sz ord (addN (pr sz n) 0 L0 (ds D x)).1 (addN (pr sz n) 0 L0 (ds D x)).2 i).1 ≤ N := fun i hi => by
    have h1 := (bfs_ext (n := n) (sz := sz) (ord := ord) (c := (addN (pr sz n) 0 L0 (ds D x)).1) (L := (addN (pr sz n) 0 L0 (ds D x)).2) hi).1
    have h2 := hE.1
    omega
  have htbl : ∀ y, dl D y = true → tbT (pr sz n) (ds D y) := fun y hy => (hP.2.2.1 y hy).2.1
  have hb58 := hA.1
  have hR1 := hA.2.1
  have hR2 := hA.2.2.1
  refine sIni (ls := [some (.ref 52), some (.int (iI ((x : Nat) : Int))), none, none, none, none, none]) rfl ?_
  refine sL (pc' := 1) (i := .aload_n 0) rfl rfl ?_
  refine sL (pc' := 2) (i := .iload_n 1) rfl rfl ?_
  refine sCv (p := 5) (as := [_]) rfl rfl rfl rfl (by decide) (Nat.le_of_ble_eq_true rfl) rfl (Nat.le_of_ble_eq_true rfl) (sk_52 _) rfl (by omega) (c_isNode (x := x) hU (by omega) (by omega)) ?_
  refine sBn (p := 8) rfl rfl (fun c1 => ?_) (fun c1 => ?_)
  · have c1 := c1
    have c1 := of_decide_eq_true c1
    refine sKi (p := 11) rfl rfl ?_
    refine sL (pc' := 12) (i := .istore_n 2) (ls' := [some (.ref 52), some (.int (iI ((x : Nat) : Int))), some (.int (iI 1)), none, none, none, none]) rfl rfl ?_
    refine sL (pc' := 13) (i := .aload_n 0) rfl rfl ?_
    refine sGr (p := 16) rfl rfl (sk_52 _) rfl rfl rfl hA.2.2.2.2.2.2.2.1 ?_
    refine sKi (p := 17) rfl rfl ?_
    refine sL (pc' := 18) (i := .iload_n 1) rfl rfl ?_
    refine sWi (p := 19) (i := 0) rfl rfl hA.2.2.2.2.2.2.2.2.2.2.2.2.2.1 (by omega) ⟨by omega, by omega⟩ ?_
    refine sL (pc' := 20) (i := .aload_n 0) rfl rfl ?_
    refine sGr (p := 23) rfl rfl (sk_52 _) rfl rfl rfl hA.2.2.2.2.2.2.1 ?_
    refine sL (pc' := 24) (i := .iload_n 1) rfl rfl ?_
    refine sKi (p := 25) rfl rfl ?_
    refine sWi (p := 26) (i := x) rfl rfl hA.2.2.2.2.2.2.2.2.2.2.2.2.1 (by omega) ⟨by omega, by omega⟩ ?_
    refine sKi (p := 27) rfl rfl ?_
    refine sL (pc' := 28) (i := .istore_n 3) (ls' := [some (.ref 52), some (.int (iI ((x : Nat) : Int))), some (.int (iI 1)), some (.int (iI 0)), none, none, none]) rfl rfl ?_
    rw [show (1 : Int) = (((bfs n sz ord (addN (pr sz n) 0 L0 (ds D x)).1 (addN (pr sz n) 0 L0 (ds D x)).2 0).1 : Nat) : Int) from by rw [show (bfs n sz ord (addN (pr sz n) 0 L0 (ds D x)).1 (addN (pr sz n) 0 L0 (ds D x)).2 0) = (addN (pr sz n) 0 L0 (ds D x)) from rfl, hA0e]; rfl]
    refine sItR (A := fun i => [some (.ref 52), some (.int (iI ((x : Nat) : Int))), some (.int (iI (((bfs n sz ord (addN (pr sz n) 0 L0 (ds D x)).1 (addN (pr sz n) 0 L0 (ds D x)).2 i).1 : Nat) : Int))), some (.int (iI ((i : Nat) : Int))), none, none, none]) (fun i S => (∃ q, nuM S b R D (bfs n sz ord (addN (pr sz n) 0 L0 (ds D x)).1 (addN (pr sz n) 0 L0 (ds D x)).2 i).1 (bfs n sz ord (addN (pr sz n) 0 L0 (ds D x)).1 (addN (pr sz n) 0 L0 (ds D x)).2 i).2 q) ∧ frQ b S0 S) N (⟨⟨fun _ => x, by rw [show (bfs n sz ord (addN (pr sz n) 0 L0 (ds D x)).1 (addN (pr sz n) 0 L0 (ds D x)).2 0) = (addN (pr sz n) 0 L0 (ds D x)) from rfl, hA0e]; exact ⟨fun j hj => (by obtain rfl : j = 0 := Nat.lt_one_iff.mp hj; exact ⟨hx, (show ds D x = lup L0 0 (ds D x) 0 from lup_at.symm), by rw [rI_ne (by omega), rI_at], by rw [rI_at]; rfl⟩), fun y hy hn => by rw [rI_nj (fun z => hn 0 (show 0 < 1 by decide) z.symm), rI_ne (by omega)]; exact hz y hy, fun i j hi hj _ => by have hi : i < 1 := hi; have hj : j < 1 := hj; omega⟩⟩, by rw [hS0]; exact frQ_trans (frQ_wI (Or.inr rfl)) (frQ_wI (Or.inl rfl))⟩) (fun i hi28 Sa hJ28 ih28 => ?_) (fun Saf hJ28 => ?_)
    · have hi28 := hi28
      obtain ⟨⟨qa, hnua⟩, hfa⟩ := hJ28
      have hri := hE.2 i hi28
      have hqd := (hnua.1 i hri).1
      have hqU := hP.1 _ hqd
      have hqs := (hnua.1 i hri).2.1
      have hdv : dv D (qa i) = (ord (fpl n sz ord ((bfs n sz ord (addN (pr sz n) 0 L0 (ds D x)).1 (addN (pr sz n) 0 L0 (ds D x)).2 i).2 i))) := by rw [hc _ hqd, hqs]
      have hsv := hwf.2.1 _ (hP.2.2.1 _ hqd).1
      have hnR := nu_le hP hnua
      refine sL (pc' := 29) (i := .iload_n 3) rfl rfl ?_
      refine sL (pc' := 30) (i := .iload_n 2) rfl rfl ?_
      refine sIc_ge (p := 33) rfl rfl ⟨by omega, by omega⟩ ⟨by omega, by omega⟩ (fun c2 => ?_) (fun c2 => ?_)
      · exfalso; omega
      · have c2 := c2
        refine sL (pc' := 34) (i := .iload_n 3) rfl rfl ?_
        refine sL (pc' := 35) (i := .aload_n 0) rfl rfl ?_
        refine sGr (p := 38) rfl rfl (sk_52 _) rfl rfl rfl (frQ_A hfa hA0).2.2.2.2.2.2.2.1 ?_
        refine sLn (p := 39) rfl rfl (frQ_A hfa hA0).2.2.2.2.2.2.2.2.2.2.2.2.2.1 (by decide) ?_
        refine sIc_ge (p := 42) rfl rfl ⟨by omega, by omega⟩ ⟨by omega, by omega⟩ (fun c3 => ?_) (fun c3 => ?_)
        · exfalso; omega
        · have c3 := c3
          refine sL (pc' := 43) (i := .aload_n 0) rfl rfl ?_
          refine sGr (p := 46) rfl rfl (sk_52 _) rfl rfl rfl (frQ_A hfa hA0).2.2.2.2.2.2.2.1 ?_
          refine sL (pc' := 47) (i := .iload_n 3) rfl rfl ?_
          refine sAi (p := 48) (i := i) rfl rfl (frQ_A hfa hA0).2.2.2.2.2.2.2.2.2.2.2.2.2.1 (by omega) ⟨by omega, by omega⟩ ((hnua.1 i hri).2.2.1) ?_
          refine sL (pc' := 50) (i := .istore 4) (ls' := [some (.ref 52), some (.int (iI ((x : Nat) : Int))), some (.int (iI (((bfs n sz ord (addN (pr sz n) 0 L0 (ds D x)).1 (addN (pr sz n) 0 L0 (ds D x)).2 i).1 : Nat) : Int))), some (.int (iI ((i : Nat) : Int))), some (.int (iI ((qa i : Nat) : Int))), none, none]) rfl rfl ?_
          refine sKi (p := 51) rfl rfl ?_
          refine sL (pc' := 53) (i := .istore 5) (ls' := [some (.ref 52), some (.int (iI ((x : Nat) : Int))), some (.int (iI (((bfs n sz ord (addN (pr sz n) 0 L0 (ds D x)).1 (addN (pr sz n) 0 L0 (ds D x)).2 i).1 : Nat) : Int))), some (.int (iI ((i : Nat) : Int))), some (.int (iI ((qa i : Nat) : Int))), some (.int (iI 0)), none]) rfl rfl ?_
          refine sItR (A := fun k => [some (.ref 52), some (.int (iI ((x : Nat) : Int))), some (.int (iI (((addK n sz ((bfs n sz ord (addN (pr sz n) 0 L0 (ds D x)).1 (addN (pr sz n) 0 L0 (ds D x)).2 i).2 i) (ord (fpl n sz ord ((bfs n sz ord (addN (pr sz n) 0 L0 (ds D x)).1 (addN (pr sz n) 0 L0 (ds D x)).2 i).2 i))) (bfs n sz ord (addN (pr sz n) 0 L0 (ds D x)).1 (addN (pr sz n) 0 L0 (ds D x)).2 i).1 (bfs n sz ord (addN (pr sz n) 0 L0 (ds D x)).1 (addN (pr sz n) 0 L0 (ds D x)).2 i).2 k).1 : Nat) : Int))), some (.int (iI ((i : Nat) : Int))), some (.int (iI ((qa i : Nat) : Int))), some (.int (iI ((k : Nat) : Int))), none]) (fun k S => (∃ q, nuM S b R D (addK n sz ((bfs n sz ord (addN (pr sz n) 0 L0 (ds D x)).1 (addN (pr sz n) 0 L0 (ds D x)).2 i).2 i) (ord (fpl n sz ord ((bfs n sz ord (addN (pr sz n) 0 L0 (ds D x)).1 (addN (pr sz n) 0 L0 (ds D x)).2 i).2 i))) (bfs n sz ord (addN (pr sz n) 0 L0 (ds D x)).1 (addN (pr sz n) 0 L0 (ds D x)).2 i).1 (bfs n sz ord (addN (pr sz n) 0 L0 (ds D x)).1 (addN (pr sz n) 0 L0 (ds D x)).2 i).2 k).1 (addK n sz ((bfs n sz ord (addN (pr sz n) 0 L0 (ds D x)).1 (addN (pr sz n) 0 L0 (ds D x)).2 i).2 i) (ord (fpl n sz ord ((bfs n sz ord (addN (pr sz n) 0 L0 (ds D x)).1 (addN (pr sz n) 0 L0 (ds D x)).2 i).2 i))) (bfs n sz ord (addN (pr sz n) 0 L0 (ds D x)).1 (addN (pr sz n) 0 L0 (ds D x)).2 i).1 (bfs n sz ord (addN (pr sz n) 0 L0 (ds D x)).1 (addN (pr sz n) 0 L0 (ds D x)).2 i).2 k).2 q ∧ (∀ j, j < (bfs n sz ord (addN (pr sz n) 0 L0 (ds D x)).1 (addN (pr sz n) 0 L0 (ds D x)).2 i).1 → q j = qa j)) ∧ frQ b S0 S) (sz (dv D (qa i))) (⟨⟨qa, hnua, fun _ _ => rfl⟩, hfa⟩) (fun k hi53 Sb hJ53 ih53 => ?_) (fun Sbf hJ53 => ?_)
          · have hi53 := hi53
            obtain ⟨⟨qb, hnub, hqab⟩, hfb⟩ := hJ53
            have hkd := hP.2.2.2.1 _ hqd k hi53
            rw [hdv, hqs] at hkd
            have hkU := dok_lt hP hU2 hkd.1
            have hnR2 := nu_le hP hnub
            have hxt := (addK_ext (n := n) (sz := sz) (c := (bfs n sz ord (addN (pr sz n) 0 L0 (ds D x)).1 (addN (pr sz n) 0 L0 (ds D x)).2 i).1) (L := (bfs n sz ord (addN (pr sz n) 0 L0 (ds D x)).1 (addN (pr sz n) 0 L0 (ds D x)).2 i).2) ((bfs n sz ord (addN (pr sz n) 0 L0 (ds D x)).1 (addN (pr sz n) 0 L0 (ds D x)).2 i).2 i) (ord (fpl n sz ord ((bfs n sz ord (addN (pr sz n) 0 L0 (ds D x)).1 (addN (pr sz n) 0 L0 (ds D x)).2 i).2 i))) (i := 0) (k := k) (Nat.zero_le _))
            have hxt1 : (bfs n sz ord (addN (pr sz n) 0 L0 (ds D x)).1 (addN (pr sz n) 0 L0 (ds D x)).2 i).1 ≤ (addK n sz ((bfs n sz ord (addN (pr sz n) 0 L0 (ds D x)).1 (addN (pr sz n) 0 L0 (ds D x)).2 i).2 i) (ord (fpl n sz ord ((bfs n sz ord (addN (pr sz n) 0 L0 (ds D x)).1 (addN (pr sz n) 0 L0 (ds D x)).2 i).2 i))) (bfs n sz ord (addN (pr sz n) 0 L0 (ds D x)).1 (addN (pr sz n) 0 L0 (ds D x)).2 i).1 (bfs n sz ord (addN (pr sz n) 0 L0 (ds D x)).1 (addN (pr sz n) 0 L0 (ds D x)).2 i).2 k).1 := hxt.1
            have hnr : rg (SI Sb (b + 3) (dk D (qa i) k)) := by
              by_cases h9 : ∃ j, j < (addK n sz ((bfs n sz ord (addN (pr sz n) 0 L0 (ds D x)).1 (addN (pr sz n) 0 L0 (ds D x)).2 i).2 i) (ord (fpl n sz ord ((bfs n sz ord (addN (pr sz n) 0 L0 (ds D x)).1 (addN (pr sz n) 0 L0 (ds D x)).2 i).2 i))) (bfs n sz ord (addN (pr sz n) 0 L0 (ds D x)).1 (addN (pr sz n) 0 L0 (ds D x)).2 i).1 (bfs n sz ord (addN (pr sz n) 0 L0 (ds D x)).1 (addN (pr sz n) 0 L0 (ds D x)).2 i).2 k).1 ∧ qb j = dk D (qa i) k
              · obtain ⟨j, k1, k2⟩ := h9
                rw [← k2, (hnub.1 j k1).2.2.2]
                exact ⟨by omega, by omega⟩
              · rw [hnub.2.1 _ (by omega) (fun j hj z => h9 ⟨j, hj, z⟩)]
                exact ⟨by omega, by omega⟩
            refine sL (pc' := 55) (i := .iload 5) rfl rfl ?_
            refine sL (pc' := 56) (i := .aload_n 0) rfl rfl ?_
            refine sGc (p := 59) rfl rfl (sk_52 _) rfl rfl rfl ?_
            refine sL (pc' := 60) (i := .aload_n 0) rfl rfl ?_
            refine sGr (p := 63) rfl rfl (sk_52 _) rfl rfl rfl (frQ_A hfb hA0).2.2.2.1 ?_
            refine sL (pc' := 65) (i := .iload 4) rfl rfl ?_
            refine sAi (p := 66) (i := qa i) rfl rfl (frQ_A hfb hA0).2.2.2.2.2.2.2.2.2.1 (by omega) ⟨by omega, by omega⟩ ((congrFun (hfb.2.2.2 b (by omega) (by omega)) _).trans (hM0.1 _ hqd)) ?_
            refine sCv (p := 69) (as := [_]) rfl rfl rfl rfl (by decide) (Nat.le_of_ble_eq_true rfl) rfl (Nat.le_of_ble_eq_true rfl) (sk_1 _) rfl (by omega) (c_siz (frQ_vC hfb hb58 hvC0) (hP.2.2.1 _ hqd).1) ?_
            refine sIc_ge (p := 72) rfl rfl ⟨by omega, by omega⟩ ⟨by omega, by omega⟩ (fun c4 => ?_) (fun c4 => ?_)
            · exfalso; omega
            · have c4 := c4
              refine sL (pc' := 73) (i := .aload_n 0) rfl rfl ?_
              refine sGr (p := 76) rfl rfl (sk_52 _) rfl rfl rfl (frQ_A hfb hA0).2.2.2.2.2.2.2.2.1 ?_
              refine sL (pc' := 78) (i := .iload 4) rfl rfl ?_
              refine sKb (p := 80) rfl rfl ?_
              refine sMu (p := 81) rfl rfl ?_
              refine sL (pc' := 83) (i := .iload 5) rfl rfl ?_
              refine sAd (p := 84) rfl rfl ?_
              refine sAi (p := 85) (i := ((qa i) * 6) + k) rfl rfl (frQ_A hfb hA0).2.2.2.2.2.2.2.2.2.2.2.2.2.2 (by omega) ⟨by omega, by omega⟩ ((congrFun (hfb.2.2.2 (b + 5) (by omega) (by omega)) _).trans (hM0.2.2.2.1 _ hqd k hi53)) ?_
              refine sL (pc' := 87) (i := .istore 6) (ls' := [some (.ref 52), some (.int (iI ((x : Nat) : Int))), some (.int (iI (((addK n sz ((bfs n sz ord (addN (pr sz n) 0 L0 (ds D x)).1 (addN (pr sz n) 0 L0 (ds D x)).2 i).2 i) (ord (fpl n sz ord ((bfs n sz ord (addN (pr sz n) 0 L0 (ds D x)).1 (addN (pr sz n) 0 L0 (ds D x)).2 i).2 i))) (bfs n sz ord (addN (pr sz n) 0 L0 (ds D x)).1 (addN (pr sz n) 0 L0 (ds D x)).2 i).1 (bfs n sz ord (addN (pr sz n) 0 L0 (ds D x)).1 (addN (pr sz n) 0 L0 (ds D x)).2 i).2 k).1 : Nat) : Int))), some (.int (iI ((i : Nat) : Int))), some (.int (iI ((qa i : Nat) : Int))), some (.int (iI ((k : Nat) : Int))), some (.int (iI ((dk D (qa i) k : Nat) : Int)))]) rfl rfl ?_
              refine sL (pc' := 89) (i := .iload 6) rfl rfl ?_
              refine sKi (p := 90) rfl rfl ?_
              refine sIc_le (p := 93) rfl rfl ⟨by omega, by omega⟩ ⟨by omega, by omega⟩ (fun c5 => ?_) (fun c5 => ?_)
              · have c5 := c5
                have hst : (addK n sz ((bfs n sz ord (addN (pr sz n) 0 L0 (ds D x)).1 (addN (pr sz n) 0 L0 (ds D x)).2 i).2 i) (ord (fpl n sz ord ((bfs n sz ord (addN (pr sz n) 0 L0 (ds D x)).1 (addN (pr sz n) 0 L0 (ds D x)).2 i).2 i))) (bfs n sz ord (addN (pr sz n) 0 L0 (ds D x)).1 (addN (pr sz n) 0 L0 (ds D x)).2 i).1 (bfs n sz ord (addN (pr sz n) 0 L0 (ds D x)).1 (addN (pr sz n) 0 L0 (ds D x)).2 i).2 (k + 1)) = (addK n sz ((bfs n sz ord (addN (pr sz n) 0 L0 (ds D x)).1 (addN (pr sz n) 0 L0 (ds D x)).2 i).2 i) (ord (fpl n sz ord ((bfs n sz ord (addN (pr sz n) 0 L0 (ds D x)).1 (addN (pr sz n) 0 L0 (ds D x)).2 i).2 i))) (bfs n sz ord (addN (pr sz n) 0 L0 (ds D x)).1 (addN (pr sz n) 0 L0 (ds D x)).2 i).1 (bfs n sz ord (addN (pr sz n) 0 L0 (ds D x)).1 (addN (pr sz n) 0 L0 (ds D x)).2 i).2 k) := addN_leaf (by rw [← hkd.2]; exact leaf_lf hwf hP (show dk D (qa i) k < 2 by omega))
                refine sInX (z := ((k : Nat) : Int)) (ls' := [some (.ref 52), some (.int (iI ((x : Nat) : Int))), some (.int (iI (((addK n sz ((bfs n sz ord (addN (pr sz n) 0 L0 (ds D x)).1 (addN (pr sz n) 0 L0 (ds D x)).2 i).2 i) (ord (fpl n sz ord ((bfs n sz ord (addN (pr sz n) 0 L0 (ds D x)).1 (addN (pr sz n) 0 L0 (ds D x)).2 i).2 i))) (bfs n sz ord (addN (pr sz n) 0 L0 (ds D x)).1 (addN (pr sz n) 0 L0 (ds D x)).2 i).1 (bfs n sz ord (addN (pr sz n) 0 L0 (ds D x)).1 (addN (pr sz n) 0 L0 (ds D x)).2 i).2 k).1 : Nat) : Int))), some (.int (iI ((i : Nat) : Int))), some (.int (iI ((qa i : Nat) : Int))), some (.int (iI (((k : Nat) : Int) + 1))), some (.int (iI ((dk D (qa i) k : Nat) : Int)))]) (p := 130) rfl rfl (Nat.le_of_ble_eq_true rfl) rfl rfl ?_
                refine sL (i := .goto (-77)) rfl rfl ?_
                refine sFg (ls := [some (.ref 52), some (.int (iI ((x : Nat) : Int))), some (.int (iI (((addK n sz ((bfs n sz ord (addN (pr sz n) 0 L0 (ds D x)).1 (addN (pr sz n) 0 L0 (ds D x)).2 i).2 i) (ord (fpl n sz ord ((bfs n sz ord (addN (pr sz n) 0 L0 (ds D x)).1 (addN (pr sz n) 0 L0 (ds D x)).2 i).2 i))) (bfs n sz ord (addN (pr sz n) 0 L0 (ds D x)).1 (addN (pr sz n) 0 L0 (ds D x)).2 i).1 (bfs n sz ord (addN (pr sz n) 0 L0 (ds D x)).1 (addN (pr sz n) 0 L0 (ds D x)).2 i).2 (k + 1)).1 : Nat) : Int))), some (.int (iI ((i : Nat) : Int))), some (.int (iI ((qa i : Nat) : Int))), some (.int (iI ((k + 1 : Nat) : Int))), none]) (xx_ll_le (And.intro rfl (And.intro rfl (And.intro (congrArg (fun z => some (Value.int z)) (congrArg iI (by rw [hst]))) (And.intro rfl (And.intro rfl (And.intro rfl (True.intro)))))))) (ih53 _ ?_)
                rw [hst]
                exact ⟨⟨qb, hnub, hqab⟩, hfb⟩
              · have c5 := c5
                refine sL (pc' := 94) (i := .aload_n 0) rfl rfl ?_
                refine sGr (p := 97) rfl rfl (sk_52 _) rfl rfl rfl (frQ_A hfb hA0).2.2.2.2.2.2.1 ?_
                refine sL (pc' := 99) (i := .iload 6) rfl rfl ?_
                refine sAi (p := 100) (i := dk D (qa i) k) rfl rfl (frQ_A hfb hA0).2.2.2.2.2.2.2.2.2.2.2.2.1 (by omega) ⟨by omega, by omega⟩ rfl ?_
                refine sIf_eq (p := 103) rfl rfl hnr (fun c6 => ?_) (fun c6 => ?_)
                · have c6 := c6
                  have hnot : ∀ j, j < (addK n sz ((bfs n sz ord (addN (pr sz n) 0 L0 (ds D x)).1 (addN (pr sz n) 0 L0 (ds D x)).2 i).2 i) (ord (fpl n sz ord ((bfs n sz ord (addN (pr sz n) 0 L0 (ds D x)).1 (addN (pr sz n) 0 L0 (ds D x)).2 i).2 i))) (bfs n sz ord (addN (pr sz n) 0 L0 (ds D x)).1 (addN (pr sz n) 0 L0 (ds D x)).2 i).1 (bfs n sz ord (addN (pr sz n) 0 L0 (ds D x)).1 (addN (pr sz n) 0 L0 (ds D x)).2 i).2 k).1 → qb j ≠ dk D (qa i) k := fun j hj z => by
                    have h9 := (hnub.1 j hj).2.2.2
                    rw [z, c6] at h9
                    omega
                  have hky : dl D (dk D (qa i) k) = true := by
                    rcases hkd.1 with h9 | h9 | h9
                    · omega
                    · exact h9
                    · omega
                  have hst : (addK n sz ((bfs n sz ord (addN (pr sz n) 0 L0 (ds D x)).1 (addN (pr sz n) 0 L0 (ds D x)).2 i).2 i) (ord (fpl n sz ord ((bfs n sz ord (addN (pr sz n) 0 L0 (ds D x)).1 (addN (pr sz n) 0 L0 (ds D x)).2 i).2 i))) (bfs n sz ord (addN (pr sz n) 0 L0 (ds D x)).1 (addN (pr sz n) 0 L0 (ds D x)).2 i).1 (bfs n sz ord (addN (pr sz n) 0 L0 (ds D x)).1 (addN (pr sz n) 0 L0 (ds D x)).2 i).2 (k + 1)) = ((addK n sz ((bfs n sz ord (addN (pr sz n) 0 L0 (ds D x)).1 (addN (pr sz n) 0 L0 (ds D x)).2 i).2 i) (ord (fpl n sz ord ((bfs n sz ord (addN (pr sz n) 0 L0 (ds D x)).1 (addN (pr sz n) 0 L0 (ds D x)).2 i).2 i))) (bfs n sz ord (addN (pr sz n) 0 L0 (ds D x)).1 (addN (pr sz n) 0 L0 (ds D x)).2 i).1 (bfs n sz ord (addN (pr sz n) 0 L0 (ds D x)).1 (addN (pr sz n) 0 L0 (ds D x)).2 i).2 k).1 + 1, lup (addK n sz ((bfs n sz ord (addN (pr sz n) 0 L0 (ds D x)).1 (addN (pr sz n) 0 L0 (ds D x)).2 i).2 i) (ord (fpl n sz ord ((bfs n sz ord (addN (pr sz n) 0 L0 (ds D x)).1 (addN (pr sz n) 0 L0 (ds D x)).2 i).2 i))) (bfs n sz ord (addN (pr sz n) 0 L0 (ds D x)).1 (addN (pr sz n) 0 L0 (ds D x)).2 i).1 (bfs n sz ord (addN (pr sz n) 0 L0 (ds D x)).1 (addN (pr sz n) 0 L0 (ds D x)).2 i).2 k).2 (addK n sz ((bfs n sz ord (addN (pr sz n) 0 L0 (ds D x)).1 (addN (pr sz n) 0 L0 (ds D x)).2 i).2 i) (ord (fpl n sz ord ((bfs n sz ord (addN (pr sz n) 0 L0 (ds D x)).1 (addN (pr sz n) 0 L0 (ds D x)).2 i).2 i))) (bfs n sz ord (addN (pr sz n) 0 L0 (ds D x)).1 (addN (pr sz n) 0 L0 (ds D x)).2 i).1 (bfs n sz ord (addN (pr sz n) 0 L0 (ds D x)).1 (addN (pr sz n) 0 L0 (ds D x)).2 i).2 k).1 (ds D (dk D (qa i) k))) := by
                    rw [hkd.2]
                    refine addN_new (by rw [← hkd.2]; exact live_lf hwf hP hky) (fun j hj => ?_)
                    cases e9 : eqW ((addK n sz ((bfs n sz ord (addN (pr sz n) 0 L0 (ds D x)).1 (addN (pr sz n) 0 L0 (ds D x)).2 i).2 i) (ord (fpl n sz ord ((bfs n sz ord (addN (pr sz n) 0 L0 (ds D x)).1 (addN (pr sz n) 0 L0 (ds D x)).2 i).2 i))) (bfs n sz ord (addN (pr sz n) 0 L0 (ds D x)).1 (addN (pr sz n) 0 L0 (ds D x)).2 i).1 (bfs n sz ord (addN (pr sz n) 0 L0 (ds D x)).1 (addN (pr sz n) 0 L0 (ds D x)).2 i).2 k).2 j) (cof n sz ((bfs n sz ord (addN (pr sz n) 0 L0 (ds D x)).1 (addN (pr sz n) 0 L0 (ds D x)).2 i).2 i) (ord (fpl n sz ord ((bfs n sz ord (addN (pr sz n) 0 L0 (ds D x)).1 (addN (pr sz n) 0 L0 (ds D x)).2 i).2 i))) k) with
                    | false => rfl
                    | true =>
                      have h8 := hnub.1 j hj
                      rw [← h8.2.1, ← hkd.2] at e9
                      exact absurd (hP.2.2.2.2.2.2 _ _ (Or.inr (Or.inl h8.1)) (Or.inr (Or.inl hky)) ((eqW_tb hwf.2.2 (htbl _ h8.1) (htbl _ hky)).mp e9)) (hnot j hj)
                  have hroom : (addK n sz ((bfs n sz ord (addN (pr sz n) 0 L0 (ds D x)).1 (addN (pr sz n) 0 L0 (ds D x)).2 i).2 i) (ord (fpl n sz ord ((bfs n sz ord (addN (pr sz n) 0 L0 (ds D x)).1 (addN (pr sz n) 0 L0 (ds D x)).2 i).2 i))) (bfs n sz ord (addN (pr sz n) 0 L0 (ds D x)).1 (addN (pr sz n) 0 L0 (ds D x)).2 i).1 (bfs n sz ord (addN (pr sz n) 0 L0 (ds D x)).1 (addN (pr sz n) 0 L0 (ds D x)).2 i).2 k).1 < R := by
                    have h9 := nu_le hP (nu_new hb58 hnub hky hnot)
                    omega
                  refine sL (pc' := 107) (i := .aload_n 0) rfl rfl ?_
                  refine sGr (p := 110) rfl rfl (sk_52 _) rfl rfl rfl (frQ_A hfb hA0).2.2.2.2.2.2.1 ?_
                  refine sL (pc' := 112) (i := .iload 6) rfl rfl ?_
                  refine sL (pc' := 113) (i := .iload_n 2) rfl rfl ?_
                  refine sKi (p := 114) rfl rfl ?_
                  refine sAd (p := 115) rfl rfl ?_
                  refine sWi (p := 116) (i := dk D (qa i) k) rfl rfl (frQ_A hfb hA0).2.2.2.2.2.2.2.2.2.2.2.2.1 (by omega) ⟨by omega, by omega⟩ ?_
                  refine sL (pc' := 117) (i := .aload_n 0) rfl rfl ?_
                  refine sGr (p := 120) rfl rfl (sk_52 _) rfl rfl rfl (frQ_A hfb hA0).2.2.2.2.2.2.2.1 ?_
                  refine sL (pc' := 121) (i := .iload_n 2) rfl rfl ?_
                  refine sL (pc' := 123) (i := .iload 6) rfl rfl ?_
                  refine sWi (p := 124) (i := (addK n sz ((bfs n sz ord (addN (pr sz n) 0 L0 (ds D x)).1 (addN (pr sz n) 0 L0 (ds D x)).2 i).2 i) (ord (fpl n sz ord ((bfs n sz ord (addN (pr sz n) 0 L0 (ds D x)).1 (addN (pr sz n) 0 L0 (ds D x)).2 i).2 i))) (bfs n sz ord (addN (pr sz n) 0 L0 (ds D x)).1 (addN (pr sz n) 0 L0 (ds D x)).2 i).1 (bfs n sz ord (addN (pr sz n) 0 L0 (ds D x)).1 (addN (pr sz n) 0 L0 (ds D x)).2 i).2 k).1) rfl rfl (frQ_A hfb hA0).2.2.2.2.2.2.2.2.2.2.2.2.2.1 (by omega) ⟨by omega, by omega⟩ ?_
                  refine sInX (z := (((addK n sz ((bfs n sz ord (addN (pr sz n) 0 L0 (ds D x)).1 (addN (pr sz n) 0 L0 (ds D x)).2 i).2 i) (ord (fpl n sz ord ((bfs n sz ord (addN (pr sz n) 0 L0 (ds D x)).1 (addN (pr sz n) 0 L0 (ds D x)).2 i).2 i))) (bfs n sz ord (addN (pr sz n) 0 L0 (ds D x)).1 (addN (pr sz n) 0 L0 (ds D x)).2 i).1 (bfs n sz ord (addN (pr sz n) 0 L0 (ds D x)).1 (addN (pr sz n) 0 L0 (ds D x)).2 i).2 k).1 : Nat) : Int)) (ls' := [some (.ref 52), some (.int (iI ((x : Nat) : Int))), some (.int (iI ((((addK n sz ((bfs n sz ord (addN (pr sz n) 0 L0 (ds D x)).1 (addN (pr sz n) 0 L0 (ds D x)).2 i).2 i) (ord (fpl n sz ord ((bfs n sz ord (addN (pr sz n) 0 L0 (ds D x)).1 (addN (pr sz n) 0 L0 (ds D x)).2 i).2 i))) (bfs n sz ord (addN (pr sz n) 0 L0 (ds D x)).1 (addN (pr sz n) 0 L0 (ds D x)).2 i).1 (bfs n sz ord (addN (pr sz n) 0 L0 (ds D x)).1 (addN (pr sz n) 0 L0 (ds D x)).2 i).2 k).1 : Nat) : Int) + 1))), some (.int (iI ((i : Nat) : Int))), some (.int (iI ((qa i : Nat) : Int))), some (.int (iI ((k : Nat) : Int))), some (.int (iI ((dk D (qa i) k : Nat) : Int)))]) (p := 127) rfl rfl (Nat.le_of_ble_eq_true rfl) rfl rfl ?_
                  refine sInX (z := ((k : Nat) : Int)) (ls' := [some (.ref 52), some (.int (iI ((x : Nat) : Int))), some (.int (iI ((((addK n sz ((bfs n sz ord (addN (pr sz n) 0 L0 (ds D x)).1 (addN (pr sz n) 0 L0 (ds D x)).2 i).2 i) (ord (fpl n sz ord ((bfs n sz ord (addN (pr sz n) 0 L0 (ds D x)).1 (addN (pr sz n) 0 L0 (ds D x)).2 i).2 i))) (bfs n sz ord (addN (pr sz n) 0 L0 (ds D x)).1 (addN (pr sz n) 0 L0 (ds D x)).2 i).1 (bfs n sz ord (addN (pr sz n) 0 L0 (ds D x)).1 (addN (pr sz n) 0 L0 (ds D x)).2 i).2 k).1 : Nat) : Int) + 1))), some (.int (iI ((i : Nat) : Int))), some (.int (iI ((qa i : Nat) : Int))), some (.int (iI (((k : Nat) : Int) + 1))), some (.int (iI ((dk D (qa i) k : Nat) : Int)))]) (p := 130) rfl rfl (Nat.le_of_ble_eq_true rfl) rfl rfl ?_
                  refine sL (i := .goto (-77)) rfl rfl ?_
                  refine sFg (ls := [some (.ref 52), some (.int (iI ((x : Nat) : Int))), some (.int (iI (((addK n sz ((bfs n sz ord (addN (pr sz n) 0 L0 (ds D x)).1 (addN (pr sz n) 0 L0 (ds D x)).2 i).2 i) (ord (fpl n sz ord ((bfs n sz ord (addN (pr sz n) 0 L0 (ds D x)).1 (addN (pr sz n) 0 L0 (ds D x)).2 i).2 i))) (bfs n sz ord (addN (pr sz n) 0 L0 (ds D x)).1 (addN (pr sz n) 0 L0 (ds D x)).2 i).1 (bfs n sz ord (addN (pr sz n) 0 L0 (ds D x)).1 (addN (pr sz n) 0 L0 (ds D x)).2 i).2 (k + 1)).1 : Nat) : Int))), some (.int (iI ((i : Nat) : Int))), some (.int (iI ((qa i : Nat) : Int))), some (.int (iI ((k + 1 : Nat) : Int))), none]) (xx_ll_le (And.intro rfl (And.intro rfl (And.intro (congrArg (fun z => some (Value.int z)) (congrArg iI (by rw [hst]; rfl))) (And.intro rfl (And.intro rfl (And.intro rfl (True.intro)))))))) (ih53 _ ?_)
                  rw [hst]
                  exact ⟨⟨_, nu_new hb58 hnub hky hnot, fun j hj => by rw [fup_ne (by omega)]; exact hqab j hj⟩, frQ_trans hfb (frQ_trans (frQ_wI (Or.inl rfl)) (frQ_wI (Or.inr rfl)))⟩
                · have c6 := c6
                  have hst : (addK n sz ((bfs n sz ord (addN (pr sz n) 0 L0 (ds D x)).1 (addN (pr sz n) 0 L0 (ds D x)).2 i).2 i) (ord (fpl n sz ord ((bfs n sz ord (addN (pr sz n) 0 L0 (ds D x)).1 (addN (pr sz n) 0 L0 (ds D x)).2 i).2 i))) (bfs n sz ord (addN (pr sz n) 0 L0 (ds D x)).1 (addN (pr sz n) 0 L0 (ds D x)).2 i).1 (bfs n sz ord (addN (pr sz n) 0 L0 (ds D x)).1 (addN (pr sz n) 0 L0 (ds D x)).2 i).2 (k + 1)) = (addK n sz ((bfs n sz ord (addN (pr sz n) 0 L0 (ds D x)).1 (addN (pr sz n) 0 L0 (ds D x)).2 i).2 i) (ord (fpl n sz ord ((bfs n sz ord (addN (pr sz n) 0 L0 (ds D x)).1 (addN (pr sz n) 0 L0 (ds D x)).2 i).2 i))) (bfs n sz ord (addN (pr sz n) 0 L0 (ds D x)).1 (addN (pr sz n) 0 L0 (ds D x)).2 i).1 (bfs n sz ord (addN (pr sz n) 0 L0 (ds D x)).1 (addN (pr sz n) 0 L0 (ds D x)).2 i).2 k) := by
                    obtain ⟨j9, k1, k2⟩ : ∃ j, j < (addK n sz ((bfs n sz ord (addN (pr sz n) 0 L0 (ds D x)).1 (addN (pr sz n) 0 L0 (ds D x)).2 i).2 i) (ord (fpl n sz ord ((bfs n sz ord (addN (pr sz n) 0 L0 (ds D x)).1 (addN (pr sz n) 0 L0 (ds D x)).2 i).2 i))) (bfs n sz ord (addN (pr sz n) 0 L0 (ds D x)).1 (addN (pr sz n) 0 L0 (ds D x)).2 i).1 (bfs n sz ord (addN (pr sz n) 0 L0 (ds D x)).1 (addN (pr sz n) 0 L0 (ds D x)).2 i).2 k).1 ∧ qb j = dk D (qa i) k := Classical.byContradiction fun h => c6 (hnub.2.1 _ (by omega) (fun j hj z => h ⟨j, hj, z⟩))
                    exact addN_same k1 ((hnub.1 j9 k1).2.1.symm.trans (by rw [k2]; exact hkd.2))
                  refine sL (i := .goto 24) rfl rfl ?_
                  refine sInX (z := ((k : Nat) : Int)) (ls' := [some (.ref 52), some (.int (iI ((x : Nat) : Int))), some (.int (iI (((addK n sz ((bfs n sz ord (addN (pr sz n) 0 L0 (ds D x)).1 (addN (pr sz n) 0 L0 (ds D x)).2 i).2 i) (ord (fpl n sz ord ((bfs n sz ord (addN (pr sz n) 0 L0 (ds D x)).1 (addN (pr sz n) 0 L0 (ds D x)).2 i).2 i))) (bfs n sz ord (addN (pr sz n) 0 L0 (ds D x)).1 (addN (pr sz n) 0 L0 (ds D x)).2 i).1 (bfs n sz ord (addN (pr sz n) 0 L0 (ds D x)).1 (addN (pr sz n) 0 L0 (ds D x)).2 i).2 k).1 : Nat) : Int))), some (.int (iI ((i : Nat) : Int))), some (.int (iI ((qa i : Nat) : Int))), some (.int (iI (((k : Nat) : Int) + 1))), some (.int (iI ((dk D (qa i) k : Nat) : Int)))]) (p := 130) rfl rfl (Nat.le_of_ble_eq_true rfl) rfl rfl ?_
                  refine sL (i := .goto (-77)) rfl rfl ?_
                  refine sFg (ls := [some (.ref 52), some (.int (iI ((x : Nat) : Int))), some (.int (iI (((addK n sz ((bfs n sz ord (addN (pr sz n) 0 L0 (ds D x)).1 (addN (pr sz n) 0 L0 (ds D x)).2 i).2 i) (ord (fpl n sz ord ((bfs n sz ord (addN (pr sz n) 0 L0 (ds D x)).1 (addN (pr sz n) 0 L0 (ds D x)).2 i).2 i))) (bfs n sz ord (addN (pr sz n) 0 L0 (ds D x)).1 (addN (pr sz n) 0 L0 (ds D x)).2 i).1 (bfs n sz ord (addN (pr sz n) 0 L0 (ds D x)).1 (addN (pr sz n) 0 L0 (ds D x)).2 i).2 (k + 1)).1 : Nat) : Int))), some (.int (iI ((i : Nat) : Int))), some (.int (iI ((qa i : Nat) : Int))), some (.int (iI ((k + 1 : Nat) : Int))), none]) (xx_ll_le (And.intro rfl (And.intro rfl (And.intro (congrArg (fun z => some (Value.int z)) (congrArg iI (by rw [hst]))) (And.intro rfl (And.intro rfl (And.intro rfl (True.intro)))))))) (ih53 _ ?_)
                  rw [hst]
                  exact ⟨⟨qb, hnub, hqab⟩, hfb⟩
          · have hJ53 := hJ53
            obtain ⟨hnuc, hfc⟩ := hJ53
            refine sL (pc' := 55) (i := .iload 5) rfl rfl ?_
            refine sL (pc' := 56) (i := .aload_n 0) rfl rfl ?_
            refine sGc (p := 59) rfl rfl (sk_52 _) rfl rfl rfl ?_
            refine sL (pc' := 60) (i := .aload_n 0) rfl rfl ?_
            refine sGr (p := 63) rfl rfl (sk_52 _) rfl rfl rfl (frQ_A hfc hA0).2.2.2.1 ?_
            refine sL (pc' := 65) (i := .iload 4) rfl rfl ?_
            refine sAi (p := 66) (i := qa i) rfl rfl (frQ_A hfc hA0).2.2.2.2.2.2.2.2.2.1 (by omega) ⟨by omega, by omega⟩ ((congrFun (hfc.2.2.2 b (by omega) (by omega)) _).trans (hM0.1 _ hqd)) ?_
            refine sCv (p := 69) (as := [_]) rfl rfl rfl rfl (by decide) (Nat.le_of_ble_eq_true rfl) rfl (Nat.le_of_ble_eq_true rfl) (sk_1 _) rfl (by omega) (c_siz (frQ_vC hfc hb58 hvC0) (hP.2.2.1 _ hqd).1) ?_
            refine sIc_ge (p := 72) rfl rfl ⟨by omega, by omega⟩ ⟨by omega, by omega⟩ (fun c7 => ?_) (fun c7 => ?_)
            · have c7 := c7
              refine sInX (z := ((i : Nat) : Int)) (ls' := [some (.ref 52), some (.int (iI ((x : Nat) : Int))), some (.int (iI (((addK n sz ((bfs n sz ord (addN (pr sz n) 0 L0 (ds D x)).1 (addN (pr sz n) 0 L0 (ds D x)).2 i).2 i) (ord (fpl n sz ord ((bfs n sz ord (addN (pr sz n) 0 L0 (ds D x)).1 (addN (pr sz n) 0 L0 (ds D x)).2 i).2 i))) (bfs n sz ord (addN (pr sz n) 0 L0 (ds D x)).1 (addN (pr sz n) 0 L0 (ds D x)).2 i).1 (bfs n sz ord (addN (pr sz n) 0 L0 (ds D x)).1 (addN (pr sz n) 0 L0 (ds D x)).2 i).2 (sz (dv D (qa i)))).1 : Nat) : Int))), some (.int (iI (((i : Nat) : Int) + 1))), some (.int (iI ((qa i : Nat) : Int))), some (.int (iI ((sz (dv D (qa i)) : Nat) : Int))), none]) (p := 136) rfl rfl (Nat.le_of_ble_eq_true rfl) rfl rfl ?_
              refine sL (i := .goto (-108)) rfl rfl ?_
              refine sFg (ls := [some (.ref 52), some (.int (iI ((x : Nat) : Int))), some (.int (iI (((bfs n sz ord (addN (pr sz n) 0 L0 (ds D x)).1 (addN (pr sz n) 0 L0 (ds D x)).2 (i + 1)).1 : Nat) : Int))), some (.int (iI ((i + 1 : Nat) : Int))), none, none, none]) (xx_ll_le (And.intro rfl (And.intro rfl (And.intro (congrArg (fun z => some (Value.int z)) (congrArg iI (by rw [hdv]; rfl))) (And.intro rfl (True.intro)))))) (ih28 _ ?_)
              have hstb : (bfs n sz ord (addN (pr sz n) 0 L0 (ds D x)).1 (addN (pr sz n) 0 L0 (ds D x)).2 (i + 1)) = (addK n sz ((bfs n sz ord (addN (pr sz n) 0 L0 (ds D x)).1 (addN (pr sz n) 0 L0 (ds D x)).2 i).2 i) (ord (fpl n sz ord ((bfs n sz ord (addN (pr sz n) 0 L0 (ds D x)).1 (addN (pr sz n) 0 L0 (ds D x)).2 i).2 i))) (bfs n sz ord (addN (pr sz n) 0 L0 (ds D x)).1 (addN (pr sz n) 0 L0 (ds D x)).2 i).1 (bfs n sz ord (addN (pr sz n) 0 L0 (ds D x)).1 (addN (pr sz n) 0 L0 (ds D x)).2 i).2 (sz (ord (fpl n sz ord ((bfs n sz ord (addN (pr sz n) 0 L0 (ds D x)).1 (addN (pr sz n) 0 L0 (ds D x)).2 i).2 i))))) := rfl
              rw [hstb]
              obtain ⟨q2, h1, h2⟩ := hnuc
              rw [hdv] at h1
              exact ⟨⟨q2, h1⟩, hfc⟩
            · exfalso; omega
    · have hJ28 := hJ28
      obtain ⟨⟨qf, hnuf⟩, hff⟩ := hJ28
      have hNR2 := nu_le hP hnuf
      have hNR3 := hE.1
      refine sL (pc' := 29) (i := .iload_n 3) rfl rfl ?_
      refine sL (pc' := 30) (i := .iload_n 2) rfl rfl ?_
      refine sIc_ge (p := 33) rfl rfl ⟨by omega, by omega⟩ ⟨by omega, by omega⟩ (fun c8 => ?_) (fun c8 => ?_)
      · have c8 := c8
        refine sL (pc' := 140) (i := .iload_n 2) rfl rfl ?_
        refine sEn (i := .ireturn) rfl (rfl) ?_
        refine ⟨by rw [hE.1], ⟨qf, ?_⟩, hff⟩
        rw [hE.1] at hnuf
        exact hnuf
      · exfalso; exact absurd c8 (by rw [hE.1]; exact Int.lt_irrefl _)
  · have c1 := c1
    have c1 := of_decide_eq_false c1
    exfalso; omega
theorem c_forget {N : Nat} {L : Nat → Nat → Bool} {q : Nat → Nat} (hA : dA S b R) (hP : dP n sz D 0 U) (hUR : U ≤ R) (h : nuM S b R D N L q) : sM X 0 49 [.ref 52, .int (iI ((N : Nat) : Int))] S (fun r S' => r = none ∧ (∀ x, x < R → SI S' (b + 3) x = 0) ∧ frQ b S S') := by
  have hcU := cntB_le (dl D) U
  have hNU := nu_le hP h
  obtain ⟨S0, hS0⟩ : ∃ S0, S0 = S := ⟨S, rfl⟩
  have hA0 : dA S0 b R := by rw [hS0]; exact hA
  have h0 : nuM S0 b R D N L q := by rw [hS0]; exact h
  have hq : ∀ (r : Option Value) (S' : ST), (r = none ∧ (∀ x, x < R → SI S' (b + 3) x = 0) ∧ frQ b S0 S') → (r = none ∧ (∀ x, x < R → SI S' (b + 3) x = 0) ∧ frQ b S S') := fun r S' h => by rw [← hS0]; exact h
  refine sM.weaken ?_ hq
  clear hq
  have hb58 := hA.1
  have hR1 := hA.2.1
  have hR2 := hA.2.2.1
  refine sIni (ls := [some (.ref 52), some (.int (iI ((N : Nat) : Int))), none]) rfl ?_
  refine sKi (p := 1) rfl rfl ?_
  refine sL (pc' := 2) (i := .istore_n 2) (ls' := [some (.ref 52), some (.int (iI ((N : Nat) : Int))), some (.int (iI 0))]) rfl rfl ?_
  refine sItR (A := fun i => [some (.ref 52), some (.int (iI ((N : Nat) : Int))), some (.int (iI ((i : Nat) : Int)))]) (fun i S => (∀ x, x < R → (∀ j, i ≤ j → j < N → q j ≠ x) → SI S (b + 3) x = 0) ∧ (∀ j, j < N → SI S (b + 4) j = SI S0 (b + 4) j) ∧ frQ b S0 S) N (⟨fun x hx hn => h.2.1 x hx (fun j hj => hn j (Nat.zero_le _) hj), by rw [hS0]; exact fun _ _ => rfl, by rw [hS0]; exact frQ_refl _ _⟩) (fun i hi2 Sa hJ2 ih2 => ?_) (fun Saf hJ2 => ?_)
  · have hi2 := hi2
    obtain ⟨hza, hqa, hfa⟩ := hJ2
    have hqU := (hP.1 _ (h0.1 i hi2).1)
    refine sL (pc' := 3) (i := .iload_n 2) rfl rfl ?_
    refine sL (pc' := 4) (i := .iload_n 1) rfl rfl ?_
    refine sIc_ge (p := 7) rfl rfl ⟨by omega, by omega⟩ ⟨by omega, by omega⟩ (fun c1 => ?_) (fun c1 => ?_)
    · exfalso; omega
    · have c1 := c1
      refine sL (pc' := 8) (i := .aload_n 0) rfl rfl ?_
      refine sGr (p := 11) rfl rfl (sk_52 _) rfl rfl rfl (frQ_A hfa hA0).2.2.2.2.2.2.1 ?_
      refine sL (pc' := 12) (i := .aload_n 0) rfl rfl ?_
      refine sGr (p := 15) rfl rfl (sk_52 _) rfl rfl rfl (frQ_A hfa hA0).2.2.2.2.2.2.2.1 ?_
      refine sL (pc' := 16) (i := .iload_n 2) rfl rfl ?_
      refine sAi (p := 17) (i := i) rfl rfl (frQ_A hfa hA0).2.2.2.2.2.2.2.2.2.2.2.2.2.1 (by omega) ⟨by omega, by omega⟩ ((hqa i (by omega)).trans (h0.1 i hi2).2.2.1) ?_
      refine sKi (p := 18) rfl rfl ?_
      refine sWi (p := 19) (i := q i) rfl rfl (frQ_A hfa hA0).2.2.2.2.2.2.2.2.2.2.2.2.1 (by omega) ⟨by omega, by omega⟩ ?_
      refine sInX (z := ((i : Nat) : Int)) (ls' := [some (.ref 52), some (.int (iI ((N : Nat) : Int))), some (.int (iI (((i : Nat) : Int) + 1)))]) (p := 22) rfl rfl (Nat.le_of_ble_eq_true rfl) rfl rfl ?_
      refine sL (i := .goto (-20)) rfl rfl ?_
      refine sFg (ls := [some (.ref 52), some (.int (iI ((N : Nat) : Int))), some (.int (iI ((i + 1 : Nat) : Int)))]) (xx_ll_le (And.intro rfl (And.intro rfl (And.intro rfl (True.intro))))) (ih2 _ ?_)
      refine ⟨fun x hx hn => ?_, fun j hj => (rI_ne (by omega) _).trans (hqa j hj), frQ_trans hfa (frQ_wI (Or.inl rfl))⟩
      by_cases c9 : x = q i
      · rw [c9, rI_at]
      · rw [rI_nj c9]
        refine hza x hx (fun j h1 h2 => ?_)
        by_cases c8 : j = i
        · rw [c8]; exact fun z => c9 z.symm
        · exact hn j (by omega) h2
  · have hJ2 := hJ2
    obtain ⟨hzf, hqf, hff⟩ := hJ2
    refine sL (pc' := 3) (i := .iload_n 2) rfl rfl ?_
    refine sL (pc' := 4) (i := .iload_n 1) rfl rfl ?_
    refine sIc_ge (p := 7) rfl rfl ⟨by omega, by omega⟩ ⟨by omega, by omega⟩ (fun c2 => ?_) (fun c2 => ?_)
    · have c2 := c2
      refine sEn (i := .return_) rfl (rfl) ?_
      exact ⟨rfl, fun x hx => hzf x hx (fun j h1 h2 => absurd h1 (by omega)), hff⟩
    · exfalso; omega
end EB
