/-! ===== the reference: sizes ===== -/
def L0 : Nat → Nat → Bool := fun _ _ => false
def addF (n : Nat) (sz : Nat → Nat) (F : Nat → Nat → Bool) : Nat → Nat × (Nat → Nat → Bool)
  | 0 => (0, L0)
  | f + 1 => addN (pr sz n) (addF n sz F f).1 (addF n sz F f).2 (F f)
def bEnd (n : Nat) (sz ord : Nat → Nat) (c : Nat) (L : Nat → Nat → Bool) (N : Nat) : Prop := (bfs n sz ord c L N).1 = N ∧ ∀ j, j < N → j < (bfs n sz ord c L j).1
theorem bEnd_u {n : Nat} {sz ord : Nat → Nat} {c : Nat} {L : Nat → Nat → Bool} {N M : Nat} (h : bEnd n sz ord c L N) (k : bEnd n sz ord c L M) : N = M := by
  by_cases c1 : N < M
  · have := k.2 N c1
    have := h.1
    omega
  · by_cases c2 : M < N
    · have := h.2 M c2
      have := k.1
      omega
    · omega
theorem L0_LS (n : Nat) (sz ord : Nat → Nat) (m : Nat) (F : Nat → Nat → Bool) : LSt n sz ord m F 0 L0 := ⟨fun j hj => absurd hj (by omega), fun i j _ hj => absurd hj (by omega)⟩
theorem addF_LS {n : Nat} {sz ord pl : Nat → Nat} {m : Nat} {F : Nat → Nat → Bool} (hw : wf n sz) (ho : prm n ord pl) (ht : ∀ f, f < m → tbT (pr sz n) (F f)) : ∀ {i : Nat}, i ≤ m → LSt n sz ord m F (addF n sz F i).1 (addF n sz F i).2
  | 0, _ => L0_LS _ _ _ _ _
  | i + 1, h => addN_LS hw (addF_LS hw ho ht (by omega)) (ht i (by omega)) (fun _ => isP_root hw ho (by omega) (ht i (by omega)))
def emp (S : ST) : ST := wIA (wI S 179 38 0) 198 (fun k => if k < 32768 then -1 else SI S 198 k)
theorem emp_198 (S : ST) (k : Nat) : SI (emp S) 198 k = if k < 32768 then -1 else SI S 198 k := by
  unfold emp
  rw [SI_wIA, if_pos rfl]
theorem emp_ne (S : ST) {b : Nat} (h : b ≠ 198) (k : Nat) : SI (emp S) b k = if b = 179 ∧ k = 38 then 0 else SI S b k := by
  unfold emp
  rw [SI_wIA, if_neg h, SI_wI]
theorem emp_nM (S : ST) (L : Nat → Nat → Bool) : nM (emp S) 0 L := by
  refine ⟨?_, fun i hi => absurd hi (by omega), fun s hs => Or.inl ?_, fun s t hs ht _ hne => ?_, fun i hi => absurd hi (by omega), fun i j _ hj => absurd hj (by omega)⟩
  · rw [emp_ne S (by decide), if_pos ⟨rfl, rfl⟩]
    rfl
  · rw [emp_198, if_pos hs]
  · rw [emp_198, if_pos hs] at hne
    exact absurd rfl hne
theorem emp_fr (S : ST) : frG S (emp S) := ⟨rfl, rfl, fun _ _ _ => rfl, fun b h1 h2 _ _ => funext fun k => by
  rw [emp_ne S h1, if_neg (fun z => h2 z.1)], fun f hf => by
  rw [emp_ne S (by decide), if_neg (fun z => hf z.2)]⟩
section M9
variable {X : List Int32} {S : ST} {n : Nat} {sz ord pl : Nat → Nat} {fn : Nat} {Fn : Nat → Nat → Bool}
theorem frG_row {A B : ST} {b o : Nat} {f : Nat → Bool} (h : frG A B) (h1 : b ≠ 195) (h2 : b ≠ 187) (hr : rowS A b o f) : rowS B b o f := fun k hk => by
  rw [h.2.2.1 b h1 h2]
  exact hr k hk
theorem m_sizeOfAll (hv : vM S n sz) (hoM : oM S n ord) (ho : prm n ord pl) (hfn : SI S 179 9 = (fn : Nat)) (h40 : fn ≤ 40) (hF : ∀ i, i < fn → rowS S 185 (16 * i) (Fn i)) (htb : ∀ i, i < fn → tbT (pr sz n) (Fn i)) {N : Nat} (hE : bEnd n sz ord (addF n sz Fn fn).1 (addF n sz Fn fn).2 N) : sM X 5 233 [.ref 179] S (fun v S' => v = some (.int (iI (N : Nat))) ∧ frG S S' ∧ nM S' N (bfs n sz ord (addF n sz Fn fn).1 (addF n sz Fn fn).2 N).2 ∧ gM S' n sz ord N (bfs n sz ord (addF n sz Fn fn).1 (addF n sz Fn fn).2 N).2 N) := by
  have hw := hv.1
  obtain ⟨S0, hS0⟩ : ∃ S0, S0 = S := ⟨S, rfl⟩
  have hv0 : vM S0 n sz := by rw [hS0]; exact hv
  have ho0 : oM S0 n ord := by rw [hS0]; exact hoM
  have hfn0 : SI S0 179 9 = (fn : Nat) := by rw [hS0]; exact hfn
  have hF0 : ∀ i, i < fn → rowS S0 185 (16 * i) (Fn i) := by rw [hS0]; exact hF
  have hLf := addF_LS hw ho htb (Nat.le_refl fn)
  obtain ⟨M, hM1, hM2, hM3, hM4⟩ := bfs_end hw ho h40 hLf
  have hNM : M = N := bEnd_u ⟨hM1, hM2⟩ hE
  subst hNM
  have hq : ∀ (v : Option Value) (S' : ST), (v = some (.int (iI (M : Nat))) ∧ frG S0 S' ∧ nM S' M (bfs n sz ord (addF n sz Fn fn).1 (addF n sz Fn fn).2 M).2 ∧ gM S' n sz ord M (bfs n sz ord (addF n sz Fn fn).1 (addF n sz Fn fn).2 M).2 M) → (v = some (.int (iI (M : Nat))) ∧ frG S S' ∧ nM S' M (bfs n sz ord (addF n sz Fn fn).1 (addF n sz Fn fn).2 M).2 ∧ gM S' n sz ord M (bfs n sz ord (addF n sz Fn fn).1 (addF n sz Fn fn).2 M).2 M) := fun v S' h => by rw [← hS0]; exact h
  refine sM.weaken ?_ hq
  clear hq
  generalize hLN : (bfs n sz ord (addF n sz Fn fn).1 (addF n sz Fn fn).2 M).2 = LN at *
  refine sIni (ls := [some (.ref 179), none]) rfl ?_
  refine sL (pc' := 1) (i := .aload_n 0) rfl rfl ?_
  refine sCv (p := 4) (as := []) rfl rfl rfl rfl (by decide) (Nat.le_of_ble_eq_true rfl) rfl (Nat.le_of_ble_eq_true rfl) (sk_179 _) rfl (by omega) (m_empty) ?_
  refine sKi (p := 5) rfl rfl ?_
  refine sL (pc' := 6) (i := .istore_n 1) (ls' := [some (.ref 179), some (.int (iI 0))]) rfl rfl ?_
  refine sItR (A := fun i => [some (.ref 179), some (.int (iI ((i : Nat) : Int)))]) (fun i S => frG S0 S ∧ nM S (addF n sz Fn i).1 (addF n sz Fn i).2) fn (⟨hS0 ▸ emp_fr S, emp_nM S L0⟩) (fun i hi6 Sa hJ6 ih6 => ?_) (fun Saf hJ6 => ?_)
  · have hi6 := hi6
    obtain ⟨hfa, hna⟩ := hJ6
    refine sL (pc' := 7) (i := .iload_n 1) rfl rfl ?_
    refine sL (pc' := 8) (i := .aload_n 0) rfl rfl ?_
    refine sGi (p := 11) rfl rfl (sk_179 _) rfl rfl rfl ((hfa.2.2.2.2 9 (by decide)).trans hfn0) ?_
    refine sIc_ge (p := 14) rfl rfl ⟨by omega, by omega⟩ ⟨by omega, by omega⟩ (fun c1 => ?_) (fun c1 => ?_)
    · exfalso; omega
    · have c1 := c1
      refine sL (pc' := 15) (i := .aload_n 0) rfl rfl ?_
      refine sL (pc' := 16) (i := .aload_n 0) rfl rfl ?_
      refine sGc (p := 19) rfl rfl (sk_179 _) rfl rfl rfl ?_
      refine sKb (p := 21) rfl rfl ?_
      refine sL (pc' := 22) (i := .iload_n 1) rfl rfl ?_
      refine sMu (p := 23) rfl rfl ?_
      refine sCvQ (p := 26) (as := [_, _]) rfl rfl rfl rfl (by decide) (Nat.le_of_ble_eq_true rfl) rfl (Nat.le_of_ble_eq_true rfl) (sk_179 _) rfl (by omega) (m_number (a := 185) (o := 16 * i) (g := Fn i) (frG_vM hfa hv0) hna (by have := LS_le hw ho h40 (addF_LS hw ho htb (i := i) (by omega)); omega) (sk_185 _) ⟨by omega, by omega⟩ (by decide) (frG_row hfa (by decide) (by decide) (hF0 i hi6))) ?_
      rintro _ Sd ⟨rfl, hnd, hfd⟩
      refine sL (pc' := 27) (i := .pop) rfl rfl ?_
      refine sInX (z := ((i : Nat) : Int)) (ls' := [some (.ref 179), some (.int (iI (((i : Nat) : Int) + 1)))]) (p := 30) rfl rfl (Nat.le_of_ble_eq_true rfl) rfl rfl ?_
      refine sL (i := .goto (-24)) rfl rfl ?_
      refine sFg (ls := [some (.ref 179), some (.int (iI ((i + 1 : Nat) : Int)))]) (xx_ll_le (And.intro rfl (And.intro rfl (True.intro)))) (ih6 _ ?_)
      exact ⟨frG_trans hfa (frG_N hfd), hnd⟩
  · have hJ6 := hJ6
    obtain ⟨hfaf, hnaf⟩ := hJ6
    refine sL (pc' := 7) (i := .iload_n 1) rfl rfl ?_
    refine sL (pc' := 8) (i := .aload_n 0) rfl rfl ?_
    refine sGi (p := 11) rfl rfl (sk_179 _) rfl rfl rfl ((hfaf.2.2.2.2 9 (by decide)).trans hfn0) ?_
    refine sIc_ge (p := 14) rfl rfl ⟨by omega, by omega⟩ ⟨by omega, by omega⟩ (fun c2 => ?_) (fun c2 => ?_)
    · have c2 := c2
      refine sL (pc' := 34) (i := .aload_n 0) rfl rfl ?_
      refine sCvQ (p := 37) (as := []) rfl rfl rfl rfl (by decide) (Nat.le_of_ble_eq_true rfl) rfl (Nat.le_of_ble_eq_true rfl) (sk_179 _) rfl (by omega) (m_grow (frG_vM hfaf hv0) (frG_oM hfaf ho0) ho h40 hnaf hLf (N := M) hLN.symm hM1 hM2 hM3 hM4) ?_
      rintro _ Sz ⟨rfl, hfz, hnz, hgz⟩
      refine sL (pc' := 38) (i := .aload_n 0) rfl rfl ?_
      refine sGi (p := 41) rfl rfl (sk_179 _) rfl rfl rfl hnz.1 ?_
      refine sEn (i := .ireturn) rfl (rfl) ?_
      exact ⟨rfl, frG_trans hfaf hfz, hnz, hgz⟩
    · exfalso; omega
theorem m_size_u {x : Int} (hfn : SI S 179 9 = (fn : Nat)) (h40 : fn ≤ 40) (hx : rg x) (h1 : x ≠ -1) (h2 : ¬ (0 ≤ x ∧ x < fn)) : sM X 6 234 [.ref 179, .int (iI x)] S (sV (some (.int (iI (-101)))) S) := by
  have x1 := hx.1
  have x2 := hx.2
  refine sIni (ls := [some (.ref 179), some (.int (iI x))]) rfl ?_
  refine sL (pc' := 1) (i := .iload_n 1) rfl rfl ?_
  refine sKi (p := 2) rfl rfl ?_
  refine sIc_ne (p := 5) rfl rfl ⟨by omega, by omega⟩ ⟨by omega, by omega⟩ (fun c1 => ?_) (fun c1 => ?_)
  · have c1 := c1
    refine sL (pc' := 11) (i := .aload_n 0) rfl rfl ?_
    refine sL (pc' := 12) (i := .iload_n 1) rfl rfl ?_
    refine sCv (p := 15) (as := [_]) rfl rfl rfl rfl (by decide) (Nat.le_of_ble_eq_true rfl) rfl (Nat.le_of_ble_eq_true rfl) (sk_179 _) rfl (by omega) (m_isFunction hx hfn h40) ?_
    refine sBn (p := 18) rfl rfl (fun c2 => ?_) (fun c2 => ?_)
    · exfalso; have c2 := of_decide_eq_true c2; omega
    · have c2 := c2
      have c2 := of_decide_eq_false c2
      refine sKb (p := 20) rfl rfl ?_
      refine sEn (i := .ireturn) rfl (rfl) ?_
      exact ⟨rfl, rfl⟩
  · exfalso; omega
theorem m_size_a (hv : vM S n sz) (hoM : oM S n ord) (ho : prm n ord pl) (hfn : SI S 179 9 = (fn : Nat)) (h40 : fn ≤ 40) (hF : ∀ i, i < fn → rowS S 185 (16 * i) (Fn i)) (htb : ∀ i, i < fn → tbT (pr sz n) (Fn i)) {N : Nat} (hE : bEnd n sz ord (addF n sz Fn fn).1 (addF n sz Fn fn).2 N) : sM X 6 234 [.ref 179, .int (iI (-1))] S (fun v S' => v = some (.int (iI (N : Nat))) ∧ frG S S' ∧ nM S' N (bfs n sz ord (addF n sz Fn fn).1 (addF n sz Fn fn).2 N).2 ∧ gM S' n sz ord N (bfs n sz ord (addF n sz Fn fn).1 (addF n sz Fn fn).2 N).2 N) := by
  refine sIni (ls := [some (.ref 179), some (.int (iI (-1)))]) rfl ?_
  refine sL (pc' := 1) (i := .iload_n 1) rfl rfl ?_
  refine sKi (p := 2) rfl rfl ?_
  refine sIc_ne (p := 5) rfl rfl ⟨by omega, by omega⟩ ⟨by omega, by omega⟩ (fun c1 => ?_) (fun c1 => ?_)
  · exact absurd c1 (by decide)
  · have c1 := c1
    refine sL (pc' := 6) (i := .aload_n 0) rfl rfl ?_
    refine sCvQ (p := 9) (as := []) rfl rfl rfl rfl (by decide) (Nat.le_of_ble_eq_true rfl) rfl (Nat.le_of_ble_eq_true rfl) (sk_179 _) rfl (by omega) (m_sizeOfAll hv hoM ho hfn h40 hF htb hE) ?_
    rintro _ Sz ⟨rfl, hfz, hnz, hgz⟩
    refine sEn (i := .ireturn) rfl (rfl) ?_
    exact ⟨rfl, hfz, hnz, hgz⟩
theorem m_size_f (hv : vM S n sz) (hoM : oM S n ord) (ho : prm n ord pl) (hfn : SI S 179 9 = (fn : Nat)) (h40 : fn ≤ 40) (hF : ∀ i, i < fn → rowS S 185 (16 * i) (Fn i)) (htb : ∀ i, i < fn → tbT (pr sz n) (Fn i)) {f0 N : Nat} (hf0 : f0 < fn) (hE : bEnd n sz ord (addN (pr sz n) 0 L0 (Fn f0)).1 (addN (pr sz n) 0 L0 (Fn f0)).2 N) : sM X 6 234 [.ref 179, .int (iI (f0 : Nat))] S (fun v S' => v = some (.int (iI (N : Nat))) ∧ frG S S' ∧ nM S' N (bfs n sz ord (addN (pr sz n) 0 L0 (Fn f0)).1 (addN (pr sz n) 0 L0 (Fn f0)).2 N).2 ∧ gM S' n sz ord N (bfs n sz ord (addN (pr sz n) 0 L0 (Fn f0)).1 (addN (pr sz n) 0 L0 (Fn f0)).2 N).2 N) := by
  have hw := hv.1
  have hLf : LSt n sz ord fn Fn (addN (pr sz n) 0 L0 (Fn f0)).1 (addN (pr sz n) 0 L0 (Fn f0)).2 := addN_LS hw (L0_LS _ _ _ _ _) (htb f0 hf0) (fun _ => isP_root hw ho hf0 (htb f0 hf0))
  obtain ⟨M, hM1, hM2, hM3, hM4⟩ := bfs_end hw ho h40 hLf
  have hNM : M = N := bEnd_u ⟨hM1, hM2⟩ hE
  subst hNM
  generalize hLN : (bfs n sz ord (addN (pr sz n) 0 L0 (Fn f0)).1 (addN (pr sz n) 0 L0 (Fn f0)).2 M).2 = LN at *
  refine sIni (ls := [some (.ref 179), some (.int (iI ((f0 : Nat) : Int)))]) rfl ?_
  refine sL (pc' := 1) (i := .iload_n 1) rfl rfl ?_
  refine sKi (p := 2) rfl rfl ?_
  refine sIc_ne (p := 5) rfl rfl ⟨by omega, by omega⟩ ⟨by omega, by omega⟩ (fun c1 => ?_) (fun c1 => ?_)
  · have c1 := c1
    refine sL (pc' := 11) (i := .aload_n 0) rfl rfl ?_
    refine sL (pc' := 12) (i := .iload_n 1) rfl rfl ?_
    refine sCv (p := 15) (as := [_]) rfl rfl rfl rfl (by decide) (Nat.le_of_ble_eq_true rfl) rfl (Nat.le_of_ble_eq_true rfl) (sk_179 _) rfl (by omega) (m_isFunction ⟨by omega, by omega⟩ hfn h40) ?_
    refine sBn (p := 18) rfl rfl (fun c2 => ?_) (fun c2 => ?_)
    · have c2 := c2
      have c2 := of_decide_eq_true c2
      refine sL (pc' := 22) (i := .aload_n 0) rfl rfl ?_
      refine sCv (p := 25) (as := []) rfl rfl rfl rfl (by decide) (Nat.le_of_ble_eq_true rfl) rfl (Nat.le_of_ble_eq_true rfl) (sk_179 _) rfl (by omega) (m_empty) ?_
      refine sL (pc' := 26) (i := .aload_n 0) rfl rfl ?_
      refine sL (pc' := 27) (i := .aload_n 0) rfl rfl ?_
      refine sGc (p := 30) rfl rfl (sk_179 _) rfl rfl rfl ?_
      refine sKb (p := 32) rfl rfl ?_
      refine sL (pc' := 33) (i := .iload_n 1) rfl rfl ?_
      refine sMu (p := 34) rfl rfl ?_
      refine sCvQ (p := 37) (as := [_, _]) rfl rfl rfl rfl (by decide) (Nat.le_of_ble_eq_true rfl) rfl (Nat.le_of_ble_eq_true rfl) (sk_179 _) rfl (by omega) (m_number (S := emp S) (a := 185) (o := 16 * f0) (g := Fn f0) (frG_vM (emp_fr S) hv) (emp_nM S L0) (by omega) (sk_185 _) ⟨by omega, by omega⟩ (by decide) (frG_row (emp_fr S) (by decide) (by decide) (hF f0 hf0))) ?_
      rintro _ Sd ⟨rfl, hnd, hfd⟩
      refine sL (pc' := 38) (i := .pop) rfl rfl ?_
      refine sL (pc' := 39) (i := .aload_n 0) rfl rfl ?_
      refine sCvQ (p := 42) (as := []) rfl rfl rfl rfl (by decide) (Nat.le_of_ble_eq_true rfl) rfl (Nat.le_of_ble_eq_true rfl) (sk_179 _) rfl (by omega) (m_grow (frG_vM (frG_trans (emp_fr S) (frG_N hfd)) hv) (frG_oM (frG_trans (emp_fr S) (frG_N hfd)) hoM) ho h40 hnd hLf (N := M) hLN.symm hM1 hM2 hM3 hM4) ?_
      rintro _ Sz ⟨rfl, hfz, hnz, hgz⟩
      refine sL (pc' := 43) (i := .aload_n 0) rfl rfl ?_
      refine sGi (p := 46) rfl rfl (sk_179 _) rfl rfl rfl hnz.1 ?_
      refine sEn (i := .ireturn) rfl (rfl) ?_
      exact ⟨rfl, frG_trans (frG_trans (emp_fr S) (frG_N hfd)) hfz, hnz, hgz⟩
    · exfalso; have c2 := of_decide_eq_false c2; omega
  · exfalso; omega
end M9
