/-! ===== the reference: grow, size ===== -/
def frG (S S' : ST) : Prop := S'.1 = S.1 ∧ SR S' = SR S ∧ (∀ b, b ≠ 195 → b ≠ 187 → SL S' b = SL S b) ∧ (∀ b, b ≠ 198 → b ≠ 179 → b ≠ 196 → b ≠ 197 → SI S' b = SI S b) ∧ (∀ f, f ≠ 38 → SI S' 179 f = SI S 179 f)
theorem frG_refl (S : ST) : frG S S := ⟨rfl, rfl, fun _ _ _ => rfl, fun _ _ _ _ _ => rfl, fun _ _ => rfl⟩
theorem frG_trans {A B C : ST} (h : frG A B) (k : frG B C) : frG A C := ⟨k.1.trans h.1, k.2.1.trans h.2.1, fun b h1 h2 => (k.2.2.1 b h1 h2).trans (h.2.2.1 b h1 h2), fun b h1 h2 h3 h4 => (k.2.2.2.1 b h1 h2 h3 h4).trans (h.2.2.2.1 b h1 h2 h3 h4), fun f hf => (k.2.2.2.2 f hf).trans (h.2.2.2.2 f hf)⟩
theorem frG_N {A B : ST} (h : frN A B) : frG A B := ⟨h.1, h.2.1, fun b h1 _ => h.2.2.1 b h1, fun b h1 h2 _ _ => h.2.2.2.1 b h1 h2, h.2.2.2.2⟩
theorem frG_wI {S : ST} {a i : Nat} {z : Int} (ha : a = 196 ∨ a = 197 ∨ a = 198) : frG S (wI S a i z) := ⟨rfl, rfl, fun _ _ _ => rfl, fun b h1 h2 h3 h4 => u2_ne (by omega), fun f _ => congrFun (u2_ne (show 179 ≠ a by omega)) f⟩
theorem frG_two {S : ST} {o : Nat} {f : Nat → Bool} : frG S (wRw S 187 o f) := ⟨rfl, rfl, fun b _ h => if_neg h, fun _ _ _ _ _ => rfl, fun _ _ => rfl⟩
theorem frG_vM {n : Nat} {sz : Nat → Nat} {A B : ST} (h : frG A B) (hv : vM A n sz) : vM B n sz := by
  obtain ⟨h1, h2, h3, h4, h5⟩ := hv
  refine ⟨h1, ?_, ?_, ?_, ?_⟩
  · rw [h.2.2.2.2 1 (by decide)]
    exact h2
  · rw [h.2.2.2.2 4 (by decide)]
    exact h3
  · rw [h.2.2.2.1 180 (by decide) (by decide) (by decide) (by decide)]
    exact h4
  · rw [h.2.2.2.1 181 (by decide) (by decide) (by decide) (by decide)]
    exact h5
theorem frG_oM {n : Nat} {ord : Nat → Nat} {A B : ST} (h : frG A B) (ho : oM A n ord) : oM B n ord := by
  unfold oM
  rw [h.2.2.2.1 184 (by decide) (by decide) (by decide) (by decide)]
  exact ho
theorem nM_cg {S S' : ST} {c : Nat} {L : Nat → Nat → Bool} (h1 : SI S' 179 38 = SI S 179 38) (h2 : SL S' 195 = SL S 195) (h3 : SI S' 198 = SI S 198) (h : nM S c L) : nM S' c L := by
  unfold nM rowS at *
  rw [h1, h2, h3]
  exact h
theorem SL_wRw_ne {S : ST} {a o b : Nat} {f : Nat → Bool} (h : b ≠ a) : SL (wRw S a o f) b = SL S b := if_neg h
/-- variables and leads of the first i nodes, in the list that comes out -/
def gM (S : ST) (n : Nat) (sz ord : Nat → Nat) (N : Nat) (L : Nat → Nat → Bool) (i : Nat) : Prop := ∀ j, j < i → SI S 196 j = ((ord (fpl n sz ord (L j)) : Nat) : Int) ∧ ∀ k, k < sz (ord (fpl n sz ord (L j))) → SI S 197 (j * 6 + k) = cdN (pr sz n) N L (cof n sz (L j) (ord (fpl n sz ord (L j))) k)
section M8
variable {X : List Int32} {S : ST} {n : Nat} {sz ord pl : Nat → Nat} {fn : Nat} {m : Nat} {F : Nat → Nat → Bool} {c : Nat} {L : Nat → Nat → Bool} {Fn : Nat → Nat → Bool}
theorem m_grow (hv : vM S n sz) (hoM : oM S n ord) (ho : prm n ord pl) (hm : m ≤ 40) (hS : nM S c L) (hL : LSt n sz ord m F c L) {N : Nat} {LN : Nat → Nat → Bool} (hLN : LN = (bfs n sz ord c L N).2) (hend : (bfs n sz ord c L N).1 = N) (hrun : ∀ j, j < N → j < (bfs n sz ord c L j).1) (hN : N ≤ 8910) (hLS : LSt n sz ord m F N LN) : sM X 4 232 [.ref 179] S (fun v S' => v = none ∧ frG S S' ∧ nM S' N LN ∧ gM S' n sz ord N LN N) := by
  have hn := hv.1.1
  have hT0 := hv.1.2.2
  have hw := hv.1
  have hxt : ∀ i, i ≤ N → ∀ j, j < (bfs n sz ord c L i).1 → (bfs n sz ord c L i).2 j = LN j := fun i hi j hj => by
    rw [hLN]
    exact ((bfs_ext (n := n) (sz := sz) (ord := ord) (c := c) (L := L) hi).2 j hj).symm
  have hle : ∀ i, i ≤ N → (bfs n sz ord c L i).1 ≤ N := fun i hi => by
    have := (bfs_ext (n := n) (sz := sz) (ord := ord) (c := c) (L := L) hi).1
    omega
  obtain ⟨S0, hS0⟩ : ∃ S0, S0 = S := ⟨S, rfl⟩
  have hv0 : vM S0 n sz := by rw [hS0]; exact hv
  have ho0 : oM S0 n ord := by rw [hS0]; exact hoM
  rw [show (fun v S' => v = none ∧ frG S S' ∧ nM S' N LN ∧ gM S' n sz ord N LN N) = (fun (v : Option Value) S' => v = none ∧ frG S0 S' ∧ nM S' N LN ∧ gM S' n sz ord N LN N) from by rw [hS0]]
  refine sIni (ls := [some (.ref 179), none, none, none]) rfl ?_
  refine sKi (p := 1) rfl rfl ?_
  refine sL (pc' := 2) (i := .istore_n 1) (ls' := [some (.ref 179), some (.int (iI 0)), none, none]) rfl rfl ?_
  refine sItR (A := fun i => [some (.ref 179), some (.int (iI ((i : Nat) : Int))), none, none]) (fun i S => frG S0 S ∧ nM S (bfs n sz ord c L i).1 (bfs n sz ord c L i).2 ∧ gM S n sz ord N LN i) N (⟨hS0 ▸ frG_refl S, hS, fun j hj => absurd hj (by omega)⟩) (fun i hi2 Sa hJ2 ih2 => ?_) (fun Saf hJ2 => ?_)
  · have hi2 := hi2
    obtain ⟨hfa, hna, hga⟩ := hJ2
    have hri := hrun i hi2
    have hlei := hle i (by omega)
    have hLi := hxt i (by omega) i hri
    have hel := hLS.1 i hi2
    have hfp := fpl_lt hw ho hel.1 hel.2.1
    have hvv := (ho.1 _ hfp).1
    have hsv := hw.2.1 _ hvv
    have hrow : rowS Sa 195 (16 * i) (LN i) := by rw [← hLi]; exact hna.2.1 i hri
    refine sL (pc' := 3) (i := .iload_n 1) rfl rfl ?_
    refine sL (pc' := 4) (i := .aload_n 0) rfl rfl ?_
    refine sGi (p := 7) rfl rfl (sk_179 _) rfl rfl rfl hna.1 ?_
    refine sIc_ge (p := 10) rfl rfl ⟨by omega, by omega⟩ ⟨by omega, by omega⟩ (fun c1 => ?_) (fun c1 => ?_)
    · exfalso; omega
    · have c1 := c1
      refine sL (pc' := 11) (i := .aload_n 0) rfl rfl ?_
      refine sL (pc' := 12) (i := .aload_n 0) rfl rfl ?_
      refine sGc (p := 15) rfl rfl (sk_179 _) rfl rfl rfl ?_
      refine sKb (p := 17) rfl rfl ?_
      refine sL (pc' := 18) (i := .iload_n 1) rfl rfl ?_
      refine sMu (p := 19) rfl rfl ?_
      refine sCv (p := 22) (as := [_, _]) rfl rfl rfl rfl (by decide) (Nat.le_of_ble_eq_true rfl) rfl (Nat.le_of_ble_eq_true rfl) (sk_179 _) rfl (by omega) (m_firstBy (a := 195) (o := 16 * i) (f := LN i) (frG_vM hfa hv0) (frG_oM hfa ho0) (fun p hp => (ho.1 p hp).1) (sk_195 _) ⟨by omega, by omega⟩ hrow hfp) ?_
      refine sL (pc' := 23) (i := .istore_n 2) (ls' := [some (.ref 179), some (.int (iI ((i : Nat) : Int))), some (.int (iI ((ord (fpl n sz ord (LN i)) : Nat) : Int))), none]) rfl rfl ?_
      refine sL (pc' := 24) (i := .aload_n 0) rfl rfl ?_
      refine sGc (p := 27) rfl rfl (sk_179 _) rfl rfl rfl ?_
      refine sL (pc' := 28) (i := .iload_n 1) rfl rfl ?_
      refine sL (pc' := 29) (i := .iload_n 2) rfl rfl ?_
      refine sWi (p := 30) (i := i) rfl rfl (sk_196 _) (by omega) ⟨by omega, by omega⟩ ?_
      refine sKi (p := 31) rfl rfl ?_
      refine sL (pc' := 32) (i := .istore_n 3) (ls' := [some (.ref 179), some (.int (iI ((i : Nat) : Int))), some (.int (iI ((ord (fpl n sz ord (LN i)) : Nat) : Int))), some (.int (iI 0))]) rfl rfl ?_
      refine sItR (A := fun k => [some (.ref 179), some (.int (iI ((i : Nat) : Int))), some (.int (iI ((ord (fpl n sz ord (LN i)) : Nat) : Int))), some (.int (iI ((k : Nat) : Int)))]) (fun k S => frG S0 S ∧ nM S (addK n sz (LN i) (ord (fpl n sz ord (LN i))) (bfs n sz ord c L i).1 (bfs n sz ord c L i).2 k).1 (addK n sz (LN i) (ord (fpl n sz ord (LN i))) (bfs n sz ord c L i).1 (bfs n sz ord c L i).2 k).2 ∧ gM S n sz ord N LN i ∧ SI S 196 i = (((ord (fpl n sz ord (LN i))) : Nat) : Int) ∧ ∀ k2, k2 < k → SI S 197 (i * 6 + k2) = cdN (pr sz n) N LN (cof n sz (LN i) (ord (fpl n sz ord (LN i))) k2)) (sz (ord (fpl n sz ord (LN i)))) (⟨frG_trans hfa (frG_wI (Or.inl rfl)), nM_cg rfl rfl rfl hna, fun j hj => ⟨(SI_wI _ _ _ _ _ _).trans ((if_neg (by omega)).trans (hga j hj).1), (hga j hj).2⟩, (SI_wI _ _ _ _ _ _).trans (if_pos ⟨rfl, rfl⟩), fun k2 hk2 => absurd hk2 (by omega)⟩) (fun k hi32 Sb hJ32 ih32 => ?_) (fun Sbf hJ32 => ?_)
      · have hi32 := hi32
        obtain ⟨hfb, hnb, hgb, hvb, hlb⟩ := hJ32
        have hkb : xtn (bfs n sz ord c L i).1 (bfs n sz ord c L i).2 (addK n sz (LN i) (ord (fpl n sz ord (LN i))) (bfs n sz ord c L i).1 (bfs n sz ord c L i).2 k).1 (addK n sz (LN i) (ord (fpl n sz ord (LN i))) (bfs n sz ord c L i).1 (bfs n sz ord c L i).2 k).2 := (addK_ext (n := n) (sz := sz) (c := (bfs n sz ord c L i).1) (L := (bfs n sz ord c L i).2) (LN i) (ord (fpl n sz ord (LN i))) (i := 0) (k := k) (Nat.zero_le _))
        have hst : (bfs n sz ord c L (i + 1)) = (addK n sz (LN i) (ord (fpl n sz ord (LN i))) (bfs n sz ord c L i).1 (bfs n sz ord c L i).2 (sz (ord (fpl n sz ord (LN i))))) := by
          show addK n sz ((bfs n sz ord c L i).2 i) (ord (fpl n sz ord ((bfs n sz ord c L i).2 i))) _ _ (sz (ord (fpl n sz ord ((bfs n sz ord c L i).2 i)))) = _
          rw [hLi]
        have hku := (addK_ext (n := n) (sz := sz) (c := (bfs n sz ord c L i).1) (L := (bfs n sz ord c L i).2) (LN i) (ord (fpl n sz ord (LN i))) (i := k) (k := sz (ord (fpl n sz ord (LN i)))) (by omega))
        have hlk : (addK n sz (LN i) (ord (fpl n sz ord (LN i))) (bfs n sz ord c L i).1 (bfs n sz ord c L i).2 k).1 ≤ N := by have h9 := hle (i + 1) (by omega); rw [hst] at h9; have := hku.1; omega
        have hrowb : rowS Sb 195 (16 * i) (LN i) := by rw [← hLi, ← hkb.2 i hri]; exact hnb.2.1 i (by have := hkb.1; have : (bfs n sz ord c L i).1 ≤ (addK n sz (LN i) (ord (fpl n sz ord (LN i))) (bfs n sz ord c L i).1 (bfs n sz ord c L i).2 k).1 := this; omega)
        refine sL (pc' := 33) (i := .iload_n 3) rfl rfl ?_
        refine sL (pc' := 34) (i := .aload_n 0) rfl rfl ?_
        refine sGc (p := 37) rfl rfl (sk_179 _) rfl rfl rfl ?_
        refine sL (pc' := 38) (i := .iload_n 2) rfl rfl ?_
        refine sAi (p := 39) (i := ord (fpl n sz ord (LN i))) rfl rfl (sk_180 _) (by omega) ⟨by omega, by omega⟩ ((frG_vM hfb hv0).2.2.2.1 _ hvv) ?_
        refine sIc_ge (p := 42) rfl rfl ⟨by omega, by omega⟩ ⟨by omega, by omega⟩ (fun c2 => ?_) (fun c2 => ?_)
        · exfalso; omega
        · have c2 := c2
          refine sL (pc' := 43) (i := .aload_n 0) rfl rfl ?_
          refine sL (pc' := 44) (i := .aload_n 0) rfl rfl ?_
          refine sGc (p := 47) rfl rfl (sk_179 _) rfl rfl rfl ?_
          refine sKb (p := 49) rfl rfl ?_
          refine sL (pc' := 50) (i := .iload_n 1) rfl rfl ?_
          refine sMu (p := 51) rfl rfl ?_
          refine sL (pc' := 52) (i := .iload_n 2) rfl rfl ?_
          refine sL (pc' := 53) (i := .iload_n 3) rfl rfl ?_
          refine sL (pc' := 54) (i := .aload_n 0) rfl rfl ?_
          refine sGc (p := 57) rfl rfl (sk_179 _) rfl rfl rfl ?_
          refine sKi (p := 58) rfl rfl ?_
          refine sCv (p := 61) (as := [_, _, _, _, _, _]) rfl rfl rfl rfl (by decide) (Nat.le_of_ble_eq_true rfl) rfl (Nat.le_of_ble_eq_true rfl) (sk_179 _) rfl (by omega) (m_fix (a := 195) (b := 187) (o1 := 16 * i) (o2 := 0) (f := LN i) (frG_vM hfb hv0) (sk_195 _) (sk_187 _) ⟨by omega, by omega⟩ ⟨by omega, by omega⟩ (by decide) hrowb hvv hi32) ?_
          refine sL (pc' := 62) (i := .aload_n 0) rfl rfl ?_
          refine sGc (p := 65) rfl rfl (sk_179 _) rfl rfl rfl ?_
          refine sKb (p := 67) rfl rfl ?_
          refine sL (pc' := 68) (i := .iload_n 1) rfl rfl ?_
          refine sMu (p := 69) rfl rfl ?_
          refine sL (pc' := 70) (i := .iload_n 3) rfl rfl ?_
          refine sAd (p := 71) rfl rfl ?_
          refine sL (pc' := 72) (i := .aload_n 0) rfl rfl ?_
          refine sL (pc' := 73) (i := .aload_n 0) rfl rfl ?_
          refine sGc (p := 76) rfl rfl (sk_179 _) rfl rfl rfl ?_
          refine sKi (p := 77) rfl rfl ?_
          refine sCvQ (p := 80) (as := [_, _]) rfl rfl rfl rfl (by decide) (Nat.le_of_ble_eq_true rfl) rfl (Nat.le_of_ble_eq_true rfl) (sk_179 _) rfl (by omega) (m_number (S := wRw Sb 187 0 (cof n sz (LN i) (ord (fpl n sz ord (LN i))) k)) (a := 187) (o := 0) (g := cof n sz (LN i) (ord (fpl n sz ord (LN i))) k) (frG_vM (frG_trans hfb frG_two) hv0) (nM_cg (S := Sb) rfl (SL_wRw_ne (by decide)) rfl hnb) (by omega) (sk_187 _) ⟨by omega, by omega⟩ (by decide) (rowS_wRw _ _ _ _)) ?_
          rintro _ Sd ⟨rfl, hnd, hfd⟩
          refine sWi (p := 81) (i := i * 6 + k) rfl rfl (sk_197 _) (by omega) ⟨by omega, by omega⟩ ?_
          refine sInX (z := ((k : Nat) : Int)) (ls' := [some (.ref 179), some (.int (iI ((i : Nat) : Int))), some (.int (iI ((ord (fpl n sz ord (LN i)) : Nat) : Int))), some (.int (iI (((k : Nat) : Int) + 1)))]) (p := 84) rfl rfl (Nat.le_of_ble_eq_true rfl) rfl rfl ?_
          refine sL (i := .goto (-52)) rfl rfl ?_
          refine sFg (ls := [some (.ref 179), some (.int (iI ((i : Nat) : Int))), some (.int (iI ((ord (fpl n sz ord (LN i)) : Nat) : Int))), some (.int (iI ((k + 1 : Nat) : Int)))]) (xx_ll_le (And.intro rfl (And.intro rfl (And.intro rfl (And.intro rfl (True.intro)))))) (ih32 _ ?_)
          have hku1 := (addK_ext (n := n) (sz := sz) (c := (bfs n sz ord c L i).1) (L := (bfs n sz ord c L i).2) (LN i) (ord (fpl n sz ord (LN i))) (i := k + 1) (k := sz (ord (fpl n sz ord (LN i)))) (by omega))
          rw [← hst] at hku1
          have hku2 := ext_trans hku1 (bfs_ext (n := n) (sz := sz) (ord := ord) (c := c) (L := L) (show i + 1 ≤ N by omega))
          rw [← hLN, hend] at hku2
          have hcd := addN_code (T := pr sz n) (c := (addK n sz (LN i) (ord (fpl n sz ord (LN i))) (bfs n sz ord c L i).1 (bfs n sz ord c L i).2 k).1) (L := (addK n sz (LN i) (ord (fpl n sz ord (LN i))) (bfs n sz ord c L i).1 (bfs n sz ord c L i).2 k).2) (g := cof n sz (LN i) (ord (fpl n sz ord (LN i))) k) hku2
          refine ⟨frG_trans hfb (frG_trans frG_two (frG_trans (frG_N hfd) (frG_wI (Or.inr (Or.inl rfl))))), nM_cg (by rfl) (by rfl) (by rfl) hnd, fun j hj => ?_, ?_, fun k2 hk2 => ?_⟩
          · have h196 : SI Sd 196 = SI Sb 196 := hfd.2.2.2.1 196 (by decide) (by decide)
            have h197 : SI Sd 197 = SI Sb 197 := hfd.2.2.2.1 197 (by decide) (by decide)
            have hgj := hgb j hj
            have hjN := (ho.1 _ (fpl_lt hw ho (hLS.1 j (by omega)).1 (hLS.1 j (by omega)).2.1)).1
            have hsj := hw.2.1 _ hjN
            refine ⟨?_, fun k3 hk3 => ?_⟩
            · rw [SI_wI, if_neg (fun z => absurd z.1 (by decide)), h196]; exact hgj.1
            · rw [SI_wI, if_neg (fun z => by have := z.2; omega), h197]; exact hgj.2 k3 hk3
          · have h196 : SI Sd 196 = SI Sb 196 := hfd.2.2.2.1 196 (by decide) (by decide)
            rw [SI_wI, if_neg (fun z => absurd z.1 (by decide)), h196]; exact hvb
          · have h197 : SI Sd 197 = SI Sb 197 := hfd.2.2.2.1 197 (by decide) (by decide)
            by_cases ck : k2 = k
            · subst ck; rw [SI_wI, if_pos ⟨rfl, rfl⟩]; exact hcd.symm
            · rw [SI_wI, if_neg (fun z => by have := z.2; omega), h197]; exact hlb k2 (by omega)
      · have hJ32 := hJ32
        obtain ⟨hfbf, hnbf, hgbf, hvbf, hlbf⟩ := hJ32
        refine sL (pc' := 33) (i := .iload_n 3) rfl rfl ?_
        refine sL (pc' := 34) (i := .aload_n 0) rfl rfl ?_
        refine sGc (p := 37) rfl rfl (sk_179 _) rfl rfl rfl ?_
        refine sL (pc' := 38) (i := .iload_n 2) rfl rfl ?_
        refine sAi (p := 39) (i := ord (fpl n sz ord (LN i))) rfl rfl (sk_180 _) (by omega) ⟨by omega, by omega⟩ ((frG_vM hfbf hv0).2.2.2.1 _ hvv) ?_
        refine sIc_ge (p := 42) rfl rfl ⟨by omega, by omega⟩ ⟨by omega, by omega⟩ (fun c3 => ?_) (fun c3 => ?_)
        · have c3 := c3
          refine sInX (z := ((i : Nat) : Int)) (ls' := [some (.ref 179), some (.int (iI (((i : Nat) : Int) + 1))), some (.int (iI ((ord (fpl n sz ord (LN i)) : Nat) : Int))), some (.int (iI ((sz (ord (fpl n sz ord (LN i))) : Nat) : Int)))]) (p := 90) rfl rfl (Nat.le_of_ble_eq_true rfl) rfl rfl ?_
          refine sL (i := .goto (-88)) rfl rfl ?_
          refine sFg (ls := [some (.ref 179), some (.int (iI ((i + 1 : Nat) : Int))), none, none]) (xx_ll_le (And.intro rfl (And.intro rfl (True.intro)))) (ih2 _ ?_)
          have hst : (bfs n sz ord c L (i + 1)) = (addK n sz (LN i) (ord (fpl n sz ord (LN i))) (bfs n sz ord c L i).1 (bfs n sz ord c L i).2 (sz (ord (fpl n sz ord (LN i))))) := by
            show addK n sz ((bfs n sz ord c L i).2 i) (ord (fpl n sz ord ((bfs n sz ord c L i).2 i))) _ _ (sz (ord (fpl n sz ord ((bfs n sz ord c L i).2 i)))) = _
            rw [hLi]
          refine ⟨hfbf, by rw [hst]; exact hnbf, fun j hj => ?_⟩
          by_cases cj : j = i
          · subst cj
            exact ⟨hvbf, hlbf⟩
          · exact hgbf j (by omega)
        · exfalso; omega
  · have hJ2 := hJ2
    obtain ⟨hfaf, hnaf, hgaf⟩ := hJ2
    have hen := hend
    refine sL (pc' := 3) (i := .iload_n 1) rfl rfl ?_
    refine sL (pc' := 4) (i := .aload_n 0) rfl rfl ?_
    refine sGi (p := 7) rfl rfl (sk_179 _) rfl rfl rfl hnaf.1 ?_
    refine sIc_ge (p := 10) rfl rfl ⟨by omega, by omega⟩ ⟨by omega, by omega⟩ (fun c4 => ?_) (fun c4 => ?_)
    · have c4 := c4
      refine sEn (i := .return_) rfl (rfl) ?_
      exact ⟨rfl, hfaf, by rw [hend, ← hLN] at hnaf; exact hnaf, hgaf⟩
    · exfalso; exact absurd c4 (by rw [hend]; exact Int.lt_irrefl _)
end M8
