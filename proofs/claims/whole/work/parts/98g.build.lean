/-! ===== the diagram: a function is built ===== -/
/-- every node asks its first variable -/
def cnO (n : Nat) (sz ord : Nat → Nat) (D : DT) : Prop := ∀ x, dl D x = true → dv D x = ord (fpl n sz ord (ds D x))
/-- every node has a user, but for some -/
def uD (sz : Nat → Nat) (D : DT) (U : Nat) (ex : Nat → Nat) (W : Nat → Prop) : Prop := ∀ x, dl D x = true → 0 < edg sz D U x + ex x ∨ W x
def fup (f : Nat → Nat) (k y : Nat) : Nat → Nat := fun j => if j = k then y else f j
theorem fup_at {f : Nat → Nat} {k y : Nat} : fup f k y k = y := if_pos rfl
theorem fup_ne {f : Nat → Nat} {k y j : Nat} (h : j ≠ k) : fup f k y j = f j := if_neg h
def exA (ex : Nat → Nat) (y : Nat) : Nat → Nat := fun z => ex z + if z = y then 1 else 0
def bQ (S : ST) (b R n : Nat) (sz ord : Nat → Nat) (D : DT) (ex : Nat → Nat) (U : Nat) (g : Nat → Bool) (p r0 : Nat) (W : Nat → Prop) (r : Option Value) (S' : ST) : Prop := ∃ y D' U' b' R', r = some (.int (iI ((y : Nat) : Int))) ∧ dG S' b' R' n sz D' (if p = 0 then exA ex y else ex) 0 U' ∧ dok D' 0 y ∧ ds D' y = pcf n sz ord g p r0 ∧ xtD D 0 D' ∧ cnO n sz ord D' ∧ cntB (dl D') U' + 1 ≤ cntB (dl D) U + QQ n sz ord (n - p) ∧ uD sz D' U' (if p = 0 then exA ex y else ex) (fun x => W x ∨ (0 < p ∧ x = y)) ∧ (∀ j, j < p * 6 → SI S' 56 j = SI S 56 j) ∧ SI S' 53 = SI S 53 ∧ SI S' 54 = SI S 54 ∧ frD b R S b' R' S'
section DB
variable {X : List Int32} {n : Nat} {sz ord pl : Nat → Nat}
theorem dG_cg {S S' : ST} {b R U out : Nat} {D : DT} {ex : Nat → Nat} (h1 : S'.1 = S.1) (hR : SR S' = SR S) (h52 : SI S' 52 = SI S 52) (h55 : SI S' 55 = SI S 55) (hb0 : SI S' b = SI S b) (hb1 : SI S' (b + 1) = SI S (b + 1)) (hb2 : SI S' (b + 2) = SI S (b + 2)) (hb3 : SI S' (b + 3) = SI S (b + 3)) (hb5 : SI S' (b + 5) = SI S (b + 5)) (h : dG S b R n sz D ex out U) : dG S' b R n sz D ex out U := by
  obtain ⟨hA, h⟩ := h
  refine ⟨dA_cg h1 hR hA, ?_⟩
  unfold dM dC dF at *
  rw [h52, h55, hb0, hb1, hb2, hb3, hb5]
  exact h
theorem dG_w {S : ST} {b R U out c i : Nat} {z : Int} {D : DT} {ex : Nat → Nat} (hc : c ≠ 52 ∧ c ≠ 55 ∧ c ≠ b ∧ c ≠ b + 1 ∧ c ≠ b + 2 ∧ c ≠ b + 3 ∧ c ≠ b + 5) (h : dG S b R n sz D ex out U) : dG (wI S c i z) b R n sz D ex out U := dG_cg (S := S) rfl rfl (u2_ne (by omega)) (u2_ne (by omega)) (u2_ne (by omega)) (u2_ne (by omega)) (u2_ne (by omega)) (u2_ne (by omega)) (u2_ne (by omega)) h
/-- users counted otherwise -/
theorem dG_ex {S S' : ST} {b R U out : Nat} {D : DT} {ex ex' : Nat → Nat} (h1 : S'.1 = S.1) (hR : SR S' = SR S) (h52 : SI S' 52 = SI S 52) (h55 : SI S' 55 = SI S 55) (hb0 : SI S' b = SI S b) (hb2 : SI S' (b + 2) = SI S (b + 2)) (hb3 : SI S' (b + 3) = SI S (b + 3)) (hb5 : SI S' (b + 5) = SI S (b + 5)) (hu : ∀ x, 2 ≤ x → dok D out x → SI S' (b + 1) x = SI S (b + 1) x + ((ex' x : Nat) : Int) - ((ex x : Nat) : Int)) (he : ∀ x, 0 < ex' x → dok D out x) (h : dG S b R n sz D ex out U) : dG S' b R n sz D ex' out U := by
  obtain ⟨hA, hP, hM, hrest⟩ := h
  refine ⟨dA_cg h1 hR hA, hP, ?_, ?_⟩
  · obtain ⟨m1, m2, m3, m4, m5, m6⟩ := hM
    refine ⟨?_, ?_, ?_, ?_, fun x h2 hx => ?_, he⟩
    · rw [hb0]
      exact m1
    · rw [hb0]
      exact m2
    · rw [hb0]
      exact m3
    · rw [hb5]
      exact m4
    · rw [hu x h2 hx, m5 x h2 hx]
      omega
  · unfold dC dF at *
    rw [h52, h55, hb2, hb3]
    exact hrest
theorem dG_inc {S : ST} {b R U out y : Nat} {D : DT} {ex : Nat → Nat} (hy : dok D out y) (h : dG S b R n sz D ex out U) : dG (wI S (b + 1) y (SI S (b + 1) y + 1)) b R n sz D (exA ex y) out U := by
  have hb := h.1.1
  refine dG_ex (S := S) rfl rfl (u2_ne (by omega)) (u2_ne (by omega)) (u2_ne (by omega)) (u2_ne (by omega)) (u2_ne (by omega)) (u2_ne (by omega)) (fun x h2 hx => ?_) (fun x hx => ?_) h
  · unfold exA
    by_cases c : x = y
    · rw [c, rI_at, if_pos rfl]
      omega
    · rw [rI_nj c, if_neg c]
      omega
  · unfold exA at hx
    by_cases c : x = y
    · rw [c]
      exact hy
    · rw [if_neg c] at hx
      exact h.2.2.1.2.2.2.2.2 x (by omega)
theorem leaf_no {v : Nat} {D : DT} {U out : Nat} (hP : dP n sz D out U) (hwf : wf n sz) (hv : v < n) {x : Nat} (hx : x < 2) : dpT n sz (ds D x) v = false := by
  refine dpT_of hwf hv (fun r hr k hk => ?_)
  have h1 := chg_lt hwf hv hk hr
  have h2 : x = 0 ∨ x = 1 := by omega
  rcases h2 with h2 | h2
  · rw [h2, hP.2.2.2.2.1]
  · rw [h2, hP.2.2.2.2.2.1]
    show decide _ = decide _
    rw [decide_eq_true h1, decide_eq_true hr]
theorem pcf_no {F : Nat → Bool} {p q r : Nat} (hw : wf n sz) (ho : prm n ord pl) (hp : p ≤ n) (hq : q < p) : dpT n sz (pcf n sz ord F p r) (ord q) = false := by
  have hoq := (ho.1 q (by omega)).1
  refine dpT_of hw hoq (fun s hs k hk => ?_)
  have hs2 := chg_lt hw hoq hk hs
  unfold pcf
  rw [cut_at _ hs2, cut_at _ hs]
  refine congrArg F (ord_ext ho (pfx_lt hw ho hs2 hp) (pfx_lt hw ho hs hp) (fun u hu => ?_))
  rw [pfx_val hw ho hu hp, pfx_val hw ho hu hp]
  by_cases c : u < p
  · rw [if_pos c, if_pos c]
  · rw [if_neg c, if_neg c, chg_ne hw hoq hk (ord_ne ho hu (by omega) (by omega))]
theorem pcf_n {F : Nat → Bool} {r s : Nat} (hw : wf n sz) (ho : prm n ord pl) (hr : r < pr sz n) (hs : s < pr sz n) : pcf n sz ord F n r s = F r := by
  unfold pcf
  rw [cut_at _ hs]
  refine congrArg F (ord_ext ho (pfx_lt hw ho hs (Nat.le_refl n)) hr (fun u hu => ?_))
  rw [pfx_val hw ho hu (Nat.le_refl n), if_pos hu]
theorem edg_mono {D D' : DT} {U U' out : Nat} (h : xtD D out D') (hP : dP n sz D' out U') {x : Nat} (hx : 0 < edg sz D U x) : 0 < edg sz D' U' x := by
  obtain ⟨y, k, h1, h2, h3, h4⟩ := edg_ex hx
  obtain ⟨k1, k2, k3⟩ := h.1 y h2
  have := edg_pos (sz := sz) (hP.1 y k1).2.1 k1 (k := k) (by rw [k2]; exact h3)
  rw [k3, h4] at this
  exact this
theorem bQ_leaf {S : ST} {b R U p r0 y : Nat} {D : DT} {ex : Nat → Nat} {g : Nat → Bool} {W : Nat → Prop} (hw : wf n sz) (ho : prm n ord pl) (hG : dG S b R n sz D ex 0 U) (hc : cnO n sz ord D) (hu : uD sz D U ex W) (hp : p = n) (hr : r0 < pr sz n) (hy : y = if g r0 then 1 else 0) : bQ S b R n sz ord D ex U g p r0 W (some (.int (iI ((y : Nat) : Int)))) S := by
  have hy2 : y < 2 := by
    rw [hy]
    split <;> omega
  have hex : ∀ x, 2 ≤ x → (if p = 0 then exA ex y else ex) x = ex x := fun x hx => by
    by_cases c : p = 0
    · rw [if_pos c]
      unfold exA
      rw [if_neg (by omega)]
      rfl
    · rw [if_neg c]
  refine ⟨y, D, U, b, R, rfl, ?_, Or.inl hy2, ?_, xtD_refl _ _, hc, ?_, fun x hx => ?_, fun _ _ => rfl, rfl, rfl, frD_refl _ _ _⟩
  · refine dG_ex (S := S) rfl rfl rfl rfl rfl rfl rfl rfl (fun x h2 hx => by rw [hex x h2]; omega) (fun x hx => ?_) hG
    by_cases c : x < 2
    · exact Or.inl c
    · rw [hex x (by omega)] at hx
      exact hG.2.2.1.2.2.2.2.2 x hx
  · have hP := hG.2.1
    subst hp
    refine tb_ext (T := pr sz p) ?_ (pcf_tb _ _ _) (fun s hs => ?_)
    · rw [hy]
      cases g r0 with
      | false =>
        rw [if_neg (by decide), hP.2.2.2.2.1]
        exact fun _ _ => rfl
      | true =>
        rw [if_pos rfl, hP.2.2.2.2.2.1]
        exact fun r hr => decide_eq_false (by omega)
    · rw [pcf_n hw ho hr hs, hy]
      cases e : g r0 with
      | false => rw [if_neg (by decide), hP.2.2.2.2.1]
      | true =>
        rw [if_pos rfl, hP.2.2.2.2.2.1]
        exact decide_eq_true hs
  · rw [hp, Nat.sub_self]
    exact Nat.le_refl _
  · rw [hex x (hG.2.1.1 x hx).1]
    rcases hu x hx with h | h
    · exact Or.inl h
    · exact Or.inr (Or.inl h)
theorem c_build {a : Nat} {g : Nat → Bool} (hw : wf n sz) (ho : prm n ord pl) (ha : 9 ≤ a ∧ a < 49) (hka : ∀ S, kd S a = some (.inl (2, 16))) (ht : tbT (pr sz n) g) : ∀ (m : Nat) {p : Nat} {S : ST} {b R U r0 : Nat} {D : DT} {ex : Nat → Nat} {W : Nat → Prop}, p + m = n → dG S b R n sz D ex 0 U → vC S n sz → (∀ q, q < n → SI S 53 q = ((ord q : Nat) : Int)) → cnO n sz ord D → uD sz D U ex W → rowS S a 0 g → r0 < pr sz n → (∀ q, p ≤ q → q < n → val sz r0 (ord q) = 0) → cntB (dl D) U + QQ n sz ord (n - p) ≤ 60000 → sM X (m + 3) 31 [.ref 52, .ref a, .int (iI ((p : Nat) : Int)), .int (iI ((r0 : Nat) : Int))] S (bQ S b R n sz ord D ex U g p r0 W)
  | 0, p, S, b, R, U, r0, D, ex, W, hpn, hG, hvC, hO, hc, hu, hf, hr, hz0, hbd => by
    have hn10 := hw.1
    have hT := hw.2.2

    refine sIni (ls := [some (.ref 52), some (.ref a), some (.int (iI ((p : Nat) : Int))), some (.int (iI ((r0 : Nat) : Int))), none, none, none, none]) rfl ?_
    refine sL (pc' := 1) (i := .iload_n 2) rfl rfl ?_
    refine sL (pc' := 2) (i := .aload_n 0) rfl rfl ?_
    refine sGc (p := 5) rfl rfl (sk_52 _) rfl rfl rfl ?_
    refine sGi (p := 8) rfl rfl (sk_1 _) rfl rfl rfl hvC.2.1 ?_
    refine sIc_lt (p := 11) rfl rfl ⟨by omega, by omega⟩ ⟨by omega, by omega⟩ (fun c1 => ?_) (fun c1 => ?_)
    · exfalso; omega
    · have c1 := c1
      refine sL (pc' := 12) (i := .aload_n 1) rfl rfl ?_
      refine sL (pc' := 13) (i := .iload_n 3) rfl rfl ?_
      refine sCs (p := 16) (as := [_, _]) rfl rfl rfl rfl (by decide) (Nat.le_of_ble_eq_true rfl) rfl (Nat.le_of_ble_eq_true rfl) rfl (by omega) (c_so (hka S) hf (by omega)) ?_
      refine sBe (p := 19) rfl rfl (fun c2 => ?_) (fun c2 => ?_)
      · have c2 := c2
        refine sKi (p := 24) rfl rfl ?_
        refine sEn (i := .ireturn) rfl (rfl) ?_
        exact bQ_leaf (y := 0) hw ho hG hc hu (by omega) hr (by rw [c2]; rfl)
      · have c2 := c2
        refine sKi (p := 20) rfl rfl ?_
        refine sL (i := .goto 4) rfl rfl ?_
        refine sEn (i := .ireturn) rfl (rfl) ?_
        exact bQ_leaf (y := 1) hw ho hG hc hu (by omega) hr (by rw [c2]; rfl)
  | m + 1, p, S, b, R, U, r0, D, ex, W, hpn, hG, hvC, hO, hc, hu, hf, hr, hz0, hbd => by
    have hn10 := hw.1
    have hT := hw.2.2
    have hp : p < n := by omega
    have hv := (ho.1 p hp).1
    have hsv := hw.2.1 _ hv
    have hb58 := hG.1.1
    have hz : val sz r0 (ord p) = 0 := hz0 p (Nat.le_refl p) hp
    have hQ1 : QQ n sz ord (n - p) = QQ n sz ord (n - (p + 1)) * sz (ord p) := by
      rw [show n - p = (n - (p + 1)) + 1 from by omega]
      show QQ n sz ord (n - (p + 1)) * sz (ord (n - 1 - (n - (p + 1)))) = _
      rw [show n - 1 - (n - (p + 1)) = p from by omega]
    have hQp : 1 ≤ QQ n sz ord (n - (p + 1)) := QQ_pos hw ho (by omega)
    have hO53 : SI S 53 p = ((ord p : Nat) : Int) := hO p hp
    obtain ⟨S0, hS0⟩ : ∃ S0, S0 = S := ⟨S, rfl⟩
    have hq : ∀ (v : Option Value) (S' : ST), bQ S0 b R n sz ord D ex U g p r0 W v S' → bQ S b R n sz ord D ex U g p r0 W v S' := fun v S' h => by rw [← hS0]; exact h
    refine sM.weaken ?_ hq
    have hvC0 : vC S0 n sz := by rw [hS0]; exact hvC
    have hf0 : rowS S0 a 0 g := by rw [hS0]; exact hf
    have hO0 : ∀ q, q < n → SI S0 53 q = ((ord q : Nat) : Int) := by rw [hS0]; exact hO
    clear hq
    have hkid : ∀ k, k < sz (ord p) → pcf n sz ord g (p + 1) (chg sz r0 (ord p) k) = cof n sz (pcf n sz ord g p r0) (ord p) k := fun k hk => by
      rw [pcf_s hw ho hp, chg_at hw hv hk]
      congr 1
      refine pcf_c hw ho (by omega) (fun q hq => ?_)
      exact chg_ne hw hv hk (ord_ne ho (by omega) hp (by omega))
    have hdig : ∀ k, k < sz (ord p) → ∀ q, p + 1 ≤ q → q < n → val sz (chg sz r0 (ord p) k) (ord q) = 0 := fun k hk q h1 h2 => by
      rw [chg_ne hw hv hk (ord_ne ho h2 hp (by omega))]
      exact hz0 q (by omega) h2
    refine sIni (ls := [some (.ref 52), some (.ref a), some (.int (iI ((p : Nat) : Int))), some (.int (iI ((r0 : Nat) : Int))), none, none, none, none]) rfl ?_
    refine sL (pc' := 1) (i := .iload_n 2) rfl rfl ?_
    refine sL (pc' := 2) (i := .aload_n 0) rfl rfl ?_
    refine sGc (p := 5) rfl rfl (sk_52 _) rfl rfl rfl ?_
    refine sGi (p := 8) rfl rfl (sk_1 _) rfl rfl rfl hvC.2.1 ?_
    refine sIc_lt (p := 11) rfl rfl ⟨by omega, by omega⟩ ⟨by omega, by omega⟩ (fun c1 => ?_) (fun c1 => ?_)
    · have c1 := c1
      refine sL (pc' := 26) (i := .aload_n 0) rfl rfl ?_
      refine sGc (p := 29) rfl rfl (sk_52 _) rfl rfl rfl ?_
      refine sL (pc' := 30) (i := .iload_n 2) rfl rfl ?_
      refine sAi (p := 31) (i := p) rfl rfl (sk_53 _) (by omega) ⟨by omega, by omega⟩ hO53 ?_
      refine sL (pc' := 33) (i := .istore 4) (ls' := [some (.ref 52), some (.ref a), some (.int (iI ((p : Nat) : Int))), some (.int (iI ((r0 : Nat) : Int))), some (.int (iI ((ord p : Nat) : Int))), none, none, none]) rfl rfl ?_
      refine sL (pc' := 34) (i := .aload_n 0) rfl rfl ?_
      refine sGc (p := 37) rfl rfl (sk_52 _) rfl rfl rfl ?_
      refine sL (pc' := 39) (i := .iload 4) rfl rfl ?_
      refine sCv (p := 42) (as := [_]) rfl rfl rfl rfl (by decide) (Nat.le_of_ble_eq_true rfl) rfl (Nat.le_of_ble_eq_true rfl) (sk_1 _) rfl (by omega) (c_str hvC hv) ?_
      refine sL (pc' := 44) (i := .istore 5) (ls' := [some (.ref 52), some (.ref a), some (.int (iI ((p : Nat) : Int))), some (.int (iI ((r0 : Nat) : Int))), some (.int (iI ((ord p : Nat) : Int))), some (.int (iI ((pr sz (ord p) : Nat) : Int))), none, none]) rfl rfl ?_
      refine sL (pc' := 45) (i := .iload_n 2) rfl rfl ?_
      refine sKb (p := 47) rfl rfl ?_
      refine sMu (p := 48) rfl rfl ?_
      refine sL (pc' := 50) (i := .istore 6) (ls' := [some (.ref 52), some (.ref a), some (.int (iI ((p : Nat) : Int))), some (.int (iI ((r0 : Nat) : Int))), some (.int (iI ((ord p : Nat) : Int))), some (.int (iI ((pr sz (ord p) : Nat) : Int))), some (.int (iI (((p : Nat) : Int) * 6))), none]) rfl rfl ?_
      refine sKi (p := 51) rfl rfl ?_
      refine sL (pc' := 53) (i := .istore 7) (ls' := [some (.ref 52), some (.ref a), some (.int (iI ((p : Nat) : Int))), some (.int (iI ((r0 : Nat) : Int))), some (.int (iI ((ord p : Nat) : Int))), some (.int (iI ((pr sz (ord p) : Nat) : Int))), some (.int (iI (((p : Nat) : Int) * 6))), some (.int (iI 0))]) rfl rfl ?_
      refine sItR (A := fun k => [some (.ref 52), some (.ref a), some (.int (iI ((p : Nat) : Int))), some (.int (iI ((r0 : Nat) : Int))), some (.int (iI ((ord p : Nat) : Int))), some (.int (iI ((pr sz (ord p) : Nat) : Int))), some (.int (iI (((p : Nat) : Int) * 6))), some (.int (iI ((k : Nat) : Int)))]) (fun k S => ∃ b1 R1 D1 U1, ∃ w1 : Nat → Nat, dG S b1 R1 n sz D1 ex 0 U1 ∧ (∀ j, j < k → SI S 56 (p * 6 + j) = ((w1 j : Nat) : Int) ∧ dok D1 0 (w1 j) ∧ ds D1 (w1 j) = cof n sz (pcf n sz ord g p r0) (ord p) j) ∧ xtD D 0 D1 ∧ cnO n sz ord D1 ∧ cntB (dl D1) U1 + k ≤ cntB (dl D) U + k * QQ n sz ord (n - (p + 1)) ∧ uD sz D1 U1 ex (fun x => W x ∨ ∃ j, j < k ∧ x = w1 j) ∧ (∀ j, j < p * 6 → SI S 56 j = SI S0 56 j) ∧ SI S 53 = SI S0 53 ∧ SI S 54 = SI S0 54 ∧ frD b R S0 b1 R1 S) (sz (ord p)) (⟨b, R, D, U, fun _ => 0, by exact hG, fun j hj => absurd hj (by omega), xtD_refl _ _, hc, by omega, fun x hx => (hu x hx).elim Or.inl (fun h => Or.inr (Or.inl h)), by rw [hS0]; exact fun _ _ => rfl, by rw [hS0], by rw [hS0], by rw [hS0]; exact frD_refl _ _ _⟩) (fun k hi53 Sa hJ53 ih53 => ?_) (fun Saf hJ53 => ?_)
      · have hi53 := hi53
        obtain ⟨ba, Ra, Da, Ua, wa, hGa, hka2, hxa, hca, hna, hua, ha56, ha53, ha54, hfa⟩ := hJ53
        have hka := hka
        have hba := hGa.1.1
        have hrun : ((r0 : Nat) : Int) + (((k : Nat) : Int) * ((pr sz (ord p) : Nat) : Int)) = ((chg sz r0 (ord p) k : Nat) : Int) := by rw [← chg_0 hz, Int.natCast_add, Int.natCast_mul]
        have hm1 : (k + 1) * QQ n sz ord (n - (p + 1)) ≤ sz (ord p) * QQ n sz ord (n - (p + 1)) := Nat.mul_le_mul_right _ (by omega)
        rw [Nat.add_mul, Nat.one_mul] at hm1
        have hbk : cntB (dl Da) Ua + QQ n sz ord (n - (p + 1)) ≤ 60000 := by rw [hQ1, Nat.mul_comm] at hbd; omega
        refine sL (pc' := 55) (i := .iload 7) rfl rfl ?_
        refine sL (pc' := 56) (i := .aload_n 0) rfl rfl ?_
        refine sGc (p := 59) rfl rfl (sk_52 _) rfl rfl rfl ?_
        refine sL (pc' := 61) (i := .iload 4) rfl rfl ?_
        refine sCv (p := 64) (as := [_]) rfl rfl rfl rfl (by decide) (Nat.le_of_ble_eq_true rfl) rfl (Nat.le_of_ble_eq_true rfl) (sk_1 _) rfl (by omega) (c_siz (frD_vC hfa hb58 hvC0) hv) ?_
        refine sIc_ge (p := 67) rfl rfl ⟨by omega, by omega⟩ ⟨by omega, by omega⟩ (fun c2 => ?_) (fun c2 => ?_)
        · exfalso; omega
        · have c2 := c2
          refine sL (pc' := 68) (i := .aload_n 0) rfl rfl ?_
          refine sGc (p := 71) rfl rfl (sk_52 _) rfl rfl rfl ?_
          refine sL (pc' := 73) (i := .iload 6) rfl rfl ?_
          refine sL (pc' := 75) (i := .iload 7) rfl rfl ?_
          refine sAd (p := 76) rfl rfl ?_
          refine sL (pc' := 77) (i := .aload_n 0) rfl rfl ?_
          refine sL (pc' := 78) (i := .aload_n 1) rfl rfl ?_
          refine sL (pc' := 79) (i := .iload_n 2) rfl rfl ?_
          refine sKi (p := 80) rfl rfl ?_
          refine sAd (p := 81) rfl rfl ?_
          rw [show ((((p : Nat) : Int) + 1)) = (((p + 1 : Nat) : Int)) from by omega]
          refine sL (pc' := 82) (i := .iload_n 3) rfl rfl ?_
          refine sL (pc' := 84) (i := .iload 7) rfl rfl ?_
          refine sL (pc' := 86) (i := .iload 5) rfl rfl ?_
          refine sMu (p := 87) rfl rfl ?_
          refine sAd (p := 88) rfl rfl ?_
          rw [show ((((r0 : Nat) : Int) + (((k : Nat) : Int) * ((pr sz (ord p) : Nat) : Int)))) = (((chg sz r0 (ord p) k : Nat) : Int)) from by exact hrun]
          refine sCvQ (p := 91) (as := [_, _, _]) rfl rfl rfl rfl (by decide) (Nat.le_of_ble_eq_true rfl) rfl (Nat.le_of_ble_eq_true rfl) (sk_52 _) rfl (by omega) (c_build hw ho ha hka ht m (p := p + 1) (W := fun x => W x ∨ ∃ j, j < k ∧ x = wa j) (by omega) hGa (frD_vC hfa hb58 hvC0) (fun q hq => (congrFun ha53 q).trans (hO0 q hq)) hca hua (frD_row hfa (by omega) hf0) (chg_lt hw hv hi53 hr) (hdig k hi53) hbk) ?_
          rintro _ Sd ⟨y1, D2, U2, b2, R2, rfl, hG2, hy2, hs2, hx2, hc2, hn2, hu2, h562, h532, h542, hf2⟩
          rw [if_neg (Nat.succ_ne_zero p)] at hG2 hu2
          refine sWi (p := 92) (i := (p * 6) + k) rfl rfl (sk_56 _) (by omega) ⟨by omega, by omega⟩ ?_
          refine sInX (z := ((k : Nat) : Int)) (ls' := [some (.ref 52), some (.ref a), some (.int (iI ((p : Nat) : Int))), some (.int (iI ((r0 : Nat) : Int))), some (.int (iI ((ord p : Nat) : Int))), some (.int (iI ((pr sz (ord p) : Nat) : Int))), some (.int (iI (((p : Nat) : Int) * 6))), some (.int (iI (((k : Nat) : Int) + 1)))]) (p := 95) rfl rfl (Nat.le_of_ble_eq_true rfl) rfl rfl ?_
          refine sL (i := .goto (-42)) rfl rfl ?_
          refine sFg (ls := [some (.ref 52), some (.ref a), some (.int (iI ((p : Nat) : Int))), some (.int (iI ((r0 : Nat) : Int))), some (.int (iI ((ord p : Nat) : Int))), some (.int (iI ((pr sz (ord p) : Nat) : Int))), some (.int (iI (((p : Nat) : Int) * 6))), some (.int (iI ((k + 1 : Nat) : Int)))]) (xx_ll_le (And.intro rfl (And.intro rfl (And.intro rfl (And.intro rfl (And.intro rfl (And.intro rfl (And.intro rfl (And.intro rfl (True.intro)))))))))) (ih53 _ ?_)
          have hb2 := hG2.1.1
          refine ⟨b2, R2, D2, U2, fup wa k y1, dG_w (by omega) hG2, fun j hj => ?_, xtD_trans hxa hx2, hc2, ?_, fun x hx => ?_, fun j hj => ?_, ?_, ?_, frD_trans (frD_trans hfa hf2) (frD_wI (Or.inl (by omega)))⟩
          · by_cases cj : j = k
            · subst cj
              rw [rI_at, fup_at]
              exact ⟨rfl, hy2, hs2.trans (hkid j hi53)⟩
            · rw [rI_nj (by omega), fup_ne cj]
              have h1 := hka2 j (by omega)
              exact ⟨(h562 _ (by omega)).trans h1.1, xtD_ok hx2 h1.2.1, (hx2.2 _ h1.2.1).trans h1.2.2⟩
          · rw [Nat.add_mul, Nat.one_mul]
            omega
          · rcases hu2 x hx with h | (h | ⟨j, h1, h2⟩) | ⟨_, h⟩
            · exact Or.inl h
            · exact Or.inr (Or.inl h)
            · exact Or.inr (Or.inr ⟨j, by omega, by rw [fup_ne (by omega)]; exact h2⟩)
            · exact Or.inr (Or.inr ⟨k, by omega, by rw [fup_at]; exact h⟩)
          · rw [rI_nj (by omega)]
            exact (h562 j (by omega)).trans (ha56 j hj)
          · exact (funext fun j => rI_ne (by decide) j).trans (h532.trans ha53)
          · exact (funext fun j => rI_ne (by decide) j).trans (h542.trans ha54)
      · have hJ53 := hJ53
        obtain ⟨b1, R1, D1, U1, w1, hGf, hkf, hxf, hcf, hnf, huf, h56f, h53f, h54f, hff⟩ := hJ53
        have hnf2 : cntB (dl D1) U1 + sz (ord p) ≤ cntB (dl D) U + sz (ord p) * QQ n sz ord (n - (p + 1)) := hnf
        have hbd2 : cntB (dl D) U + sz (ord p) * QQ n sz ord (n - (p + 1)) ≤ 60000 := by rw [hQ1, Nat.mul_comm] at hbd; exact hbd
        have hQZ : QQ n sz ord (n - p) = sz (ord p) * QQ n sz ord (n - (p + 1)) := by rw [hQ1, Nat.mul_comm]
        generalize sz (ord p) * QQ n sz ord (n - (p + 1)) = ZZ at *
        have hun : dpT n sz (pcf n sz ord g p r0) (ord p) = true → ∀ x, dok D1 0 x → ds D1 x = (pcf n sz ord g p r0) → dl D1 x = true ∧ dv D1 x = ord p := fun hd x hx e => by
          rcases hx with h | h | h
          · exact absurd hd (by rw [← e, leaf_no hGf.2.1 hw hv h]; decide)
          · exact ⟨h, by rw [hcf x h, e, fpl_eq hp hd (fun q hq => pcf_no hw ho (by omega) hq)]⟩
          · exact absurd hd (by rw [← e, leaf_no hGf.2.1 hw hv (show x < 2 by omega)]; decide)
        refine sL (pc' := 55) (i := .iload 7) rfl rfl ?_
        refine sL (pc' := 56) (i := .aload_n 0) rfl rfl ?_
        refine sGc (p := 59) rfl rfl (sk_52 _) rfl rfl rfl ?_
        refine sL (pc' := 61) (i := .iload 4) rfl rfl ?_
        refine sCv (p := 64) (as := [_]) rfl rfl rfl rfl (by decide) (Nat.le_of_ble_eq_true rfl) rfl (Nat.le_of_ble_eq_true rfl) (sk_1 _) rfl (by omega) (c_siz (frD_vC hff hb58 hvC0) hv) ?_
        refine sIc_ge (p := 67) rfl rfl ⟨by omega, by omega⟩ ⟨by omega, by omega⟩ (fun c3 => ?_) (fun c3 => ?_)
        · have c3 := c3
          refine sL (pc' := 99) (i := .aload_n 0) rfl rfl ?_
          refine sCvQ (p := 102) (as := []) rfl rfl rfl rfl (by decide) (Nat.le_of_ble_eq_true rfl) rfl (Nat.le_of_ble_eq_true rfl) (sk_52 _) rfl (by omega) (c_makeRoom hw hGf (by show _ + 0 ≤ _; omega)) ?_
          rintro _ Sm ⟨rfl, b3, R3, hG3, hr3, hf3, hq3, h57⟩
          have hr3 : cntB (dl D1) U1 + 0 + 8 ≤ R3 := hr3
          refine sL (pc' := 103) (i := .aload_n 0) rfl rfl ?_
          refine sL (pc' := 105) (i := .iload 4) rfl rfl ?_
          refine sL (pc' := 107) (i := .iload 6) rfl rfl ?_
          refine sCvQ (p := 110) (as := [_, _]) rfl rfl rfl rfl (by decide) (Nat.le_of_ble_eq_true rfl) rfl (Nat.le_of_ble_eq_true rfl) (sk_52 _) rfl (by omega) (c_nodeOf (v := ord p) (o := p * 6) (w := w1) (g := (pcf n sz ord g p r0)) (frD_vC (frD_trans hff hf3) hb58 hvC0) hG3 hv (by omega) (fun k hk => (congrFun (h57 56 (by omega) (by omega)) _).trans (hkf k hk).1) (fun k hk => (hkf k hk).2) (pcf_tb _ _ _) hun (by show _ + 0 + _ < _; omega)) ?_
          rintro _ Sn ⟨y, D3, U3, rfl, hG4, hy4, hs4, hx4, hn4, hnw4, hk4, hro4, hfo4⟩
          have hyU := dok_lt hG4.2.1 hG4.2.2.2.2.2.2.2.2.1 hy4
          have hUR4 := hG4.2.2.2.2.2.2.2.1
          have hR4 := hG4.1.2.2.1
          have hfr4 := frD_trans (frD_trans hff hf3) (frD_O (R := R3) hfo4)
          have hb3 := hG3.1.1
          have hcn4 : cnO n sz ord D3 := fun x hx => by
            rcases hnw4 x hx with h | ⟨h, h1, h2⟩
            · rw [(hx4.1 x h).2.1, hx4.2 x (Or.inr (Or.inl h))]
              exact hcf x h
            · rw [h, h1, hs4, fpl_eq hp h2 (fun q hq => pcf_no hw ho (by omega) hq)]
          have hu4 : uD sz D3 U3 ex (fun x => W x ∨ x = y) := fun x hx => by
            rcases hnw4 x hx with h | ⟨h, h1, h2⟩
            · rcases huf x h with h3 | h3 | ⟨j, h3, h4⟩
              · by_cases c9 : 0 < edg sz D1 U1 x
                · exact Or.inl (by have := edg_mono hx4 hG4.2.1 c9; omega)
                · exact Or.inl (by omega)
              · exact Or.inr (Or.inl h3)
              · rcases hk4 j h3 with h5 | ⟨h5, h6, h7⟩
                · exact Or.inr (Or.inr (h4.trans h5))
                · have h8 := edg_pos (sz := sz) (hG4.2.1.1 y h5).2.1 h5 h6
                  rw [h7, ← h4] at h8
                  exact Or.inl (by omega)
            · exact Or.inr (Or.inr h)
          have hct4 : cntB (dl D3) U3 + 1 ≤ cntB (dl D) U + QQ n sz ord (n - p) := by
            rw [hQZ]
            omega
          have h564 : ∀ j, j < p * 6 → SI Sn 56 j = SI S0 56 j := fun j hj => (congrFun (hfo4.2.2.2 56 (by omega) (by omega) (by omega) (by omega) (by omega) (by omega)) j).trans ((congrFun (h57 56 (by omega) (by omega)) j).trans (h56f j hj))
          have h534 : SI Sn 53 = SI S0 53 := (hfo4.2.2.2 53 (by omega) (by omega) (by omega) (by omega) (by omega) (by omega)).trans ((h57 53 (by omega) (by omega)).trans h53f)
          have h544 : SI Sn 54 = SI S0 54 := (hfo4.2.2.2 54 (by omega) (by omega) (by omega) (by omega) (by omega) (by omega)).trans ((h57 54 (by omega) (by omega)).trans h54f)
          have hx5 := xtD_trans hxf hx4
          refine sL (pc' := 112) (i := .istore 7) (ls' := [some (.ref 52), some (.ref a), some (.int (iI ((p : Nat) : Int))), some (.int (iI ((r0 : Nat) : Int))), some (.int (iI ((ord p : Nat) : Int))), some (.int (iI ((pr sz (ord p) : Nat) : Int))), some (.int (iI (((p : Nat) : Int) * 6))), some (.int (iI ((y : Nat) : Int)))]) rfl rfl ?_
          refine sL (pc' := 113) (i := .iload_n 2) rfl rfl ?_
          refine sIf_ne (p := 116) rfl rfl ⟨by omega, by omega⟩ (fun c4 => ?_) (fun c4 => ?_)
          · have c4 := c4
            refine sL (pc' := 129) (i := .iload 7) rfl rfl ?_
            refine sEn (i := .ireturn) rfl (rfl) ?_
            refine ⟨y, D3, U3, b3, R3, rfl, ?_, hy4, hs4, hx5, hcn4, hct4, fun x hx => ?_, h564, h534, h544, hfr4⟩
            · rw [if_neg (by omega)]
              exact hG4
            · rw [if_neg (by omega)]
              rcases hu4 x hx with h | h | h
              · exact Or.inl h
              · exact Or.inr (Or.inl h)
              · exact Or.inr (Or.inr ⟨by omega, h⟩)
          · have c4 := c4
            refine sL (pc' := 117) (i := .aload_n 0) rfl rfl ?_
            refine sGr (p := 120) rfl rfl (sk_52 _) rfl rfl rfl hG4.1.2.2.2.2.1 ?_
            refine sL (pc' := 122) (i := .iload 7) rfl rfl ?_
            refine sL (pc' := 123) (i := .dup2) rfl rfl ?_
            refine sAi (p := 124) (i := y) rfl rfl hG4.1.2.2.2.2.2.2.2.2.2.2.1 (by omega) ⟨by omega, by omega⟩ rfl ?_
            refine sKi (p := 125) rfl rfl ?_
            refine sAd (p := 126) rfl rfl ?_
            refine sWi (p := 127) (i := y) rfl rfl hG4.1.2.2.2.2.2.2.2.2.2.2.1 (by omega) ⟨by omega, by omega⟩ ?_
            refine sL (pc' := 129) (i := .iload 7) rfl rfl ?_
            refine sEn (i := .ireturn) rfl (rfl) ?_
            refine ⟨y, D3, U3, b3, R3, rfl, ?_, hy4, hs4, hx5, hcn4, hct4, fun x hx => ?_, fun j hj => by rw [rI_ne (by omega)]; exact h564 j hj, (u2_ne (by omega)).trans h534, (u2_ne (by omega)).trans h544, frD_trans hfr4 (frD_wI (Or.inr (by omega)))⟩
            · rw [if_pos (by omega)]
              exact dG_inc hy4 hG4
            · rw [if_pos (by omega)]
              unfold exA
              rcases hu4 x hx with h | h | h
              · exact Or.inl (by omega)
              · exact Or.inr (Or.inl h)
              · exact Or.inl (by rw [if_pos h]; omega)
        · exfalso; omega
    · exfalso; omega
end DB
