/-! ===== the class: what its cells hold; functions adopted ===== -/
def nup (nm : Nat → Int64) (k : Nat) (x : Int64) : Nat → Int64 := fun i => if i = k then x else nm i
def cF (S : ST) (n : Nat) (sz : Nat → Nat) (fn : Nat) (Fn : Nat → Nat → Bool) (nm : Nat → Int64) : Prop := SI S 7 5 = ((fn : Nat) : Int) ∧ SI S 7 6 = ((0 : Nat) : Int) ∧ fn ≤ 40 ∧ (∀ i, i < fn → rowS S (9 + i) 0 (Fn i)) ∧ rowS S 51 0 (evr (pr sz n)) ∧ (∀ i, i < fn → SL S 49 i = nm i) ∧ (∀ i, i < fn → tbT (pr sz n) (Fn i))
def cSd (S : ST) (D : DT) (sd : Option (Nat → Bool)) : Prop := (sd = none ∧ SI S 0 6 = -1) ∨ ∃ g y, sd = some g ∧ SI S 0 6 = ((y : Nat) : Int) ∧ dok D 0 y ∧ ds D y = g
def cD (S : ST) (n : Nat) (sz ord : Nat → Nat) (fn : Nat) (Fn : Nat → Nat → Bool) (sd : Option (Nat → Bool)) (Z : Nat) : Prop := ∃ b R pl D U rt, dRF S b R n sz ord pl D U fn rt Fn ∧ (∀ i, i < fn → SI S 50 i = ((rt i : Nat) : Int)) ∧ cSd S D sd ∧ tz S + 1408 ≤ 22 * R + Z ∧ S.1.length + 64 ≤ R + Z
def CI (S : ST) (n : Nat) (sz : Nat → Nat) (wt : Nat → Int) (ro : Nat → Bool) (fn : Nat) (Fn : Nat → Nat → Bool) (nm : Nat → Int64) (ord : Nat → Nat) (sd : Option (Nat → Bool)) (tr tn : Int) (up lo : Int64) (Z : Nat) : Prop := vC S n sz ∧ wC S wt ro ∧ (∃ wb, gC S n sz wt ro wb) ∧ cF S n sz fn Fn nm ∧ cD S n sz ord fn Fn sd Z ∧ SI S 0 7 = tr ∧ SI S 0 8 = tn ∧ SL S 0 9 = up ∧ SL S 0 10 = lo
/-- tape, reader, builder and reference are left alone -/
def frX (S S' : ST) : Prop := (∃ t, S'.1 = S.1 ++ t) ∧ (∀ c, 64 ≤ c → c ≤ 202 → SI S' c = SI S c ∧ SL S' c = SL S c ∧ SR S' c = SR S c) ∧ (∀ c m, kd S c = some (.inl (3, m)) → SI S' c = SI S c)
theorem frX_refl (S : ST) : frX S S := ⟨⟨[], (List.append_nil _).symm⟩, fun _ _ _ => ⟨rfl, rfl, rfl⟩, fun _ _ _ => rfl⟩
theorem frX_kd {S S' : ST} (h : frX S S') {c : Nat} {k : KD} (hc : kd S c = some k) : kd S' c = some k := by
  obtain ⟨t, ht⟩ := h.1
  have hl := kd_len hc
  unfold kd at *
  rw [ht, ← List.append_assoc, List.getElem?_append_left (by rw [List.length_append]; exact hl)]
  exact hc
theorem frX_trans {A B C : ST} (h : frX A B) (k : frX B C) : frX A C := by
  obtain ⟨t, ht⟩ := h.1
  obtain ⟨u, hu⟩ := k.1
  exact ⟨⟨t ++ u, by rw [hu, ht, List.append_assoc]⟩, fun c h1 h2 => ⟨(k.2.1 c h1 h2).1.trans (h.2.1 c h1 h2).1, (k.2.1 c h1 h2).2.1.trans (h.2.1 c h1 h2).2.1, (k.2.1 c h1 h2).2.2.trans (h.2.1 c h1 h2).2.2⟩, fun c m hc => (k.2.2 c m (frX_kd h hc)).trans (h.2.2 c m hc)⟩
def fnQ (ok : Prop) (res : Int) (C0 C1 : ST → Prop) (S : ST) (r : Option Value) (S' : ST) : Prop := r = some (.int (iI res)) ∧ (ok → C1 S') ∧ (¬ ok → C0 S') ∧ frX S S'
section CA
variable {X : List Int32} {S : ST} {b R n U fn dr : Nat} {sz ord pl rt : Nat → Nat} {D : DT} {Fn : Nat → Nat → Bool} {g : Nat → Bool}
theorem dRF_L {S' : ST} (h1 : S'.1 = S.1) (hI : SI S' = SI S) (hR : SR S' = SR S) (h : dRF S b R n sz ord pl D U fn rt Fn) : dRF S' b R n sz ord pl D U fn rt Fn := by
  obtain ⟨⟨hG, hc, hu, hO, ho⟩, hrest⟩ := h
  refine ⟨⟨dG_cg (S := S) h1 hR (by rw [hI]) (by rw [hI]) (by rw [hI]) (by rw [hI]) (by rw [hI]) (by rw [hI]) (by rw [hI]) hG, hc, hu, ?_, ho⟩, hrest⟩
  unfold oC at *
  rw [hI]
  exact hO
theorem dRF_w {c i : Nat} {z : Int} (hc : c < 52 ∨ (63 < c ∧ c < 203)) (h : dRF S b R n sz ord pl D U fn rt Fn) : dRF (wI S c i z) b R n sz ord pl D U fn rt Fn := by
  obtain ⟨⟨hG, hcn, hu, hO, ho⟩, hrest⟩ := h
  have hb := hG.1.1
  refine ⟨⟨dG_w (by omega) hG, hcn, hu, ⟨fun q hq => (rI_ne (by omega) _).trans (hO.1 q hq), fun v hv => (rI_ne (by omega) _).trans (hO.2 v hv)⟩, ho⟩, hrest⟩
/-- as frD, but for the function's own cells -/
def frA (b R : Nat) (S : ST) (b' R' : Nat) (S' : ST) : Prop := (∃ t, S'.1 = S.1 ++ t) ∧ (∀ c, c ≠ 52 → SR S' c = SR S c) ∧ (∀ c, c < 203 + S.1.length → SL S' c = SL S c) ∧ (∀ c, c < 203 + S.1.length → (c < 52 ∨ 57 < c) → (c < b ∨ b + 5 < c) → c ≠ 50 → c ≠ 7 → SI S' c = SI S c) ∧ tz S' + 22 * R = tz S + 22 * R' ∧ S'.1.length + R ≤ S.1.length + R'
theorem c_adopt (hvC : vC S n sz) (hR : dRF S b R n sz ord pl D U fn rt Fn) (hfn : SI S 7 5 = ((fn : Nat) : Int)) (hdr : SI S 7 6 = ((dr : Nat) : Int)) (hd : dr ≤ 40) (h40 : fn < 40) (hg : rowS S (9 + fn) 0 g) (ht : tbT (pr sz n) g) : sM X 15 133 [.ref 0] S (fun r S' => r = some (.int (iI ((fn : Nat) : Int))) ∧ ∃ y b' R' D' U', dRF S' b' R' n sz ord pl D' U' (fn + 1) (fup rt fn y) (lup Fn fn g) ∧ (∀ x, dok D 0 x → dok D' 0 x ∧ ds D' x = ds D x) ∧ SI S' 7 5 = ((fn + 1 : Nat) : Int) ∧ SI S' 7 6 = ((dr - 1 : Nat) : Int) ∧ SI S' 50 fn = ((y : Nat) : Int) ∧ (∀ i, i ≠ fn → SI S' 50 i = SI S 50 i) ∧ (∀ f, f ≠ 5 → f ≠ 6 → SI S' 7 f = SI S 7 f) ∧ frA b R S b' R' S') := by
  have hwf := hvC.1
  have hn10 := hwf.1
  have hT := hwf.2.2
  have hl := dRF_live hwf hR
  have hR0 := hR
  obtain ⟨⟨hG, hc, hu, hO, ho⟩, hrt, h40', htb⟩ := hR
  have hb58 := hG.1.1
  have hQ := QQ_le hwf ho
  have hbd : cntB (dl D) U + QQ n sz ord (n - 0) ≤ 60000 := by
    rw [Nat.sub_zero]
    omega
  have hu2 : uD sz D U (exF rt fn) (fun _ => False) := fun x hx => Or.inl (hu x (hG.2.1.1 x hx).1 (Or.inr (Or.inl hx)))
  refine sIni (ls := [some (.ref 0), none]) rfl ?_
  refine sL (pc' := 1) (i := .aload_n 0) rfl rfl ?_
  refine sGc (p := 4) rfl rfl (sk_0 _) rfl rfl rfl ?_
  refine sGi (p := 7) rfl rfl (sk_7 _) rfl rfl rfl hfn ?_
  refine sL (pc' := 8) (i := .istore_n 1) (ls' := [some (.ref 0), some (.int (iI ((fn : Nat) : Int)))]) rfl rfl ?_
  refine sL (pc' := 9) (i := .aload_n 0) rfl rfl ?_
  refine sGc (p := 12) rfl rfl (sk_0 _) rfl rfl rfl ?_
  refine sL (pc' := 13) (i := .aload_n 0) rfl rfl ?_
  refine sGc (p := 16) rfl rfl (sk_0 _) rfl rfl rfl ?_
  refine sL (pc' := 17) (i := .aload_n 0) rfl rfl ?_
  refine sGc (p := 20) rfl rfl (sk_0 _) rfl rfl rfl ?_
  refine sL (pc' := 21) (i := .iload_n 1) rfl rfl ?_
  refine sCv (p := 24) (as := [_]) rfl rfl rfl rfl (by decide) (Nat.le_of_ble_eq_true rfl) rfl (Nat.le_of_ble_eq_true rfl) (sk_7 _) rfl (by omega) (c_row h40) ?_
  refine sKi (p := 25) rfl rfl ?_
  refine sKi (p := 26) rfl rfl ?_
  refine sCvQ (p := 29) (as := [_, _, _]) rfl rfl rfl rfl (by decide) (Nat.le_of_ble_eq_true rfl) rfl (Nat.le_of_ble_eq_true rfl) (sk_52 _) rfl (by omega) ((c_build (a := 9 + fn) hwf ho ⟨by omega, by omega⟩ (fun S => sk_rows S h40) ht n (p := 0) (r0 := 0) (W := fun _ => False) (by omega) hG hvC hO.1 hc hu2 hg (hwf.pos (Nat.le_refl n)) (fun q _ _ => val_0 sz _) hbd)) ?_
  rintro _ S1 ⟨y, D1, U1, b1, R1, rfl, hG1, hy1, hs1, hx1, hc1, hn1, hu1, h561, h531, h541, hf1⟩
  rw [if_pos rfl] at hG1 hu1
  have hb1 := hG1.1.1
  have hq1 := hf1.2.2.2.1
  refine sCv (p := 32) (as := [_]) rfl rfl rfl rfl (by decide) (Nat.le_of_ble_eq_true rfl) rfl (Nat.le_of_ble_eq_true rfl) (sk_7 _) rfl (by omega) (c_keep (dr := dr) ((congrFun (hq1 7 (by omega) (by omega) (by omega)) 5).trans hfn) ((congrFun (hq1 7 (by omega) (by omega) (by omega)) 6).trans hdr) hd h40) ?_
  refine sL (pc' := 33) (i := .iload_n 1) rfl rfl ?_
  refine sEn (i := .ireturn) rfl (rfl) ?_
  refine ⟨rfl, y, b1, R1, D1, U1, ?_, fun x hx => ⟨xtD_ok hx1 hx, hx1.2 x hx⟩, (rI_nj (by decide)).trans rI_at, rI_at, (rI_ne (by decide) _).trans ((rI_ne (by decide) _).trans rI_at), fun i hi => (rI_ne (by decide) _).trans ((rI_ne (by decide) _).trans ((rI_nj hi).trans (congrFun (hq1 50 (by omega) (by omega) (by omega)) i))), fun f h5 h6 => (rI_nj h6).trans ((rI_nj h5).trans ((rI_ne (by decide) _).trans (congrFun (hq1 7 (by omega) (by omega) (by omega)) f))), hf1.1, hf1.2.1, hf1.2.2.1, fun c k1 k2 k3 k4 k5 => (funext fun j => (rI_ne k5 j).trans ((rI_ne k5 j).trans ((rI_ne k4 j).trans (congrFun (hq1 c k1 k2 k3) j)))), hf1.2.2.2.2.2.2.1, hf1.2.2.2.2.2.2.2⟩
  have hS1 : dRF S1 b1 R1 n sz ord pl D1 U1 (fn + 1) (fup rt fn y) (lup Fn fn g) := by
    refine ⟨⟨by rw [exF_s]; exact hG1, hc1, ?_, ?_, ho⟩, fun f hf => ?_, by omega, fun f hf => ?_⟩
    · rw [exF_s]
      intro x h2 hx
      rcases hx with h | h | h
      · omega
      · rcases hu1 x h with h3 | h3 | h3
        · exact h3
        · exact absurd h3 id
        · exact absurd h3.1 (by omega)
      · omega
    · exact ⟨by rw [h531]; exact hO.1, by rw [h541]; exact hO.2⟩
    · by_cases cf : f = fn
      · rw [cf, fup_at, lup_at]
        exact ⟨hy1, hs1.trans (pcf_0 ht 0)⟩
      · rw [fup_ne cf, lup_ne cf]
        have h9 := hrt f (by omega)
        exact ⟨xtD_ok hx1 h9.1, (hx1.2 _ h9.1).trans h9.2⟩
    · by_cases cf : f = fn
      · rw [cf, lup_at]
        exact ht
      · rw [lup_ne cf]
        exact htb f (by omega)
  exact dRF_w (by omega) (dRF_w (by omega) (dRF_w (by omega) hS1))
end CA
section CB
variable {X : List Int32} {S : ST} {n fn Z : Nat} {sz ord : Nat → Nat} {wt : Nat → Int} {ro : Nat → Bool} {Fn : Nat → Nat → Bool} {nm : Nat → Int64} {sd : Option (Nat → Bool)} {tr tn : Int} {up lo : Int64}
/-- the next row made ready -/
def bkS (S : ST) (fn : Nat) (g : Nat → Bool) : ST := wRw (wL (wRw S (9 + fn) 0 (fun _ => false)) 49 fn (lI 0)) (9 + fn) 0 g
theorem rowS_wL {a o k : Nat} {x : Int64} {f : Nat → Bool} (ha : a ≠ 49) (h : rowS S a o f) : rowS (wL S 49 k x) a o f := fun i hi => by
  rw [SL_wL, if_neg (fun z => ha z.1)]
  exact h i hi
theorem bk_row {a o : Nat} {g f : Nat → Bool} (ha : a ≠ 49) (h9 : a ≠ 9 + fn) (h : rowS S a o f) : rowS (bkS S fn g) a o f := rowS_ne (Or.inl h9) (rowS_wL ha (rowS_ne (Or.inl h9) h))
theorem bl_row {a o : Nat} {f : Nat → Bool} (ha : a ≠ 49) (h9 : a ≠ 9 + fn) (h : rowS S a o f) : rowS (wL (wRw S (9 + fn) 0 (fun _ => false)) 49 fn (lI 0)) a o f := rowS_wL ha (rowS_ne (Or.inl h9) h)
theorem CI_adopt {g : Nat → Bool} (h : CI S n sz wt ro fn Fn nm ord sd tr tn up lo Z) (h40 : fn < 40) (ht : tbT (pr sz n) g) : sM X 15 133 [.ref 0] (bkS S fn g) (fun r S' => r = some (.int (iI ((fn : Nat) : Int))) ∧ CI S' n sz wt ro (fn + 1) (lup Fn fn g) (nup nm fn (lI 0)) ord sd tr tn up lo Z ∧ frX S S') := by
  obtain ⟨hvC, hwC, ⟨wb, hgC⟩, ⟨f1, f2, f3, f4, f5, f6, f7⟩, ⟨b, R, pl, D, U, rt, hR, hro, hsd, hz1, hz2⟩, t1, t2, t3, t4⟩ := h
  have hb58 := hR.1.1.1.1
  have hlen := dA_len hR.1.1.1
  refine sM.weaken (c_adopt (S := bkS S fn g) (dr := 0) hvC (dRF_L (S := S) rfl rfl rfl hR) f1 f2 (by omega) h40 (rowS_wRw _ _ _ _) ht) ?_
  rintro r S' ⟨h1, y, b', R', D', U', h2, h3, h4, h5, h6, h7, h8, k1, k2, k3, k4, k5, k6⟩
  have e1 : (bkS S fn g).1 = S.1 := rfl
  rw [e1] at k1 k3 k4 k6
  have kk : ∀ c, c < 52 → c ≠ 50 → c ≠ 7 → SI S' c = SI S c := fun c hc hc1 hc2 => k4 c (by omega) (Or.inl hc) (by omega) hc1 hc2
  have kl : ∀ c, c < 64 → c ≠ 49 → c ≠ 9 + fn → SL S' c = SL S c := fun c hc hc1 hc2 => (k3 c (by omega)).trans (funext fun k => by
    show SL (wRw (wL (wRw S (9 + fn) 0 (fun _ => false)) 49 fn (lI 0)) (9 + fn) 0 g) c k = _
    rw [SL_wRw, if_neg (fun z => hc2 z.1), SL_wL, if_neg (fun z => hc1 z.1), SL_wRw, if_neg (fun z => hc2 z.1)])
  refine ⟨h1, ⟨?_, ?_, ⟨wb, ?_⟩, ⟨h4, h5, by omega, fun i hi => ?_, ?_, fun i hi => ?_, fun i hi => ?_⟩, ⟨b', R', pl, D', U', fup rt fn y, h2, fun i hi => ?_, ?_, ?_, ?_⟩, ?_, ?_, ?_, ?_⟩, k1, fun c c1 c2 => ⟨?_, ?_, ?_⟩, fun c m hc => ?_⟩
  · obtain ⟨v1, v2, v3, v4, v5⟩ := hvC
    refine ⟨v1, ?_, ?_, ?_, ?_⟩
    · rw [kk 1 (by omega) (by omega) (by omega)]
      exact v2
    · rw [kk 1 (by omega) (by omega) (by omega)]
      exact v3
    · rw [kk 2 (by omega) (by omega) (by omega)]
      exact v4
    · rw [kk 3 (by omega) (by omega) (by omega)]
      exact v5
  · unfold wC at *
    rw [kk 4 (by omega) (by omega) (by omega), kk 5 (by omega) (by omega) (by omega)]
    exact hwC
  · unfold gC at *
    rw [kk 1 (by omega) (by omega) (by omega), kl 6 (by omega) (by omega) (by omega)]
    exact hgC
  · intro k hk
    rw [k3 (9 + i) (by omega)]
    by_cases ci : i = fn
    · rw [ci, lup_at]
      exact rowS_wRw _ _ _ _ k hk
    · rw [lup_ne ci]
      exact bk_row (by omega) (by omega) (f4 i (by omega)) k hk
  · intro k hk
    rw [kl 51 (by omega) (by omega) (by omega)]
    exact f5 k hk
  · rw [k3 49 (by omega)]
    show SL (wRw (wL (wRw S (9 + fn) 0 (fun _ => false)) 49 fn (lI 0)) (9 + fn) 0 g) 49 i = _
    rw [SL_wRw, if_neg (fun z => by have := z.1; omega), SL_wL]
    unfold nup
    by_cases ci : i = fn
    · rw [if_pos ⟨rfl, ci⟩, if_pos ci]
    · rw [if_neg (fun z => ci z.2), if_neg ci, SL_wRw, if_neg (fun z => by have := z.1; omega)]
      exact f6 i (by omega)
  · by_cases ci : i = fn
    · rw [ci, lup_at]
      exact ht
    · rw [lup_ne ci]
      exact f7 i (by omega)
  · by_cases ci : i = fn
    · rw [ci, fup_at]
      exact h6
    · rw [fup_ne ci, h7 i ci]
      exact hro i (by omega)
  · rcases hsd with ⟨a1, a2⟩ | ⟨g9, y9, a1, a2, a3, a4⟩
    · exact Or.inl ⟨a1, by rw [kk 0 (by omega) (by omega) (by omega)]; exact a2⟩
    · exact Or.inr ⟨g9, y9, a1, by rw [kk 0 (by omega) (by omega) (by omega)]; exact a2, (h3 y9 a3).1, (h3 y9 a3).2.trans a4⟩
  · have e2 : tz (bkS S fn g) = tz S := rfl
    omega
  · omega
  · rw [kk 0 (by omega) (by omega) (by omega)]
    exact t1
  · rw [kk 0 (by omega) (by omega) (by omega)]
    exact t2
  · rw [kl 0 (by omega) (by omega) (by omega)]
    exact t3
  · rw [kl 0 (by omega) (by omega) (by omega)]
    exact t4
  · exact k4 c (by omega) (by omega) (by omega) (by omega) (by omega)
  · refine (k3 c (by omega)).trans (funext fun k => ?_)
    show SL (wRw (wL (wRw S (9 + fn) 0 (fun _ => false)) 49 fn (lI 0)) (9 + fn) 0 g) c k = _
    rw [SL_wRw, if_neg (fun z => by have := z.1; omega), SL_wL, if_neg (fun z => by have := z.1; omega), SL_wRw, if_neg (fun z => by have := z.1; omega)]
  · exact k2 c (by omega)
  · have hl := kd_len hc
    have hA := hR.1.1.1
    refine k4 c hl ?_ ?_ ?_ ?_
    · refine Classical.byContradiction fun z => ?_
      have : c = 52 ∨ c = 53 ∨ c = 54 ∨ c = 55 ∨ c = 56 ∨ c = 57 := by omega
      rcases this with q | q | q | q | q | q <;> (rw [q] at hc; first | (rw [sk_52] at hc; cases hc) | (rw [sk_53] at hc; cases hc) | (rw [sk_54] at hc; cases hc) | (rw [sk_55] at hc; cases hc) | (rw [sk_56] at hc; cases hc) | (rw [sk_57] at hc; cases hc))
    · refine Classical.byContradiction fun z => ?_
      obtain ⟨_, _, _, _, _, _, _, _, _, a0, a1, a2, a3, a4, a5⟩ := hA
      have : c = b ∨ c = b + 1 ∨ c = b + 2 ∨ c = b + 3 ∨ c = b + 4 ∨ c = b + 5 := by omega
      rcases this with q | q | q | q | q | q
      · rw [q, a0] at hc; cases hc
      · rw [q, a1] at hc; cases hc
      · rw [q, a2] at hc; cases hc
      · rw [q, a3] at hc; cases hc
      · rw [q, a4] at hc; cases hc
      · rw [q, a5] at hc; cases hc
    · intro q
      rw [q, sk_50] at hc
      cases hc
    · intro q
      rw [q, sk_7] at hc
      cases hc
theorem k_Is {x y : Int} (h : CI S n sz wt ro fn Fn nm ord sd tr tn up lo Z) (hx : rg x) (hy : rg y) : sM X 16 123 [.ref 0, .int (iI x), .int (iI y)] S (fnQ (okIs n sz fn x y) (rIs n sz fn x y) (fun S' => CI S' n sz wt ro fn Fn nm ord sd tr tn up lo Z) (fun S' => CI S' n sz wt ro (fn + 1) (lup Fn fn (cut (pr sz n) (fun r => decide (val sz r x.toNat = y.toNat)))) (nup nm fn (lI 0)) ord sd tr tn up lo Z) S) := by
  have hCI := h
  obtain ⟨hvC, hwC, ⟨wb, hgC⟩, ⟨hfn, hdr, h40, hF, hev, hnm, htb⟩, _, _, _, _, _⟩ := h
  have hn := hvC.1.1
  have hT0 := hvC.1.2.2
  have x1 := hx.1
  have x2 := hx.2
  have y1 := hy.1
  have y2 := hy.2
  refine sIni (ls := [some (.ref 0), some (.int (iI x)), some (.int (iI y))]) rfl ?_
  refine sL (pc' := 1) (i := .aload_n 0) rfl rfl ?_
  refine sGc (p := 4) rfl rfl (sk_0 _) rfl rfl rfl ?_
  refine sL (pc' := 5) (i := .iload_n 1) rfl rfl ?_
  refine sCv (p := 8) (as := [_]) rfl rfl rfl rfl (by decide) (Nat.le_of_ble_eq_true rfl) rfl (Nat.le_of_ble_eq_true rfl) (sk_1 _) rfl (by omega) (c_has hvC hx) ?_
  refine sBn (p := 11) rfl rfl (fun c1 => ?_) (fun c1 => ?_)
  · have c1 := c1
    have c1 := of_decide_eq_true c1
    obtain ⟨v, rfl⟩ : ∃ v : Nat, x = (v : Int) := ⟨x.toNat, by omega⟩
    have hxe : sz (((v : Nat) : Int).toNat) = sz v := rfl
    have hvv : v < n := by omega
    have hs := hvC.1.2.1 v hvv
    refine sL (pc' := 15) (i := .aload_n 0) rfl rfl ?_
    refine sGc (p := 18) rfl rfl (sk_0 _) rfl rfl rfl ?_
    refine sL (pc' := 19) (i := .iload_n 1) rfl rfl ?_
    refine sL (pc' := 20) (i := .iload_n 2) rfl rfl ?_
    refine sCv (p := 23) (as := [_, _]) rfl rfl rfl rfl (by decide) (Nat.le_of_ble_eq_true rfl) rfl (Nat.le_of_ble_eq_true rfl) (sk_1 _) rfl (by omega) (c_hasValue hvC (x := ((v : Nat) : Int)) (y := y) ⟨by omega, by omega⟩ hy) ?_
    refine sBn (p := 26) rfl rfl (fun c2 => ?_) (fun c2 => ?_)
    · have c2 := c2
      have c2 := of_decide_eq_true c2
      obtain ⟨k, rfl⟩ : ∃ k : Nat, y = (k : Int) := ⟨y.toNat, by omega⟩
      refine sL (pc' := 30) (i := .aload_n 0) rfl rfl ?_
      refine sGc (p := 33) rfl rfl (sk_0 _) rfl rfl rfl ?_
      refine sCv (p := 36) (as := []) rfl rfl rfl rfl (by decide) (Nat.le_of_ble_eq_true rfl) rfl (Nat.le_of_ble_eq_true rfl) (sk_7 _) rfl (by omega) (c_isFull (dr := 0) hfn hdr (by omega)) ?_
      refine sBe (p := 39) rfl rfl (fun c3 => ?_) (fun c3 => ?_)
      · have c3 := c3
        have c3 := of_decide_eq_false c3
        refine sL (pc' := 43) (i := .aload_n 0) rfl rfl ?_
        refine sGc (p := 46) rfl rfl (sk_0 _) rfl rfl rfl ?_
        refine sL (pc' := 47) (i := .aload_n 0) rfl rfl ?_
        refine sGc (p := 50) rfl rfl (sk_0 _) rfl rfl rfl ?_
        refine sCv (p := 53) (as := []) rfl rfl rfl rfl (by decide) (Nat.le_of_ble_eq_true rfl) rfl (Nat.le_of_ble_eq_true rfl) (sk_7 _) rfl (by omega) (c_blank hfn (by omega)) ?_
        refine sL (pc' := 54) (i := .iload_n 1) rfl rfl ?_
        refine sL (pc' := 55) (i := .iload_n 2) rfl rfl ?_
        refine sCv (p := 58) (as := [_, _, _]) rfl rfl rfl rfl (by decide) (Nat.le_of_ble_eq_true rfl) rfl (Nat.le_of_ble_eq_true rfl) (sk_7 _) rfl (by omega) (c_markValue (S := (wL (wRw S (9 + fn) 0 (fun _ => false)) 49 fn (lI 0))) (x := ((v : Nat) : Int)) (y := ((k : Nat) : Int)) hvC (sk_rows _ (by omega)) (rowS_wL (by omega) (rowS_wRw _ _ _ _)) ⟨by omega, by omega⟩ ⟨by omega, by omega⟩) ?_
        rw [show mk (fun _ => false) (fun r => decide (vlI n sz ((v : Nat) : Int) r = ((k : Nat) : Int))) (pr sz n) = cut (pr sz n) (fun r => decide (val sz r v = k)) from by rw [mk_cut]; congr 1; funext r; rw [vlI_v hvv]; exact decide_eq_decide.mpr ⟨fun h => by omega, fun h => by omega⟩]
        refine sL (pc' := 59) (i := .aload_n 0) rfl rfl ?_
        refine sCvQ (p := 62) (as := []) rfl rfl rfl rfl (by decide) (Nat.le_of_ble_eq_true rfl) rfl (Nat.le_of_ble_eq_true rfl) (sk_0 _) rfl (by omega) (CI_adopt (g := cut (pr sz n) (fun r => decide (val sz r v = k))) hCI (by omega) (cut_tb _ _)) ?_
        rintro _ Sz ⟨rfl, hC1, hfX⟩
        refine sEn (i := .ireturn) rfl (rfl) ?_
        refine ⟨congrArg (fun z => some (Value.int (iI z))) ?_, fun _ => hC1, fun z => absurd (by omega) z, hfX⟩
        unfold rIs
        rw [if_neg (by omega), if_neg (by omega), if_neg (by omega)]
      · have c3 := c3
        have c3 := of_decide_eq_true c3
        refine sKb (p := 41) rfl rfl ?_
        refine sEn (i := .ireturn) rfl (rfl) ?_
        refine ⟨congrArg (fun z => some (Value.int (iI z))) ?_, fun z => absurd z (by omega), fun _ => hCI, frX_refl _⟩
        unfold rIs
        rw [if_neg (by omega), if_neg (by omega), if_pos (by omega)]
    · have c2 := c2
      have c2 := of_decide_eq_false c2
      refine sKb (p := 28) rfl rfl ?_
      refine sEn (i := .ireturn) rfl (rfl) ?_
      refine ⟨congrArg (fun z => some (Value.int (iI z))) ?_, fun z => absurd z (by omega), fun _ => hCI, frX_refl _⟩
      unfold rIs
      rw [if_neg (by omega), if_pos (by omega)]
  · have c1 := c1
    have c1 := of_decide_eq_false c1
    refine sKb (p := 13) rfl rfl ?_
    refine sEn (i := .ireturn) rfl (rfl) ?_
    refine ⟨congrArg (fun z => some (Value.int (iI z))) ?_, fun z => absurd z (by omega), fun _ => hCI, frX_refl _⟩
    unfold rIs
    rw [if_pos (by omega)]
theorem k_Cmp {x y u : Int} (h : CI S n sz wt ro fn Fn nm ord sd tr tn up lo Z) (hx : rg x) (hy : rg y) (hu : rg u) : sM X 16 124 [.ref 0, .int (iI x), .int (iI y), .int (iI u)] S (fnQ (okCmp n fn x y u) (rCmp n fn x y u) (fun S' => CI S' n sz wt ro fn Fn nm ord sd tr tn up lo Z) (fun S' => CI S' n sz wt ro (fn + 1) (lup Fn fn (cut (pr sz n) (cmpP sz x.toNat y.toNat u.toNat))) (nup nm fn (lI 0)) ord sd tr tn up lo Z) S) := by
  have hCI := h
  obtain ⟨hvC, hwC, ⟨wb, hgC⟩, ⟨hfn, hdr, h40, hF, hev, hnm, htb⟩, _, _, _, _, _⟩ := h
  have hn := hvC.1.1
  have hT0 := hvC.1.2.2
  have x1 := hx.1
  have x2 := hx.2
  have y1 := hy.1
  have y2 := hy.2
  have u1 := hu.1
  have u2 := hu.2
  refine sIni (ls := [some (.ref 0), some (.int (iI x)), some (.int (iI y)), some (.int (iI u))]) rfl ?_
  refine sL (pc' := 1) (i := .aload_n 0) rfl rfl ?_
  refine sGc (p := 4) rfl rfl (sk_0 _) rfl rfl rfl ?_
  refine sL (pc' := 5) (i := .iload_n 1) rfl rfl ?_
  refine sCv (p := 8) (as := [_]) rfl rfl rfl rfl (by decide) (Nat.le_of_ble_eq_true rfl) rfl (Nat.le_of_ble_eq_true rfl) (sk_1 _) rfl (by omega) (c_has hvC hx) ?_
  refine sBe (p := 11) rfl rfl (fun c1 => ?_) (fun c1 => ?_)
  · have c1 := c1
    have c1 := of_decide_eq_false c1
    refine sKb (p := 24) rfl rfl ?_
    refine sEn (i := .ireturn) rfl (rfl) ?_
    refine ⟨congrArg (fun z => some (Value.int (iI z))) ?_, fun z => absurd z (by omega), fun _ => hCI, frX_refl _⟩
    unfold rCmp
    rw [if_pos (by omega)]
  · have c1 := c1
    have c1 := of_decide_eq_true c1
    refine sL (pc' := 12) (i := .aload_n 0) rfl rfl ?_
    refine sGc (p := 15) rfl rfl (sk_0 _) rfl rfl rfl ?_
    refine sL (pc' := 16) (i := .iload_n 2) rfl rfl ?_
    refine sCv (p := 19) (as := [_]) rfl rfl rfl rfl (by decide) (Nat.le_of_ble_eq_true rfl) rfl (Nat.le_of_ble_eq_true rfl) (sk_1 _) rfl (by omega) (c_has hvC hy) ?_
    refine sBn (p := 22) rfl rfl (fun c2 => ?_) (fun c2 => ?_)
    · have c2 := c2
      have c2 := of_decide_eq_true c2
      obtain ⟨v, rfl⟩ : ∃ v : Nat, x = (v : Int) := ⟨x.toNat, by omega⟩
      obtain ⟨k, rfl⟩ : ∃ k : Nat, y = (k : Int) := ⟨y.toNat, by omega⟩
      have hvv : v < n := by omega
      have hkk : k < n := by omega
      refine sL (pc' := 26) (i := .iload_n 3) rfl rfl ?_
      refine sIf_lt (p := 29) rfl rfl ⟨by omega, by omega⟩ (fun c3 => ?_) (fun c3 => ?_)
      · have c3 := c3
        refine sKb (p := 36) rfl rfl ?_
        refine sEn (i := .ireturn) rfl (rfl) ?_
        refine ⟨congrArg (fun z => some (Value.int (iI z))) ?_, fun z => absurd z (by omega), fun _ => hCI, frX_refl _⟩
        unfold rCmp
        rw [if_neg (by omega), if_pos (by omega)]
      · have c3 := c3
        refine sL (pc' := 30) (i := .iload_n 3) rfl rfl ?_
        refine sKi (p := 31) rfl rfl ?_
        refine sIc_le (p := 34) rfl rfl ⟨by omega, by omega⟩ ⟨by omega, by omega⟩ (fun c4 => ?_) (fun c4 => ?_)
        · have c4 := c4
          obtain ⟨hw, rfl⟩ : ∃ hw : Nat, u = (hw : Int) := ⟨u.toNat, by omega⟩
          refine sL (pc' := 38) (i := .aload_n 0) rfl rfl ?_
          refine sGc (p := 41) rfl rfl (sk_0 _) rfl rfl rfl ?_
          refine sCv (p := 44) (as := []) rfl rfl rfl rfl (by decide) (Nat.le_of_ble_eq_true rfl) rfl (Nat.le_of_ble_eq_true rfl) (sk_7 _) rfl (by omega) (c_isFull (dr := 0) hfn hdr (by omega)) ?_
          refine sBe (p := 47) rfl rfl (fun c5 => ?_) (fun c5 => ?_)
          · have c5 := c5
            have c5 := of_decide_eq_false c5
            refine sL (pc' := 51) (i := .aload_n 0) rfl rfl ?_
            refine sGc (p := 54) rfl rfl (sk_0 _) rfl rfl rfl ?_
            refine sL (pc' := 55) (i := .aload_n 0) rfl rfl ?_
            refine sGc (p := 58) rfl rfl (sk_0 _) rfl rfl rfl ?_
            refine sCv (p := 61) (as := []) rfl rfl rfl rfl (by decide) (Nat.le_of_ble_eq_true rfl) rfl (Nat.le_of_ble_eq_true rfl) (sk_7 _) rfl (by omega) (c_blank hfn (by omega)) ?_
            refine sL (pc' := 62) (i := .iload_n 1) rfl rfl ?_
            refine sL (pc' := 63) (i := .iload_n 2) rfl rfl ?_
            refine sL (pc' := 64) (i := .iload_n 3) rfl rfl ?_
            refine sCv (p := 67) (as := [_, _, _, _]) rfl rfl rfl rfl (by decide) (Nat.le_of_ble_eq_true rfl) rfl (Nat.le_of_ble_eq_true rfl) (sk_7 _) rfl (by omega) (c_markCompared (S := (wL (wRw S (9 + fn) 0 (fun _ => false)) 49 fn (lI 0))) (u := v) (v := k) (how := hw) hvC (sk_rows _ (by omega)) (rowS_wL (by omega) (rowS_wRw _ _ _ _)) hvv hkk (by omega)) ?_
            rw [mk_cut]
            refine sL (pc' := 68) (i := .aload_n 0) rfl rfl ?_
            refine sCvQ (p := 71) (as := []) rfl rfl rfl rfl (by decide) (Nat.le_of_ble_eq_true rfl) rfl (Nat.le_of_ble_eq_true rfl) (sk_0 _) rfl (by omega) (CI_adopt (g := cut (pr sz n) (cmpP sz v k hw)) hCI (by omega) (cut_tb _ _)) ?_
            rintro _ Sz ⟨rfl, hC1, hfX⟩
            refine sEn (i := .ireturn) rfl (rfl) ?_
            refine ⟨congrArg (fun z => some (Value.int (iI z))) ?_, fun _ => hC1, fun z => absurd (by omega) z, hfX⟩
            unfold rCmp
            rw [if_neg (by omega), if_neg (by omega), if_neg (by omega)]
          · have c5 := c5
            have c5 := of_decide_eq_true c5
            refine sKb (p := 49) rfl rfl ?_
            refine sEn (i := .ireturn) rfl (rfl) ?_
            refine ⟨congrArg (fun z => some (Value.int (iI z))) ?_, fun z => absurd z (by omega), fun _ => hCI, frX_refl _⟩
            unfold rCmp
            rw [if_neg (by omega), if_neg (by omega), if_pos (by omega)]
        · have c4 := c4
          refine sKb (p := 36) rfl rfl ?_
          refine sEn (i := .ireturn) rfl (rfl) ?_
          refine ⟨congrArg (fun z => some (Value.int (iI z))) ?_, fun z => absurd z (by omega), fun _ => hCI, frX_refl _⟩
          unfold rCmp
          rw [if_neg (by omega), if_pos (by omega)]
    · have c2 := c2
      have c2 := of_decide_eq_false c2
      refine sKb (p := 24) rfl rfl ?_
      refine sEn (i := .ireturn) rfl (rfl) ?_
      refine ⟨congrArg (fun z => some (Value.int (iI z))) ?_, fun z => absurd z (by omega), fun _ => hCI, frX_refl _⟩
      unfold rCmp
      rw [if_pos (by omega)]
theorem k_Join {u x y : Int} (h : CI S n sz wt ro fn Fn nm ord sd tr tn up lo Z) (hu : rg u) (hx : rg x) (hy : rg y) : sM X 16 126 [.ref 0, .int (iI u), .int (iI x), .int (iI y)] S (fnQ (okJoin fn u x y) (rJoin fn u x y) (fun S' => CI S' n sz wt ro fn Fn nm ord sd tr tn up lo Z) (fun S' => CI S' n sz wt ro (fn + 1) (lup Fn fn (fun r => jn u.toNat (Fn x.toNat r) (Fn y.toNat r) && decide (r < pr sz n))) (nup nm fn (lI 0)) ord sd tr tn up lo Z) S) := by
  have hCI := h
  obtain ⟨hvC, hwC, ⟨wb, hgC⟩, ⟨hfn, hdr, h40, hF, hev, hnm, htb⟩, _, _, _, _, _⟩ := h
  have hn := hvC.1.1
  have hT0 := hvC.1.2.2
  have x1 := hx.1
  have x2 := hx.2
  have y1 := hy.1
  have y2 := hy.2
  have u1 := hu.1
  have u2 := hu.2
  refine sIni (ls := [some (.ref 0), some (.int (iI u)), some (.int (iI x)), some (.int (iI y))]) rfl ?_
  refine sL (pc' := 1) (i := .aload_n 0) rfl rfl ?_
  refine sGc (p := 4) rfl rfl (sk_0 _) rfl rfl rfl ?_
  refine sL (pc' := 5) (i := .iload_n 2) rfl rfl ?_
  refine sCv (p := 8) (as := [_]) rfl rfl rfl rfl (by decide) (Nat.le_of_ble_eq_true rfl) rfl (Nat.le_of_ble_eq_true rfl) (sk_7 _) rfl (by omega) (c_fhas hfn h40 hx) ?_
  refine sBe (p := 11) rfl rfl (fun c1 => ?_) (fun c1 => ?_)
  · have c1 := c1
    have c1 := of_decide_eq_false c1
    refine sKb (p := 24) rfl rfl ?_
    refine sEn (i := .ireturn) rfl (rfl) ?_
    refine ⟨congrArg (fun z => some (Value.int (iI z))) ?_, fun z => absurd z (by omega), fun _ => hCI, frX_refl _⟩
    unfold rJoin
    rw [if_pos (by omega)]
  · have c1 := c1
    have c1 := of_decide_eq_true c1
    refine sL (pc' := 12) (i := .aload_n 0) rfl rfl ?_
    refine sGc (p := 15) rfl rfl (sk_0 _) rfl rfl rfl ?_
    refine sL (pc' := 16) (i := .iload_n 3) rfl rfl ?_
    refine sCv (p := 19) (as := [_]) rfl rfl rfl rfl (by decide) (Nat.le_of_ble_eq_true rfl) rfl (Nat.le_of_ble_eq_true rfl) (sk_7 _) rfl (by omega) (c_fhas hfn h40 hy) ?_
    refine sBn (p := 22) rfl rfl (fun c2 => ?_) (fun c2 => ?_)
    · have c2 := c2
      have c2 := of_decide_eq_true c2
      obtain ⟨f0, rfl⟩ : ∃ f0 : Nat, x = (f0 : Int) := ⟨x.toNat, by omega⟩
      obtain ⟨f1, rfl⟩ : ∃ f1 : Nat, y = (f1 : Int) := ⟨y.toNat, by omega⟩
      have hf0 : f0 < fn := by omega
      have hf1 : f1 < fn := by omega
      refine sL (pc' := 26) (i := .iload_n 1) rfl rfl ?_
      refine sIf_lt (p := 29) rfl rfl ⟨by omega, by omega⟩ (fun c3 => ?_) (fun c3 => ?_)
      · have c3 := c3
        refine sKb (p := 36) rfl rfl ?_
        refine sEn (i := .ireturn) rfl (rfl) ?_
        refine ⟨congrArg (fun z => some (Value.int (iI z))) ?_, fun z => absurd z (by omega), fun _ => hCI, frX_refl _⟩
        unfold rJoin
        rw [if_neg (by omega), if_pos (by omega)]
      · have c3 := c3
        refine sL (pc' := 30) (i := .iload_n 1) rfl rfl ?_
        refine sKi (p := 31) rfl rfl ?_
        refine sIc_le (p := 34) rfl rfl ⟨by omega, by omega⟩ ⟨by omega, by omega⟩ (fun c4 => ?_) (fun c4 => ?_)
        · have c4 := c4
          obtain ⟨k, rfl⟩ : ∃ k : Nat, u = (k : Int) := ⟨u.toNat, by omega⟩
          refine sL (pc' := 38) (i := .aload_n 0) rfl rfl ?_
          refine sGc (p := 41) rfl rfl (sk_0 _) rfl rfl rfl ?_
          refine sCv (p := 44) (as := []) rfl rfl rfl rfl (by decide) (Nat.le_of_ble_eq_true rfl) rfl (Nat.le_of_ble_eq_true rfl) (sk_7 _) rfl (by omega) (c_isFull (dr := 0) hfn hdr (by omega)) ?_
          refine sBe (p := 47) rfl rfl (fun c5 => ?_) (fun c5 => ?_)
          · have c5 := c5
            have c5 := of_decide_eq_false c5
            refine sL (pc' := 51) (i := .aload_n 0) rfl rfl ?_
            refine sGc (p := 54) rfl rfl (sk_0 _) rfl rfl rfl ?_
            refine sL (pc' := 55) (i := .aload_n 0) rfl rfl ?_
            refine sGc (p := 58) rfl rfl (sk_0 _) rfl rfl rfl ?_
            refine sCv (p := 61) (as := []) rfl rfl rfl rfl (by decide) (Nat.le_of_ble_eq_true rfl) rfl (Nat.le_of_ble_eq_true rfl) (sk_7 _) rfl (by omega) (c_blank hfn (by omega)) ?_
            refine sL (pc' := 62) (i := .iload_n 1) rfl rfl ?_
            refine sL (pc' := 63) (i := .aload_n 0) rfl rfl ?_
            refine sGc (p := 66) rfl rfl (sk_0 _) rfl rfl rfl ?_
            refine sL (pc' := 67) (i := .iload_n 2) rfl rfl ?_
            refine sCv (p := 70) (as := [_]) rfl rfl rfl rfl (by decide) (Nat.le_of_ble_eq_true rfl) rfl (Nat.le_of_ble_eq_true rfl) (sk_7 _) rfl (by omega) (c_row (i := f0) (by omega)) ?_
            refine sL (pc' := 71) (i := .aload_n 0) rfl rfl ?_
            refine sGc (p := 74) rfl rfl (sk_0 _) rfl rfl rfl ?_
            refine sL (pc' := 75) (i := .iload_n 3) rfl rfl ?_
            refine sCv (p := 78) (as := [_]) rfl rfl rfl rfl (by decide) (Nat.le_of_ble_eq_true rfl) rfl (Nat.le_of_ble_eq_true rfl) (sk_7 _) rfl (by omega) (c_row (i := f1) (by omega)) ?_
            refine sCv (p := 81) (as := [_, _, _, _]) rfl rfl rfl rfl (by decide) (Nat.le_of_ble_eq_true rfl) rfl (Nat.le_of_ble_eq_true rfl) (sk_7 _) rfl (by omega) (c_combine (S := (wL (wRw S (9 + fn) 0 (fun _ => false)) 49 fn (lI 0))) (op := k) (sk_rows _ (by omega)) (sk_rows _ (by omega)) (sk_rows _ (by omega)) (bl_row (by omega) (by omega) (hF f0 hf0)) (bl_row (by omega) (by omega) (hF f1 hf1)) (bl_row (by omega) (by omega) hev) (by omega) (by omega)) ?_
            refine sL (pc' := 82) (i := .aload_n 0) rfl rfl ?_
            refine sCvQ (p := 85) (as := []) rfl rfl rfl rfl (by decide) (Nat.le_of_ble_eq_true rfl) rfl (Nat.le_of_ble_eq_true rfl) (sk_0 _) rfl (by omega) (CI_adopt (g := fun r => jn k (Fn f0 r) (Fn f1 r) && decide (r < pr sz n)) hCI (by omega) (fun r hr => by show (_ && decide (r < pr sz n)) = false; rw [decide_eq_false (by omega), Bool.and_false])) ?_
            rintro _ Sz ⟨rfl, hC1, hfX⟩
            refine sEn (i := .ireturn) rfl (rfl) ?_
            refine ⟨congrArg (fun z => some (Value.int (iI z))) ?_, fun _ => hC1, fun z => absurd (by omega) z, hfX⟩
            unfold rJoin
            rw [if_neg (by omega), if_neg (by omega), if_neg (by omega)]
          · have c5 := c5
            have c5 := of_decide_eq_true c5
            refine sKb (p := 49) rfl rfl ?_
            refine sEn (i := .ireturn) rfl (rfl) ?_
            refine ⟨congrArg (fun z => some (Value.int (iI z))) ?_, fun z => absurd z (by omega), fun _ => hCI, frX_refl _⟩
            unfold rJoin
            rw [if_neg (by omega), if_neg (by omega), if_pos (by omega)]
        · have c4 := c4
          refine sKb (p := 36) rfl rfl ?_
          refine sEn (i := .ireturn) rfl (rfl) ?_
          refine ⟨congrArg (fun z => some (Value.int (iI z))) ?_, fun z => absurd z (by omega), fun _ => hCI, frX_refl _⟩
          unfold rJoin
          rw [if_neg (by omega), if_pos (by omega)]
    · have c2 := c2
      have c2 := of_decide_eq_false c2
      refine sKb (p := 24) rfl rfl ?_
      refine sEn (i := .ireturn) rfl (rfl) ?_
      refine ⟨congrArg (fun z => some (Value.int (iI z))) ?_, fun z => absurd z (by omega), fun _ => hCI, frX_refl _⟩
      unfold rJoin
      rw [if_pos (by omega)]
theorem k_Not {x : Int} (h : CI S n sz wt ro fn Fn nm ord sd tr tn up lo Z) (hx : rg x) : sM X 16 127 [.ref 0, .int (iI x)] S (fnQ (okNot fn x) (rNot fn x) (fun S' => CI S' n sz wt ro fn Fn nm ord sd tr tn up lo Z) (fun S' => CI S' n sz wt ro (fn + 1) (lup Fn fn (fun r => !Fn x.toNat r && decide (r < pr sz n))) (nup nm fn (lI 0)) ord sd tr tn up lo Z) S) := by
  have hCI := h
  obtain ⟨hvC, hwC, ⟨wb, hgC⟩, ⟨hfn, hdr, h40, hF, hev, hnm, htb⟩, _, _, _, _, _⟩ := h
  have hn := hvC.1.1
  have hT0 := hvC.1.2.2
  have x1 := hx.1
  have x2 := hx.2
  refine sIni (ls := [some (.ref 0), some (.int (iI x))]) rfl ?_
  refine sL (pc' := 1) (i := .aload_n 0) rfl rfl ?_
  refine sGc (p := 4) rfl rfl (sk_0 _) rfl rfl rfl ?_
  refine sL (pc' := 5) (i := .iload_n 1) rfl rfl ?_
  refine sCv (p := 8) (as := [_]) rfl rfl rfl rfl (by decide) (Nat.le_of_ble_eq_true rfl) rfl (Nat.le_of_ble_eq_true rfl) (sk_7 _) rfl (by omega) (c_fhas hfn h40 hx) ?_
  refine sBn (p := 11) rfl rfl (fun c1 => ?_) (fun c1 => ?_)
  · have c1 := c1
    have c1 := of_decide_eq_true c1
    obtain ⟨f0, rfl⟩ : ∃ f0 : Nat, x = (f0 : Int) := ⟨x.toNat, by omega⟩
    have hf0 : f0 < fn := by omega
    refine sL (pc' := 15) (i := .aload_n 0) rfl rfl ?_
    refine sGc (p := 18) rfl rfl (sk_0 _) rfl rfl rfl ?_
    refine sCv (p := 21) (as := []) rfl rfl rfl rfl (by decide) (Nat.le_of_ble_eq_true rfl) rfl (Nat.le_of_ble_eq_true rfl) (sk_7 _) rfl (by omega) (c_isFull (dr := 0) hfn hdr (by omega)) ?_
    refine sBe (p := 24) rfl rfl (fun c2 => ?_) (fun c2 => ?_)
    · have c2 := c2
      have c2 := of_decide_eq_false c2
      refine sL (pc' := 28) (i := .aload_n 0) rfl rfl ?_
      refine sGc (p := 31) rfl rfl (sk_0 _) rfl rfl rfl ?_
      refine sL (pc' := 32) (i := .aload_n 0) rfl rfl ?_
      refine sGc (p := 35) rfl rfl (sk_0 _) rfl rfl rfl ?_
      refine sCv (p := 38) (as := []) rfl rfl rfl rfl (by decide) (Nat.le_of_ble_eq_true rfl) rfl (Nat.le_of_ble_eq_true rfl) (sk_7 _) rfl (by omega) (c_blank hfn (by omega)) ?_
      refine sKi (p := 39) rfl rfl ?_
      refine sL (pc' := 40) (i := .aload_n 0) rfl rfl ?_
      refine sGc (p := 43) rfl rfl (sk_0 _) rfl rfl rfl ?_
      refine sGc (p := 46) rfl rfl (sk_7 _) rfl rfl rfl ?_
      refine sL (pc' := 47) (i := .aload_n 0) rfl rfl ?_
      refine sGc (p := 50) rfl rfl (sk_0 _) rfl rfl rfl ?_
      refine sL (pc' := 51) (i := .iload_n 1) rfl rfl ?_
      refine sCv (p := 54) (as := [_]) rfl rfl rfl rfl (by decide) (Nat.le_of_ble_eq_true rfl) rfl (Nat.le_of_ble_eq_true rfl) (sk_7 _) rfl (by omega) (c_row (i := f0) (by omega)) ?_
      refine sCv (p := 57) (as := [_, _, _, _]) rfl rfl rfl rfl (by decide) (Nat.le_of_ble_eq_true rfl) rfl (Nat.le_of_ble_eq_true rfl) (sk_7 _) rfl (by omega) (c_combine (S := (wL (wRw S (9 + fn) 0 (fun _ => false)) 49 fn (lI 0))) (op := 5) (sk_rows _ (by omega)) (sk_51 _) (sk_rows _ (by omega)) (bl_row (by omega) (by omega) hev) (bl_row (by omega) (by omega) (hF f0 hf0)) (bl_row (by omega) (by omega) hev) (by omega) (by omega)) ?_
      rw [show (fun r => jn 5 (evr (pr sz n) r) (Fn f0 r) && decide (r < pr sz n)) = (fun r => !Fn f0 r && decide (r < pr sz n)) from funext fun r => by show ((decide (r < pr sz n) && !Fn f0 r) && decide (r < pr sz n)) = _; cases decide (r < pr sz n) <;> cases Fn f0 r <;> rfl]
      refine sL (pc' := 58) (i := .aload_n 0) rfl rfl ?_
      refine sCvQ (p := 61) (as := []) rfl rfl rfl rfl (by decide) (Nat.le_of_ble_eq_true rfl) rfl (Nat.le_of_ble_eq_true rfl) (sk_0 _) rfl (by omega) (CI_adopt (g := fun r => !Fn f0 r && decide (r < pr sz n)) hCI (by omega) (fun r hr => by show (_ && decide (r < pr sz n)) = false; rw [decide_eq_false (by omega), Bool.and_false])) ?_
      rintro _ Sz ⟨rfl, hC1, hfX⟩
      refine sEn (i := .ireturn) rfl (rfl) ?_
      refine ⟨congrArg (fun z => some (Value.int (iI z))) ?_, fun _ => hC1, fun z => absurd (by omega) z, hfX⟩
      unfold rNot
      rw [if_neg (by omega), if_neg (by omega)]
    · have c2 := c2
      have c2 := of_decide_eq_true c2
      refine sKb (p := 26) rfl rfl ?_
      refine sEn (i := .ireturn) rfl (rfl) ?_
      refine ⟨congrArg (fun z => some (Value.int (iI z))) ?_, fun z => absurd z (by omega), fun _ => hCI, frX_refl _⟩
      unfold rNot
      rw [if_neg (by omega), if_pos (by omega)]
  · have c1 := c1
    have c1 := of_decide_eq_false c1
    refine sKb (p := 13) rfl rfl ?_
    refine sEn (i := .ireturn) rfl (rfl) ?_
    refine ⟨congrArg (fun z => some (Value.int (iI z))) ?_, fun z => absurd z (by omega), fun _ => hCI, frX_refl _⟩
    unfold rNot
    rw [if_pos (by omega)]
theorem k_Choose {x y u : Int} (h : CI S n sz wt ro fn Fn nm ord sd tr tn up lo Z) (hx : rg x) (hy : rg y) (hu : rg u) : sM X 16 128 [.ref 0, .int (iI x), .int (iI y), .int (iI u)] S (fnQ (okChoose fn x y u) (rChoose fn x y u) (fun S' => CI S' n sz wt ro fn Fn nm ord sd tr tn up lo Z) (fun S' => CI S' n sz wt ro (fn + 1) (lup Fn fn (fun r => (Fn x.toNat r && Fn y.toNat r || !Fn x.toNat r && Fn u.toNat r) && decide (r < pr sz n))) (nup nm fn (lI 0)) ord sd tr tn up lo Z) S) := by
  have hCI := h
  obtain ⟨hvC, hwC, ⟨wb, hgC⟩, ⟨hfn, hdr, h40, hF, hev, hnm, htb⟩, _, _, _, _, _⟩ := h
  have hn := hvC.1.1
  have hT0 := hvC.1.2.2
  have x1 := hx.1
  have x2 := hx.2
  have y1 := hy.1
  have y2 := hy.2
  have u1 := hu.1
  have u2 := hu.2
  refine sIni (ls := [some (.ref 0), some (.int (iI x)), some (.int (iI y)), some (.int (iI u))]) rfl ?_
  refine sL (pc' := 1) (i := .aload_n 0) rfl rfl ?_
  refine sGc (p := 4) rfl rfl (sk_0 _) rfl rfl rfl ?_
  refine sL (pc' := 5) (i := .iload_n 1) rfl rfl ?_
  refine sCv (p := 8) (as := [_]) rfl rfl rfl rfl (by decide) (Nat.le_of_ble_eq_true rfl) rfl (Nat.le_of_ble_eq_true rfl) (sk_7 _) rfl (by omega) (c_fhas hfn h40 hx) ?_
  refine sBe (p := 11) rfl rfl (fun c1 => ?_) (fun c1 => ?_)
  · have c1 := c1
    have c1 := of_decide_eq_false c1
    refine sKb (p := 35) rfl rfl ?_
    refine sEn (i := .ireturn) rfl (rfl) ?_
    refine ⟨congrArg (fun z => some (Value.int (iI z))) ?_, fun z => absurd z (by omega), fun _ => hCI, frX_refl _⟩
    unfold rChoose
    rw [if_pos (by omega)]
  · have c1 := c1
    have c1 := of_decide_eq_true c1
    refine sL (pc' := 12) (i := .aload_n 0) rfl rfl ?_
    refine sGc (p := 15) rfl rfl (sk_0 _) rfl rfl rfl ?_
    refine sL (pc' := 16) (i := .iload_n 2) rfl rfl ?_
    refine sCv (p := 19) (as := [_]) rfl rfl rfl rfl (by decide) (Nat.le_of_ble_eq_true rfl) rfl (Nat.le_of_ble_eq_true rfl) (sk_7 _) rfl (by omega) (c_fhas hfn h40 hy) ?_
    refine sBe (p := 22) rfl rfl (fun c2 => ?_) (fun c2 => ?_)
    · have c2 := c2
      have c2 := of_decide_eq_false c2
      refine sKb (p := 35) rfl rfl ?_
      refine sEn (i := .ireturn) rfl (rfl) ?_
      refine ⟨congrArg (fun z => some (Value.int (iI z))) ?_, fun z => absurd z (by omega), fun _ => hCI, frX_refl _⟩
      unfold rChoose
      rw [if_pos (by omega)]
    · have c2 := c2
      have c2 := of_decide_eq_true c2
      refine sL (pc' := 23) (i := .aload_n 0) rfl rfl ?_
      refine sGc (p := 26) rfl rfl (sk_0 _) rfl rfl rfl ?_
      refine sL (pc' := 27) (i := .iload_n 3) rfl rfl ?_
      refine sCv (p := 30) (as := [_]) rfl rfl rfl rfl (by decide) (Nat.le_of_ble_eq_true rfl) rfl (Nat.le_of_ble_eq_true rfl) (sk_7 _) rfl (by omega) (c_fhas hfn h40 hu) ?_
      refine sBn (p := 33) rfl rfl (fun c3 => ?_) (fun c3 => ?_)
      · have c3 := c3
        have c3 := of_decide_eq_true c3
        obtain ⟨f0, rfl⟩ : ∃ f0 : Nat, x = (f0 : Int) := ⟨x.toNat, by omega⟩
        obtain ⟨f1, rfl⟩ : ∃ f1 : Nat, y = (f1 : Int) := ⟨y.toNat, by omega⟩
        obtain ⟨f2, rfl⟩ : ∃ f2 : Nat, u = (f2 : Int) := ⟨u.toNat, by omega⟩
        have hf0 : f0 < fn := by omega
        have hf1 : f1 < fn := by omega
        have hf2 : f2 < fn := by omega
        refine sL (pc' := 37) (i := .aload_n 0) rfl rfl ?_
        refine sGc (p := 40) rfl rfl (sk_0 _) rfl rfl rfl ?_
        refine sCv (p := 43) (as := []) rfl rfl rfl rfl (by decide) (Nat.le_of_ble_eq_true rfl) rfl (Nat.le_of_ble_eq_true rfl) (sk_7 _) rfl (by omega) (c_isFull (dr := 0) hfn hdr (by omega)) ?_
        refine sBe (p := 46) rfl rfl (fun c4 => ?_) (fun c4 => ?_)
        · have c4 := c4
          have c4 := of_decide_eq_false c4
          refine sL (pc' := 50) (i := .aload_n 0) rfl rfl ?_
          refine sGc (p := 53) rfl rfl (sk_0 _) rfl rfl rfl ?_
          refine sL (pc' := 54) (i := .aload_n 0) rfl rfl ?_
          refine sGc (p := 57) rfl rfl (sk_0 _) rfl rfl rfl ?_
          refine sCv (p := 60) (as := []) rfl rfl rfl rfl (by decide) (Nat.le_of_ble_eq_true rfl) rfl (Nat.le_of_ble_eq_true rfl) (sk_7 _) rfl (by omega) (c_blank hfn (by omega)) ?_
          refine sL (pc' := 61) (i := .aload_n 0) rfl rfl ?_
          refine sGc (p := 64) rfl rfl (sk_0 _) rfl rfl rfl ?_
          refine sL (pc' := 65) (i := .iload_n 1) rfl rfl ?_
          refine sCv (p := 68) (as := [_]) rfl rfl rfl rfl (by decide) (Nat.le_of_ble_eq_true rfl) rfl (Nat.le_of_ble_eq_true rfl) (sk_7 _) rfl (by omega) (c_row (i := f0) (by omega)) ?_
          refine sL (pc' := 69) (i := .aload_n 0) rfl rfl ?_
          refine sGc (p := 72) rfl rfl (sk_0 _) rfl rfl rfl ?_
          refine sL (pc' := 73) (i := .iload_n 2) rfl rfl ?_
          refine sCv (p := 76) (as := [_]) rfl rfl rfl rfl (by decide) (Nat.le_of_ble_eq_true rfl) rfl (Nat.le_of_ble_eq_true rfl) (sk_7 _) rfl (by omega) (c_row (i := f1) (by omega)) ?_
          refine sL (pc' := 77) (i := .aload_n 0) rfl rfl ?_
          refine sGc (p := 80) rfl rfl (sk_0 _) rfl rfl rfl ?_
          refine sL (pc' := 81) (i := .iload_n 3) rfl rfl ?_
          refine sCv (p := 84) (as := [_]) rfl rfl rfl rfl (by decide) (Nat.le_of_ble_eq_true rfl) rfl (Nat.le_of_ble_eq_true rfl) (sk_7 _) rfl (by omega) (c_row (i := f2) (by omega)) ?_
          refine sCv (p := 87) (as := [_, _, _, _]) rfl rfl rfl rfl (by decide) (Nat.le_of_ble_eq_true rfl) rfl (Nat.le_of_ble_eq_true rfl) (sk_7 _) rfl (by omega) (c_markChosen (S := (wL (wRw S (9 + fn) 0 (fun _ => false)) 49 fn (lI 0))) (sk_rows _ (by omega)) (sk_rows _ (by omega)) (sk_rows _ (by omega)) (sk_rows _ (by omega)) (bl_row (by omega) (by omega) (hF f0 hf0)) (bl_row (by omega) (by omega) (hF f1 hf1)) (bl_row (by omega) (by omega) (hF f2 hf2))) ?_
          rw [show (fun r => Fn f0 r && Fn f1 r || !Fn f0 r && Fn f2 r) = (fun r => (Fn f0 r && Fn f1 r || !Fn f0 r && Fn f2 r) && decide (r < pr sz n)) from funext fun r => by by_cases cr : r < pr sz n; (rw [decide_eq_true cr, Bool.and_true]); (rw [decide_eq_false cr, Bool.and_false, htb f1 hf1 r (by omega), htb f2 hf2 r (by omega), Bool.and_false, Bool.and_false]; rfl)]
          refine sL (pc' := 88) (i := .aload_n 0) rfl rfl ?_
          refine sCvQ (p := 91) (as := []) rfl rfl rfl rfl (by decide) (Nat.le_of_ble_eq_true rfl) rfl (Nat.le_of_ble_eq_true rfl) (sk_0 _) rfl (by omega) (CI_adopt (g := fun r => (Fn f0 r && Fn f1 r || !Fn f0 r && Fn f2 r) && decide (r < pr sz n)) hCI (by omega) (fun r hr => by show (_ && decide (r < pr sz n)) = false; rw [decide_eq_false (by omega), Bool.and_false])) ?_
          rintro _ Sz ⟨rfl, hC1, hfX⟩
          refine sEn (i := .ireturn) rfl (rfl) ?_
          refine ⟨congrArg (fun z => some (Value.int (iI z))) ?_, fun _ => hC1, fun z => absurd (by omega) z, hfX⟩
          unfold rChoose
          rw [if_neg (by omega), if_neg (by omega)]
        · have c4 := c4
          have c4 := of_decide_eq_true c4
          refine sKb (p := 48) rfl rfl ?_
          refine sEn (i := .ireturn) rfl (rfl) ?_
          refine ⟨congrArg (fun z => some (Value.int (iI z))) ?_, fun z => absurd z (by omega), fun _ => hCI, frX_refl _⟩
          unfold rChoose
          rw [if_neg (by omega), if_pos (by omega)]
      · have c3 := c3
        have c3 := of_decide_eq_false c3
        refine sKb (p := 35) rfl rfl ?_
        refine sEn (i := .ireturn) rfl (rfl) ?_
        refine ⟨congrArg (fun z => some (Value.int (iI z))) ?_, fun z => absurd z (by omega), fun _ => hCI, frX_refl _⟩
        unfold rChoose
        rw [if_pos (by omega)]
end CB
