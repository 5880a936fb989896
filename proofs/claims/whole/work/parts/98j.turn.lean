/-! ===== the diagram: a node is turned, as a whole ===== -/
theorem wn_x {D D' : DT} {y : Nat → Nat} {e k j nd n U U' : Nat} {sz : Nat → Nat} (h : xtD D nd D') (hP : dP n sz D nd U) (hP' : dP n sz D' nd U') (hy : dok D nd (y j)) (hn : y j ≠ nd) : wn D' y e k j = wn D y e k j := by
  unfold wn
  rcases hy with c | c | c
  · rw [if_neg (fun z => by have := (hP'.1 _ z.1).1; omega), if_neg (fun z => by have := (hP.1 _ z.1).1; omega)]
  · obtain ⟨h1, h2, h3⟩ := h.1 _ c
    rw [h1, h2, h3, c]
  · exact absurd c hn
/-- the copied row -/
theorem trn_5 {S : ST} {b nd se : Nat} {t : Nat → Nat} (ht : ∀ k, k < se → SI S 57 k = ((t k : Nat) : Int)) : wIA S (b + 5) (fun j => if nd * 6 ≤ j ∧ j < nd * 6 + se then SI S 57 (0 + (j - nd * 6)) else SI S (b + 5) j) = wIA S (b + 5) (fun j => if nd * 6 ≤ j ∧ j < nd * 6 + se then ((t (j - nd * 6) : Nat) : Int) else SI S (b + 5) j) := by
  congr 1
  funext j
  by_cases c : nd * 6 ≤ j ∧ j < nd * 6 + se
  · rw [if_pos c, if_pos c, Nat.zero_add, ht _ (by omega)]
  · rw [if_neg c, if_neg c]
section DV0
variable {n U U1 nd e i sa : Nat} {sz : Nat → Nat} {D0 D1 D2 : DT} {ex y t : Nat → Nat}
theorem kid_used (hx : xtD D0 nd D1) (hP0 : dP n sz D0 nd U) (hP1 : dP n sz D1 nd U1) (hP2 : dP n sz D2 nd U1) (htf : ∀ k, k < sz e → ∀ i, i < sa → wn D0 y e k i = t k ∨ (dl D1 (t k) = true ∧ i < sz (dv D1 (t k)) ∧ dk D1 (t k) i = wn D0 y e k i)) (hlb : ∀ x, dl D2 x = true → dl D1 x = true) (hvb : dv D2 = dv D1) (hkb : dk D2 = dk D1) (hsup : ∀ x, 0 < exR ex y t sa (sz e) i x → dok D2 nd x) (hi : i < sa) (hok : dok D0 nd (y i)) (hne : y i ≠ nd) (h2 : dl D2 (y i) = true) (h3 : edg sz D2 U1 (y i) = 0) (h4 : exR ex y t sa (sz e) i (y i) = 1) (he0 : 0 < sz e) {k2 : Nat} (hk2 : k2 < sz (dv D2 (y i))) : 0 < edg sz (delD D2 (y i)) U1 (dk D2 (y i) k2) + exR ex y t sa (sz e) i (dk D2 (y i) k2) := by
  have hexp : ∀ k, k < sz e → 0 < exR ex y t sa (sz e) i (t k) := fun k hk => by
    have := cnt_t (t := t) hk
    unfold exR
    omega
  have htl : ∀ k, k < sz e → dl D1 (t k) = true → dl D2 (t k) = true := fun k hk h => by
    rcases hsup _ (hexp k hk) with h9 | h9 | h9
    · have := (hP1.1 _ h).1
      omega
    · exact h9
    · exact absurd h9 (hP1.1 _ h).2.2
  have hl0 : dl D0 (y i) = true := by
    rcases hok with h | h | h
    · have := (hP2.1 _ h2).1
      omega
    · exact h
    · exact absurd h hne
  obtain ⟨_, hdv, hdk⟩ := hx.1 _ hl0
  have hct0 : ∀ k, k < sz e → t k ≠ y i := fun k hk z => by
    unfold exR at h4
    rw [show sa - i = (sa - (i + 1)) + 1 from by omega, cntB_sh, if_pos rfl] at h4
    have := cnt_t (t := t) hk
    rw [z] at this
    omega
  have hde : dv D0 (y i) = e := Classical.byContradiction fun c => by
    have hw : wn D0 y e 0 i = y i := if_neg (fun z => c z.2)
    rcases htf 0 he0 i hi with h5 | ⟨h5, h6, h7⟩
    · exact hct0 0 he0 (by rw [← h5, hw])
    · have h8 := htl 0 he0 h5
      refine edg_0 (sz := sz) h3 (hP2.1 _ h8).2.1 h8 (k := i) (by rw [hvb]; exact h6) ?_
      rw [hkb, h7, hw]
  rw [hvb, hdv, hde] at hk2
  have hxw : dk D2 (y i) k2 = wn D0 y e k2 i := by
    rw [hkb, hdk]
    exact (if_pos ⟨hl0, hde⟩).symm
  rw [hxw]
  rcases htf k2 hk2 i hi with h5 | ⟨h5, h6, h7⟩
  · rw [h5]
    have := hexp k2 hk2
    omega
  · have h8 := htl k2 hk2 h5
    have h9 : dl (delD D2 (y i)) (t k2) = true := delD_i.mpr ⟨h8, hct0 k2 hk2⟩
    have h10 := edg_pos (sz := sz) (D := delD D2 (y i)) (U := U1) (hP2.1 _ h8).2.1 h9 (k := i) (by
      show i < sz (dv D2 (t k2))
      rw [hvb]
      exact h6)
    have h11 : dk (delD D2 (y i)) (t k2) i = wn D0 y e k2 i := by
      show dk D2 (t k2) i = _
      rw [hkb, h7]
    rw [h11] at h10
    omega
end DV0
section DV
variable {X : List Int32} {S : ST} {b R n U nd a e p : Nat} {sz ord pl : Nat → Nat} {D : DT} {ex : Nat → Nat} {Pd : Nat → Prop}
theorem c_turn (hvC : vC S n sz) (hG : dG S b R n sz D ex 0 U) (ho : prm n ord pl) (hp : p + 1 < n) (ha : a = ord p) (he : e = ord (p + 1)) (hnd : Pd nd) (hpd : pdF n sz ord D a e p Pd) (hmx : mxO n sz ord D p Pd) (hu : uO sz D 0 U ex) (hrm : cntB (dl D) U + 8 ≤ R) (hexb : ∀ x, ex x ≤ 1000) : sM X 3 44 [.ref 52, .int (iI ((nd : Nat) : Int)), .int (iI ((a : Nat) : Int)), .int (iI ((e : Nat) : Int))] S (tQ S b R n sz ord D ex U p nd Pd) := by
  have hG0 := hG
  obtain ⟨hA, hP, hM, ⟨ch, hC⟩, ⟨fr, hF⟩, hL, hU, hUR, hU2, hz⟩ := hG
  have hwf := hvC.1
  have hn10 := hwf.1
  have han : a < n := by rw [ha]; exact (ho.1 p (by omega)).1
  have hen : e < n := by rw [he]; exact (ho.1 (p + 1) hp).1
  have hae : a ≠ e := by rw [ha, he]; exact ord_ne ho (by omega) hp (by omega)
  have hsa := hwf.2.1 a han
  have hse := hwf.2.1 e hen
  obtain ⟨hd, hdva, hde, hdq⟩ := hpd nd hnd
  have hndU := hP.1 nd hd
  have hda : dpT n sz (ds D nd) a = true := by rw [← hdva]; exact (hP.2.2.1 nd hd).2.2
  have htb := (hP.2.2.1 nd hd).2.1
  have hcl := dch_lt hP hd
  have hch : dch sz D nd = a * 64 + hcI (hsI (fun k => ((dk D nd k : Nat) : Int)) (sz a)) := by unfold dch; rw [hdva]
  obtain ⟨jq, hjq, hjy⟩ := ((hC.1 _ hcl).2 nd).mpr ⟨hd, rfl⟩
  have hqm : ∀ i, i < (ch (dch sz D nd)).1 → 2 ≤ (ch (dch sz D nd)).2 i ∧ (ch (dch sz D nd)).2 i < R := fun i hi => by
    have h3 := hP.1 _ (((hC.1 _ hcl).2 _).mp ⟨i, hi, rfl⟩).1
    exact ⟨h3.1, by omega⟩
  have hq1 : (ch (dch sz D nd)).1 ≤ R := pigeon (fun i => (ch (dch sz D nd)).2 i) (fun i hi => (hqm i hi).2) (fun i k hi hk e => (hC.1 _ hcl).1.2.2.2 i k hi hk e)
  have hk5 : ∀ j, j < sz a → SI S (b + 5) (nd * 6 + j) = ((dk D nd j : Nat) : Int) := fun j hj => hM.2.2.2.1 nd hd j (by rw [hdva]; exact hj)
  have hkid : ∀ j, j < sz a → dok D 0 (dk D nd j) ∧ ds D (dk D nd j) = cof n sz (ds D nd) a j := fun j hj => by
    have := hP.2.2.2.1 nd hd j (by rw [hdva]; exact hj)
    rw [hdva] at this
    exact this
  have hkna : ∀ j, j < sz a → dpT n sz (ds D (dk D nd j)) a = false := fun j hj => by
    rw [(hkid j hj).2]
    exact cof_self hwf han hj
  have hknd : ∀ j, j < sz a → dk D nd j ≠ nd := fun j hj z => by
    have := hkna j hj
    rw [z, hda] at this
    exact absurd this (by decide)
  have hG1 := dG_det hwf hA hP hM hC hF hL hU hUR hU2 hz hd hjq hjy
  have hok0 : ∀ x, dok D 0 x → dok (delD D nd) nd x := fun x hx => by
    by_cases c : x = nd
    · exact Or.inr (Or.inr c)
    · rcases hx with h | h | h
      · exact Or.inl h
      · exact Or.inr (Or.inl (delD_i.mpr ⟨h, c⟩))
      · exact Or.inl (by omega)
  have hob0 : ∀ x, dok (delD D nd) nd x → dok D 0 x := fun x hx => by
    rcases hx with h | h | h
    · exact Or.inl h
    · exact Or.inr (Or.inl (delD_i.mp h).1)
    · exact Or.inr (Or.inl (by rw [h]; exact hd))
  have hedg0 : ∀ z, edg sz (delD D nd) U z + exK sz D ex nd z = edg sz D U z + ex z := fun z => by
    rw [edg_del (sz := sz) hndU.2.1 hd z]
    unfold exK
    omega
  have hcnt0 := cnt_del (U := U) hndU.2.1 hd
  have ho1 : o1 nd = 1 := if_neg (by omega)
  have hP0 := hG1.2.1
  -- the tables of the turned kids
  have hgq : ∀ k, k < sz e → ∀ q, q < p → dpT n sz (cof n sz (ds D nd) e k) (ord q) = false := fun k hk q hq => cof_other hwf (ho.1 q (by omega)).1 hen hk (hdq q hq)
  have hge : ∀ k, k < sz e → dpT n sz (cof n sz (ds D nd) e k) e = false := fun k hk => cof_self hwf hen hk
  have hcan : ∀ k, k < sz e → dpT n sz (cof n sz (ds D nd) e k) a = true → swp ord p (fpl n sz (swp ord p) (cof n sz (ds D nd) e k)) = a := fun k hk h => by
    rw [fpl_sw2 hp (hgq k hk) (by rw [← he]; exact hge k hk) (by rw [← ha]; exact h), swp_s, ha]
  have hye : ∀ j, j < sz a → ¬ (dl (delD D nd) (dk D nd j) = true ∧ dv (delD D nd) (dk D nd j) = e) → dpT n sz (ds D (dk D nd j)) e = false := fun j hj h => by
    cases hx : dpT n sz (ds D (dk D nd j)) e with
    | false => rfl
    | true =>
      exfalso
      have hlv : dl D (dk D nd j) = true := by
        rcases (hkid j hj).1 with h1 | h1 | h1
        · rw [leaf_no hP hwf hen h1] at hx
          exact absurd hx (by decide)
        · exact h1
        · rw [leaf_no hP hwf hen (by omega)] at hx
          exact absurd hx (by decide)
      refine h ⟨delD_i.mpr ⟨hlv, hknd j hj⟩, ?_⟩
      show dv D (dk D nd j) = e
      rcases hmx _ hlv with h1 | h1
      · have h2 := (hpd _ h1).2.1
        have h3 := (hP.2.2.1 _ hlv).2.2
        rw [h2, hkna j hj] at h3
        exact absurd h3 (by decide)
      · rw [h1, fpl_sw hp (fun q hq => by rw [(hkid j hj).2]; exact cof_other hwf (ho.1 q (by omega)).1 han hj (hdq q hq)) (by rw [← he]; exact hx), swp_p, he]
  obtain ⟨S0, hS0⟩ : ∃ S0, S0 = S := ⟨S, rfl⟩
  have hq : ∀ (v : Option Value) (S' : ST), tQ S0 b R n sz ord D ex U p nd Pd v S' → tQ S b R n sz ord D ex U p nd Pd v S' := fun v S' h => by rw [← hS0]; exact h
  refine sM.weaken ?_ hq
  have hvC0 : vC S0 n sz := by rw [hS0]; exact hvC
  clear hq
  have hb58 := hA.1
  have hR1 := hA.2.1
  have hR2 := hA.2.2.1

  refine sIni (ls := [some (.ref 52), some (.int (iI ((nd : Nat) : Int))), some (.int (iI ((a : Nat) : Int))), some (.int (iI ((e : Nat) : Int))), none, none, none, none]) rfl ?_
  refine sL (pc' := 1) (i := .iload_n 1) rfl rfl ?_
  refine sKb (p := 3) rfl rfl ?_
  refine sMu (p := 4) rfl rfl ?_
  rw [show ((((nd : Nat) : Int) * 6)) = (((nd * 6 : Nat) : Int)) from by omega]
  refine sL (pc' := 6) (i := .istore 4) (ls' := [some (.ref 52), some (.int (iI ((nd : Nat) : Int))), some (.int (iI ((a : Nat) : Int))), some (.int (iI ((e : Nat) : Int))), some (.int (iI (((nd * 6 : Nat) : Int)))), none, none, none]) rfl rfl ?_
  refine sL (pc' := 7) (i := .aload_n 0) rfl rfl ?_
  refine sGc (p := 10) rfl rfl (sk_52 _) rfl rfl rfl ?_
  refine sL (pc' := 11) (i := .iload_n 2) rfl rfl ?_
  refine sCv (p := 14) (as := [_]) rfl rfl rfl rfl (by decide) (Nat.le_of_ble_eq_true rfl) rfl (Nat.le_of_ble_eq_true rfl) (sk_1 _) rfl (by omega) (c_siz hvC han) ?_
  refine sL (pc' := 16) (i := .istore 5) (ls' := [some (.ref 52), some (.int (iI ((nd : Nat) : Int))), some (.int (iI ((a : Nat) : Int))), some (.int (iI ((e : Nat) : Int))), some (.int (iI (((nd * 6 : Nat) : Int)))), some (.int (iI ((sz a : Nat) : Int))), none, none]) rfl rfl ?_
  refine sL (pc' := 17) (i := .aload_n 0) rfl rfl ?_
  refine sGc (p := 20) rfl rfl (sk_52 _) rfl rfl rfl ?_
  refine sL (pc' := 21) (i := .iload_n 3) rfl rfl ?_
  refine sCv (p := 24) (as := [_]) rfl rfl rfl rfl (by decide) (Nat.le_of_ble_eq_true rfl) rfl (Nat.le_of_ble_eq_true rfl) (sk_1 _) rfl (by omega) (c_siz hvC hen) ?_
  refine sL (pc' := 26) (i := .istore 6) (ls' := [some (.ref 52), some (.int (iI ((nd : Nat) : Int))), some (.int (iI ((a : Nat) : Int))), some (.int (iI ((e : Nat) : Int))), some (.int (iI (((nd * 6 : Nat) : Int)))), some (.int (iI ((sz a : Nat) : Int))), some (.int (iI ((sz e : Nat) : Int))), none]) rfl rfl ?_
  refine sL (pc' := 27) (i := .aload_n 0) rfl rfl ?_
  refine sL (pc' := 28) (i := .iload_n 1) rfl rfl ?_
  refine sL (pc' := 29) (i := .iload_n 2) rfl rfl ?_
  refine sL (pc' := 31) (i := .iload 5) rfl rfl ?_
  refine sCv (p := 34) (as := [_, _, _]) rfl rfl rfl rfl (by decide) (Nat.le_of_ble_eq_true rfl) rfl (Nat.le_of_ble_eq_true rfl) (sk_52 _) rfl (by omega) (c_unlink (q := ch (dch sz D nd)) (j := jq) (f := fun k => ((dk D nd k : Nat) : Int)) hA (by omega) (by omega) hk5 (by rw [← hch]; exact (hC.1 _ hcl).1) hqm (by omega) hjq hjy) ?_
  rw [← hch]
  have hku : ∀ j, j < sz a → SI (ulk S b (dch sz D nd) (ch (dch sz D nd)) jq) (b + 5) (nd * 6 + j) = ((dk D nd j : Nat) : Int) := fun j hj => (ulk_ne (by omega) (by omega) _).trans (hk5 j hj)
  refine sKi (p := 35) rfl rfl ?_
  refine sL (pc' := 37) (i := .istore 7) (ls' := [some (.ref 52), some (.int (iI ((nd : Nat) : Int))), some (.int (iI ((a : Nat) : Int))), some (.int (iI ((e : Nat) : Int))), some (.int (iI (((nd * 6 : Nat) : Int)))), some (.int (iI ((sz a : Nat) : Int))), some (.int (iI ((sz e : Nat) : Int))), some (.int (iI 0))]) rfl rfl ?_
  refine sItR (A := fun k => [some (.ref 52), some (.int (iI ((nd : Nat) : Int))), some (.int (iI ((a : Nat) : Int))), some (.int (iI ((e : Nat) : Int))), some (.int (iI (((nd * 6 : Nat) : Int)))), some (.int (iI ((sz a : Nat) : Int))), some (.int (iI ((sz e : Nat) : Int))), some (.int (iI ((k : Nat) : Int)))]) (fun k S => ∃ D1 U1, ∃ t : Nat → Nat, dG S b R n sz D1 (exT (exK sz D ex nd) t k) nd U1 ∧ (∀ j, j < k → SI S 57 j = ((t j : Nat) : Int) ∧ dok D1 nd (t j) ∧ ds D1 (t j) = cof n sz (ds D nd) e j ∧ ∀ i, i < sz a → wn (delD D nd) (dk D nd) e j i = t j ∨ (dl D1 (t j) = true ∧ i < sz (dv D1 (t j)) ∧ dk D1 (t j) i = wn (delD D nd) (dk D nd) e j i)) ∧ xtD (delD D nd) nd D1 ∧ cntB (dl D1) U1 ≤ cntB (dl (delD D nd)) U + k ∧ (∀ x, dl D1 x = true → dl (delD D nd) x = true ∨ dv D1 x = swp ord p (fpl n sz (swp ord p) (ds D1 x))) ∧ uO sz D1 nd U1 (exT (exK sz D ex nd) t k) ∧ (∀ j, j < sz a → SI S (b + 5) (nd * 6 + j) = ((dk D nd j : Nat) : Int)) ∧ frT b S0 S) (sz e) (⟨(delD D nd), U, fun _ => 0, hG1, fun j hj => absurd hj (by omega), xtD_refl _ _, by omega, fun x hx => Or.inl hx, fun x h2 hx => by show 0 < _ + (_ + 0); have := hedg0 x; have := hu x h2 (hob0 x hx); omega, hku, by rw [hS0]; exact frT_O ulk_fr⟩) (fun k hi37 Sa hJ37 ih37 => ?_) (fun Saf hJ37 => ?_)
  · have hi37 := hi37
    obtain ⟨D1, U1, t, hGa, hta, hxa, hna, hca, hua, hka, hfa⟩ := hJ37
    have hsnd : ds D1 nd = ds D nd := hxa.2 nd (Or.inr (Or.inr rfl))
    have hUR1 := hGa.2.2.2.2.2.2.2.1
    have hya : ∀ j, j < sz a → SI Sa (b + 5) (nd * 6 + j) = ((dk D nd j : Nat) : Int) ∧ dok D1 nd (dk D nd j) ∧ dk D nd j ≠ nd ∧ ds D1 (dk D nd j) = cof n sz (ds D nd) a j := fun j hj => ⟨hka j hj, xtD_ok hxa (hok0 _ (hkid j hj).1), hknd j hj, (hxa.2 _ (hok0 _ (hkid j hj).1)).trans (hkid j hj).2⟩
    have hyea : ∀ j, j < sz a → ¬ (dl D1 (dk D nd j) = true ∧ dv D1 (dk D nd j) = e) → dpT n sz (ds D1 (dk D nd j)) e = false := fun j hj h => by
      rw [hxa.2 _ (hok0 _ (hkid j hj).1)]
      refine hye j hj (fun z => h ?_)
      have h1 := hxa.1 _ z.1
      exact ⟨h1.1, h1.2.1.trans z.2⟩
    have huna : dpT n sz (cof n sz (ds D nd) e k) a = true → ∀ x, dok D1 nd x → ds D1 x = cof n sz (ds D nd) e k → dl D1 x = true ∧ dv D1 x = a := fun h x hx hs => by
      rcases hx with h1 | h1 | h1
      · rw [← hs, leaf_no hGa.2.1 hwf han h1] at h
        exact absurd h (by decide)
      · refine ⟨h1, ?_⟩
        rcases hca x h1 with h2 | h2
        · obtain ⟨h3, h4⟩ := delD_i.mp h2
          rw [(hxa.1 x h2).2.1]
          have h5 : ds D1 x = ds D x := hxa.2 x (Or.inr (Or.inl h2))
          show dv D x = a
          rcases hmx x h3 with h6 | h6
          · exact (hpd x h6).2.1
          · rw [h6, ← h5, hs]
            exact hcan k hi37 h
        · rw [h2, hs]
          exact hcan k hi37 h
      · rw [h1, hsnd] at hs
        have h2 := hge k hi37
        rw [← hs, hde] at h2
        exact absurd h2 (by decide)
    refine sL (pc' := 39) (i := .iload 7) rfl rfl ?_
    refine sL (pc' := 41) (i := .iload 6) rfl rfl ?_
    refine sIc_ge (p := 44) rfl rfl ⟨by omega, by omega⟩ ⟨by omega, by omega⟩ (fun c1 => ?_) (fun c1 => ?_)
    · exfalso; omega
    · have c1 := c1
      refine sL (pc' := 45) (i := .aload_n 0) rfl rfl ?_
      refine sGc (p := 48) rfl rfl (sk_52 _) rfl rfl rfl ?_
      refine sL (pc' := 50) (i := .iload 7) rfl rfl ?_
      refine sL (pc' := 51) (i := .aload_n 0) rfl rfl ?_
      refine sL (pc' := 53) (i := .iload 4) rfl rfl ?_
      refine sL (pc' := 54) (i := .iload_n 2) rfl rfl ?_
      refine sL (pc' := 55) (i := .iload_n 3) rfl rfl ?_
      refine sL (pc' := 57) (i := .iload 7) rfl rfl ?_
      refine sCvQ (p := 60) (as := [_, _, _, _]) rfl rfl rfl rfl (by decide) (Nat.le_of_ble_eq_true rfl) rfl (Nat.le_of_ble_eq_true rfl) (sk_52 _) rfl (by omega) (c_turnedKid (y := dk D nd) (G := ds D nd) (frT_vC hfa hb58 hvC0) hGa (by omega) han hen hae hi37 hya hyea huna (by omega)) ?_
      rintro _ Sn ⟨t1, D2, U2, rfl, hGn, hyn, hsn, hxn, hnn, hnwn, hkn, hrn, hfn⟩
      have ht1U := dok_lt hGn.2.1 hGn.2.2.2.2.2.2.2.2.1 hyn
      have hUR2 := hGn.2.2.2.2.2.2.2.1
      refine sWi (p := 61) (i := k) rfl rfl (sk_57 _) (by omega) ⟨by omega, by omega⟩ ?_
      refine sL (pc' := 62) (i := .aload_n 0) rfl rfl ?_
      refine sGr (p := 65) rfl rfl (sk_52 _) rfl rfl rfl hGn.1.2.2.2.2.1 ?_
      refine sL (pc' := 66) (i := .aload_n 0) rfl rfl ?_
      refine sGc (p := 69) rfl rfl (sk_52 _) rfl rfl rfl ?_
      refine sL (pc' := 71) (i := .iload 7) rfl rfl ?_
      refine sAi (p := 72) (i := k) rfl rfl (sk_57 _) (by omega) ⟨by omega, by omega⟩ rI_at ?_
      refine sL (pc' := 73) (i := .dup2) rfl rfl ?_
      refine sAi (p := 74) (i := t1) rfl rfl hGn.1.2.2.2.2.2.2.2.2.2.2.1 (by omega) ⟨by omega, by omega⟩ rfl ?_
      refine sKi (p := 75) rfl rfl ?_
      refine sAd (p := 76) rfl rfl ?_
      refine sWi (p := 77) (i := t1) rfl rfl hGn.1.2.2.2.2.2.2.2.2.2.2.1 (by omega) ⟨by omega, by omega⟩ ?_
      refine sInX (z := ((k : Nat) : Int)) (ls' := [some (.ref 52), some (.int (iI ((nd : Nat) : Int))), some (.int (iI ((a : Nat) : Int))), some (.int (iI ((e : Nat) : Int))), some (.int (iI (((nd * 6 : Nat) : Int)))), some (.int (iI ((sz a : Nat) : Int))), some (.int (iI ((sz e : Nat) : Int))), some (.int (iI (((k : Nat) : Int) + 1)))]) (p := 80) rfl rfl (Nat.le_of_ble_eq_true rfl) rfl rfl ?_
      refine sL (i := .goto (-43)) rfl rfl ?_
      refine sFg (ls := [some (.ref 52), some (.int (iI ((nd : Nat) : Int))), some (.int (iI ((a : Nat) : Int))), some (.int (iI ((e : Nat) : Int))), some (.int (iI (((nd * 6 : Nat) : Int)))), some (.int (iI ((sz a : Nat) : Int))), some (.int (iI ((sz e : Nat) : Int))), some (.int (iI ((k + 1 : Nat) : Int)))]) (xx_ll_le (And.intro rfl (And.intro rfl (And.intro rfl (And.intro rfl (And.intro rfl (And.intro rfl (And.intro rfl (And.intro rfl (True.intro)))))))))) (ih37 _ ?_)
      have hUn := hGn.2.1
      have hxx := xtD_trans hxa hxn
      have hfw := frT_trans hfa (frT_trans (frT_wW (b := b) (w := wn D1 (dk D nd) e k) (i := sz a)) (frT_O hfn))
      have h57 : ∀ j, SI Sn 57 j = SI Sa 57 j := fun j => (congrFun (hfn.2.2.2 57 (by omega) (by omega) (by omega) (by omega) (by omega) (by omega)) j).trans (wW_ne (by omega) j)
      have hextu : exT (exK sz D ex nd) (fup t k t1) (k + 1) = exA (exT (exK sz D ex nd) t k) t1 := funext fun z => by
        show exK sz D ex nd z + (cntB (fun j => decide (fup t k t1 j = z)) k + if decide (fup t k t1 k = z) then 1 else 0) = (exK sz D ex nd z + cntB (fun j => decide (t j = z)) k) + (if z = t1 then 1 else 0)
        rw [cntB_cg (q := fun j => decide (t j = z)) (fun j hj => by rw [fup_ne (by omega)]), fup_at]
        by_cases c9 : t1 = z
        · rw [decide_eq_true c9, if_pos rfl, if_pos c9.symm]
          omega
        · rw [decide_eq_false c9, if_neg (by decide), if_neg (fun h => c9 h.symm)]
          omega
      refine ⟨D2, U2, fup t k t1, ?_, fun j hj => ?_, hxx, by omega, fun x hx => ?_, fun x h2 hx => ?_, fun j hj => ?_, frT_trans hfw (frT_trans (frT_wI (Or.inr (Or.inr (Or.inr (Or.inl rfl))))) (frT_wI (Or.inr (Or.inr (Or.inr (Or.inr (Or.inr (Or.inl rfl))))))))⟩
      · rw [hextu]
        exact dG_inc hyn (dG_w (by omega) hGn)
      · by_cases cj : j = k
        · subst cj
          rw [rI_ne (by omega), rI_at, fup_at]
          refine ⟨rfl, hyn, hsn, fun i hi => ?_⟩
          have h1 := hkn i hi
          rw [wn_x hxa hP0 hGa.2.1 (hok0 _ (hkid i hi).1) (hknd i hi)] at h1
          exact h1
        · obtain ⟨h1, h2, h3, h4⟩ := hta j (by omega)
          rw [rI_ne (by omega), rI_nj cj, fup_ne cj, h57]
          refine ⟨h1, xtD_ok hxn h2, (hxn.2 _ h2).trans h3, fun i hi => ?_⟩
          rcases h4 i hi with h5 | ⟨h5, h6, h7⟩
          · exact Or.inl h5
          · obtain ⟨k1, k2, k3⟩ := hxn.1 _ h5
            exact Or.inr ⟨k1, by rw [k2]; exact h6, by rw [k3]; exact h7⟩
      · rcases hnwn x hx with h1 | ⟨h1, h2, h3⟩
        · rcases hca x h1 with h4 | h4
          · exact Or.inl h4
          · exact Or.inr (by rw [(hxn.1 x h1).2.1, hxn.2 x (Or.inr (Or.inl h1))]; exact h4)
        · exact Or.inr (by rw [h1, h2, hsn]; exact (hcan k hi37 h3).symm)
      · rw [hextu]
        unfold exA
        by_cases c9 : x = t1
        · rw [if_pos c9]
          omega
        · have hx1 : dok D1 nd x := by
            rcases hx with h1 | h1 | h1
            · exact Or.inl h1
            · rcases hnwn x h1 with h3 | h3
              · exact Or.inr (Or.inl h3)
              · exact absurd h3.1 c9
            · exact Or.inr (Or.inr h1)
          have h3 := hua x h2 hx1
          by_cases c8 : 0 < edg sz D1 U1 x
          · have := edg_mono hxn hGn.2.1 c8
            omega
          · omega
      · rw [rI_ne (by omega), rI_ne (by omega), hrn _ (by omega) (by omega), wW_ne (by omega)]
        exact hka j hj
  · have hJ37 := hJ37
    obtain ⟨D1, U1, t, hGf, htf, hxf, hnf, hcf, huf, hkf, hff⟩ := hJ37
    have hUR1 := hGf.2.2.2.2.2.2.2.1
    have hR4 := hGf.1.2.2.1
    have hexe : exT (exK sz D ex nd) t (sz e) = exR ex (dk D nd) t (sz a) (sz e) 0 := funext fun z => by unfold exT exK exR; rw [hdva]; rfl
    rw [hexe] at hGf huf
    have hsz2 : ds D1 nd = ds D nd := hxf.2 nd (Or.inr (Or.inr rfl))
    refine sL (pc' := 39) (i := .iload 7) rfl rfl ?_
    refine sL (pc' := 41) (i := .iload 6) rfl rfl ?_
    refine sIc_ge (p := 44) rfl rfl ⟨by omega, by omega⟩ ⟨by omega, by omega⟩ (fun c2 => ?_) (fun c2 => ?_)
    · have c2 := c2
      refine sKi (p := 84) rfl rfl ?_
      refine sL (pc' := 86) (i := .istore 7) (ls' := [some (.ref 52), some (.int (iI ((nd : Nat) : Int))), some (.int (iI ((a : Nat) : Int))), some (.int (iI ((e : Nat) : Int))), some (.int (iI (((nd * 6 : Nat) : Int)))), some (.int (iI ((sz a : Nat) : Int))), some (.int (iI ((sz e : Nat) : Int))), some (.int (iI 0))]) rfl rfl ?_
      refine sItR (A := fun i => [some (.ref 52), some (.int (iI ((nd : Nat) : Int))), some (.int (iI ((a : Nat) : Int))), some (.int (iI ((e : Nat) : Int))), some (.int (iI (((nd * 6 : Nat) : Int)))), some (.int (iI ((sz a : Nat) : Int))), some (.int (iI ((sz e : Nat) : Int))), some (.int (iI ((i : Nat) : Int)))]) (fun i S => ∃ D2, dG S b R n sz D2 (exR ex (dk D nd) t (sz a) (sz e) i) nd U1 ∧ (∀ x, dl D2 x = true → dl D1 x = true) ∧ dv D2 = dv D1 ∧ dk D2 = dk D1 ∧ ds D2 = ds D1 ∧ (∀ x, dl D1 x = true → dl D2 x = true ∨ ∃ i9, i9 < i ∧ x = dk D nd i9) ∧ cntB (dl D2) U1 ≤ cntB (dl D1) U1 ∧ uO sz D2 nd U1 (exR ex (dk D nd) t (sz a) (sz e) i) ∧ (∀ j, j < sz a → SI S (b + 5) (nd * 6 + j) = ((dk D nd j : Nat) : Int)) ∧ (∀ k, k < sz e → SI S 57 k = ((t k : Nat) : Int)) ∧ frT b S0 S) (sz a) (⟨D1, hGf, fun x hx => hx, rfl, rfl, rfl, fun x hx => Or.inl hx, Nat.le_refl _, huf, hkf, fun k hk => (htf k hk).1, hff⟩) (fun i hi86 Sb hJ86 ih86 => ?_) (fun Sbf hJ86 => ?_)
      · have hi86 := hi86
        obtain ⟨D2, hGb, hlb, hvb, hkkb, hsb, hrb, hnb, hub, hkb, h57b, hfb⟩ := hJ86
        have hcbb : ∀ x, exR ex (dk D nd) t (sz a) (sz e) i x ≤ 100000 ∧ edg sz D2 U1 x ≤ 2000000000 := fun x => by
          have h1 := edg_le (sz := sz) hwf hGb.2.1 x
          have h2 := hexb x
          have h3 := cntB_le (fun i2 => decide (dk D nd (i2 + i) = x)) (sz a - i)
          have h4 := cntB_le (fun k => decide (t k = x)) (sz e)
          unfold exR
          omega
        have hdki : dk D nd i < R := by have := dok_lt hP hU2 (hkid i hi86).1; omega
        refine sL (pc' := 88) (i := .iload 7) rfl rfl ?_
        refine sL (pc' := 90) (i := .iload 5) rfl rfl ?_
        refine sIc_ge (p := 93) rfl rfl ⟨by omega, by omega⟩ ⟨by omega, by omega⟩ (fun c3 => ?_) (fun c3 => ?_)
        · exfalso; omega
        · have c3 := c3
          refine sL (pc' := 94) (i := .aload_n 0) rfl rfl ?_
          refine sL (pc' := 95) (i := .aload_n 0) rfl rfl ?_
          refine sGr (p := 98) rfl rfl (sk_52 _) rfl rfl rfl hGb.1.2.2.2.2.2.2.2.2.1 ?_
          refine sL (pc' := 100) (i := .iload 4) rfl rfl ?_
          refine sL (pc' := 102) (i := .iload 7) rfl rfl ?_
          refine sAd (p := 103) rfl rfl ?_
          refine sAi (p := 104) (i := (nd * 6) + i) rfl rfl hGb.1.2.2.2.2.2.2.2.2.2.2.2.2.2.2 (by omega) ⟨by omega, by omega⟩ (hkb i (by omega)) ?_
          refine sCvQ (p := 107) (as := [_]) rfl rfl rfl rfl (by decide) (Nat.le_of_ble_eq_true rfl) rfl (Nat.le_of_ble_eq_true rfl) (sk_52 _) rfl (by omega) (c_release (y := dk D nd i) (frT_vC hfb hb58 hvC0) hGb (hGb.2.2.1.2.2.2.2.2 _ (exR_y hi86)) (fun _ => ⟨hknd i hi86, exR_y hi86⟩) hcbb) ?_
          rintro _ Sr ⟨rfl, D3, hG3, hD3, hf3, hr3⟩
          refine sInX (z := ((i : Nat) : Int)) (ls' := [some (.ref 52), some (.int (iI ((nd : Nat) : Int))), some (.int (iI ((a : Nat) : Int))), some (.int (iI ((e : Nat) : Int))), some (.int (iI (((nd * 6 : Nat) : Int)))), some (.int (iI ((sz a : Nat) : Int))), some (.int (iI ((sz e : Nat) : Int))), some (.int (iI (((i : Nat) : Int) + 1)))]) (p := 110) rfl rfl (Nat.le_of_ble_eq_true rfl) rfl rfl ?_
          refine sL (i := .goto (-24)) rfl rfl ?_
          refine sFg (ls := [some (.ref 52), some (.int (iI ((nd : Nat) : Int))), some (.int (iI ((a : Nat) : Int))), some (.int (iI ((e : Nat) : Int))), some (.int (iI (((nd * 6 : Nat) : Int)))), some (.int (iI ((sz a : Nat) : Int))), some (.int (iI ((sz e : Nat) : Int))), some (.int (iI ((i + 1 : Nat) : Int)))]) (xx_ll_le (And.intro rfl (And.intro rfl (And.intro rfl (And.intro rfl (And.intro rfl (And.intro rfl (And.intro rfl (And.intro rfl (True.intro)))))))))) (ih86 _ ?_)
          have hexs := exR_s (ex := ex) (y := dk D nd) (t := t) (sa := sz a) (se := sz e) hi86
          rw [hexs] at hG3
          have hk3 : ∀ j, j < sz a → SI Sr (b + 5) (nd * 6 + j) = ((dk D nd j : Nat) : Int) := fun j hj => (hr3 _ (by omega) (by omega)).trans (hkb j hj)
          have h573 : ∀ k, k < sz e → SI Sr 57 k = ((t k : Nat) : Int) := fun k hk => (congrFun (hf3.2.2.2 57 (by omega) (by omega) (by omega) (by omega) (by omega) (by omega)) k).trans (h57b k hk)
          have hf4 := frT_trans hfb (frT_O hf3)
          rcases hD3 with ⟨h1, h9⟩ | ⟨h1, h2, h3, h4⟩
          · subst h1
            refine ⟨D3, hG3, hlb, hvb, hkkb, hsb, fun x hx => (hrb x hx).imp id (fun ⟨i2, h5, h6⟩ => ⟨i2, by omega, h6⟩), hnb, fun x h5 h6 => ?_, hk3, h573, hf4⟩
            have h7 := hub x h5 h6
            rw [← hexs]
            by_cases c9 : x = dk D nd i
            · rw [c9] at h7 h5 ⊢
              rw [exS_y]
              omega
            · rw [exS_n c9]
              exact h7
          · subst h1
            have hlv : ∀ x, dl (delD D2 (dk D nd i)) x = true → dl D2 x = true := fun x hx => (delD_i.mp hx).1
            refine ⟨delD D2 (dk D nd i), hG3, fun x hx => hlb x (hlv x hx), hvb, hkkb, hsb, fun x hx => ?_, ?_, fun x h5 h6 => ?_, hk3, h573, hf4⟩
            · rcases hrb x hx with h5 | ⟨i2, h5, h6⟩
              · by_cases c9 : x = dk D nd i
                · exact Or.inr ⟨i, by omega, c9⟩
                · exact Or.inl (delD_i.mpr ⟨h5, c9⟩)
              · exact Or.inr ⟨i2, by omega, h6⟩
            · have := cnt_del (U := U1) (hGb.2.1.1 _ h2).2.1 h2
              omega
            · have hxy : x ≠ dk D nd i := fun z => by
                rcases h6 with h7 | h7 | h7
                · omega
                · exact (delD_i.mp h7).2 z
                · exact hknd i hi86 (z.symm.trans h7)
              have h6b : dok D2 nd x := by
                rcases h6 with h7 | h7 | h7
                · exact Or.inl h7
                · exact Or.inr (Or.inl (delD_i.mp h7).1)
                · exact Or.inr (Or.inr h7)
              have h7 := hub x h5 h6b
              have hexn : exR ex (dk D nd) t (sz a) (sz e) (i + 1) x = exR ex (dk D nd) t (sz a) (sz e) i x := by rw [← hexs, exS_n hxy]
              rw [hexn]
              have h8 := edg_del (sz := sz) (U := U1) (hGb.2.1.1 _ h2).2.1 h2 x
              by_cases c8 : cntB (fun k => decide (dk D2 (dk D nd i) k = x)) (sz (dv D2 (dk D nd i))) = 0
              · omega
              · obtain ⟨k2, hk2, e2⟩ := anyB_iff.mp ((cntB_any _ _).mp (show 0 < cntB (fun k => decide (dk D2 (dk D nd i) k = x)) (sz (dv D2 (dk D nd i))) by omega))
                have e2 := of_decide_eq_true e2
                have h10 := kid_used (ex := ex) hxf hP0 hGf.2.1 hGb.2.1 (fun k hk => (htf k hk).2.2.2) hlb hvb hkkb hGb.2.2.1.2.2.2.2.2 hi86 (hok0 _ (hkid i hi86).1) (hknd i hi86) h2 h3 h4 (by omega) hk2
                rw [e2] at h10
                exact h10
      · have hJ86 := hJ86
        obtain ⟨D2, hGz, hlz, hvz, hkkz, hsz, hrz, hnz, huz, hkz, h57z, hfz⟩ := hJ86
        have hb2 := hc_lt (hsI (fun k => ((t k : Nat) : Int)) (sz e))
        refine sL (pc' := 88) (i := .iload 7) rfl rfl ?_
        refine sL (pc' := 90) (i := .iload 5) rfl rfl ?_
        refine sIc_ge (p := 93) rfl rfl ⟨by omega, by omega⟩ ⟨by omega, by omega⟩ (fun c4 => ?_) (fun c4 => ?_)
        · have c4 := c4
          refine sL (pc' := 114) (i := .aload_n 0) rfl rfl ?_
          refine sGc (p := 117) rfl rfl (sk_52 _) rfl rfl rfl ?_
          refine sKi (p := 118) rfl rfl ?_
          refine sL (pc' := 119) (i := .aload_n 0) rfl rfl ?_
          refine sGr (p := 122) rfl rfl (sk_52 _) rfl rfl rfl hGz.1.2.2.2.2.2.2.2.2.1 ?_
          refine sL (pc' := 124) (i := .iload 4) rfl rfl ?_
          refine sL (pc' := 126) (i := .iload 6) rfl rfl ?_
          refine sAcI (p := 129) (n := sz e) (dp := nd * 6) (sp := 0) (N0 := 6) (N := 6 * R) rfl rfl (sk_57 _) hGz.1.2.2.2.2.2.2.2.2.2.2.2.2.2.2 rfl rfl rfl (by omega) (by omega) ⟨by omega, by omega⟩ (by decide) ?_
          rw [trn_5 h57z]
          refine sL (pc' := 130) (i := .aload_n 0) rfl rfl ?_
          refine sL (pc' := 131) (i := .iload_n 1) rfl rfl ?_
          refine sL (pc' := 132) (i := .iload_n 3) rfl rfl ?_
          refine sL (pc' := 133) (i := .iload_n 3) rfl rfl ?_
          refine sL (pc' := 135) (i := .iload 6) rfl rfl ?_
          refine sL (pc' := 136) (i := .aload_n 0) rfl rfl ?_
          refine sGr (p := 139) rfl rfl (sk_52 _) rfl rfl rfl hGz.1.2.2.2.2.2.2.2.2.1 ?_
          refine sL (pc' := 141) (i := .iload 4) rfl rfl ?_
          refine sCs (p := 144) (as := [_, _, _, _]) rfl rfl rfl rfl (by decide) (Nat.le_of_ble_eq_true rfl) rfl (Nat.le_of_ble_eq_true rfl) rfl (by omega) (c_chainOf (N := 6 * R) (o := nd * 6) (f := fun k => ((t k : Nat) : Int)) hGz.1.2.2.2.2.2.2.2.2.2.2.2.2.2.2 ⟨by omega, by omega⟩ (by omega) (fun k hk => by rw [rA_at, if_pos (by omega), show nd * 6 + k - nd * 6 = k from by omega])) ?_
          refine sCv (p := 147) (as := [_, _, _]) rfl rfl rfl rfl (by decide) (Nat.le_of_ble_eq_true rfl) rfl (Nat.le_of_ble_eq_true rfl) (sk_52 _) rfl (by omega) (c_link (R := R) (h := SI Sbf 55 (e * 64 + hcI (hsI (fun k => ((t k : Nat) : Int)) (sz e)))) (dA_cg (S := Sbf) rfl rfl hGz.1) (by omega) (by omega) (rA_ne (by omega) _)) ?_
          refine sEn (i := .return_) rfl (rfl) ?_
          refine ⟨rfl, setD D2 nd e t (ds D2 nd), U1, ?_, fun x hx => ?_, fun x hx => ?_, fun x hx hxn => ?_, fun x h2 hx => ?_, ?_, ?_⟩
          · refine dG_att (S := Sbf) (c := e * 64 + hcI (hsI (fun k => ((t k : Nat) : Int)) (sz e))) (ex := exR ex (dk D nd) t (sz a) (sz e) (sz a)) hwf hGz hndU.1 hen (by rw [hsz, hsz2]; exact htb) (by rw [hsz, hsz2]; exact hde) (fun k hk => ⟨hGz.2.2.1.2.2.2.2.2 _ (by unfold exR; have := cnt_t (t := t) hk; omega), ?_⟩) rfl (fun z => by unfold exR; rw [Nat.sub_self]; rfl) rfl rfl (fun x => ?_) (funext fun x => ?_) (fun x => ?_) (funext fun x => ?_) (fun x => ?_) (fun x => ?_) (funext fun x => ?_)
            · rw [hsz, hsz2]
              exact (htf k hk).2.2.1
            · rw [rI_ne (by omega), rI_ne (by omega)]
              by_cases cx : x = nd
              · rw [if_pos cx, cx, rI_at]
              · rw [if_neg cx, rI_nj cx, rA_ne (by omega)]
            · rw [rI_ne (by omega), rI_ne (by omega), rI_ne (by omega), rA_ne (by omega)]
            · rw [rI_ne (by omega)]
              by_cases cx : x = nd
              · rw [if_pos cx, cx, rI_at]
              · rw [if_neg cx, rI_nj cx, rI_ne (by omega), rA_ne (by omega)]
            · rw [rI_ne (by omega), rI_ne (by omega), rI_ne (by omega), rA_ne (by omega)]
            · rw [rI_ne (by omega), rI_ne (by omega), rI_ne (by omega), rA_at]
            · by_cases cx : x = e * 64 + hcI (hsI (fun k => ((t k : Nat) : Int)) (sz e))
              · rw [if_pos cx, cx, rI_at]
              · rw [if_neg cx, rI_nj cx, rI_ne (by omega), rI_ne (by omega), rA_ne (by omega)]
            · rw [rI_ne (by omega), rI_ne (by omega), rI_ne (by omega), rA_ne (by omega)]
          · by_cases cx : x = nd
            · rw [cx, setD_sy, hsz]
              exact hsz2
            · rw [setD_sn cx, hsz, hxf.2 x (hok0 x hx)]
              rfl
          · by_cases cx : x = nd
            · refine Or.inr ?_
              rw [cx, setD_vy, setD_sy, hsz, hsz2, fpl_sw hp hdq (by rw [← he]; exact hde), swp_p, he]
            · rw [setD_ln cx] at hx
              rw [setD_vn cx, setD_sn cx, hvz, hsz]
              rcases hcf x (hlz x hx) with h1 | h1
              · obtain ⟨h3, h4⟩ := delD_i.mp h1
                rw [(hxf.1 x h1).2.1, hxf.2 x (Or.inr (Or.inl h1))]
                rcases hmx x h3 with h5 | h5
                · exact Or.inl ⟨h5, cx⟩
                · exact Or.inr h5
              · exact Or.inr h1
          · have h1 := hpd x hx
            have h2 : dl (delD D nd) x = true := delD_i.mpr ⟨h1.1, hxn⟩
            have h3 := hxf.1 x h2
            rw [setD_ln hxn, setD_vn hxn, hvz]
            refine ⟨?_, h3.2.1⟩
            rcases hrz x h3.1 with h4 | ⟨i2, h4, h5⟩
            · exact h4
            · have h6 := hkna i2 h4
              rw [← h5, ← h1.2.1, (hP.2.2.1 x h1.1).2.2] at h6
              exact absurd h6 (by decide)
          · have h3 : dok D2 nd x := by
              rcases hx with h4 | h4 | h4
              · omega
              · rcases setD_i.mp h4 with h5 | h5
                · exact Or.inr (Or.inl h5)
                · exact Or.inr (Or.inr h5)
              · omega
            have h4 := huz x h2 h3
            have hdz : dl D2 nd = false := by
              cases e9 : dl D2 nd with
              | false => rfl
              | true => exact absurd rfl (hGz.2.1.1 nd e9).2.2
            have hndU1 : nd < U1 := by
              rcases hGz.2.1.2.1 with h5 | h5 <;> omega
            rw [edg_set hndU1 hdz]
            unfold exR at h4
            rw [Nat.sub_self] at h4
            have h5 : cntB (fun i => decide (dk D nd (i + sz a) = x)) 0 = 0 := rfl
            omega
          · have hdz : dl D2 nd = false := by
              cases e9 : dl D2 nd with
              | false => rfl
              | true => exact absurd rfl (hGz.2.1.1 nd e9).2.2
            have hndU1 : nd < U1 := by
              rcases hGz.2.1.2.1 with h5 | h5 <;> omega
            rw [cnt_set hndU1 hdz]
            omega
          · refine frT_trans hfz (frT_trans (B := wIA Sbf (b + 5) (fun j => if nd * 6 ≤ j ∧ j < nd * 6 + sz e then ((t (j - nd * 6) : Nat) : Int) else SI Sbf (b + 5) j)) ⟨rfl, rfl, rfl, fun c _ _ _ _ _ _ _ h8 => funext fun j => rA_ne h8 j⟩ (frT_trans (frT_wI (Or.inr (Or.inr (Or.inr (Or.inr (Or.inl rfl)))))) (frT_trans (frT_wI (Or.inr (Or.inr (Or.inr (Or.inr (Or.inr (Or.inr (Or.inl rfl)))))))) (frT_wI (Or.inr (Or.inl rfl))))))
        · exfalso; omega
    · exfalso; omega
end DV
