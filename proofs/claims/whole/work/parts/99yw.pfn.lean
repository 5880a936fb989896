/-! ===== joint steps: functions, weights ===== -/
/-- class and reference answer alike (an int, a long), and the invariant stands behind them -/
def PSi (X : List Int32) (cy my : Nat) (ca ma : List Value) (S : ST) : Prop := sM X 160 cy ca S (fun r S1 => ∃ z : Int, r = some (.int (iI z)) ∧ sM X 160 my ma S1 (fun r2 S2 => r2 = some (.int (iI z)) ∧ JI S2))
def PSl (X : List Int32) (cy my : Nat) (ca ma : List Value) (S : ST) : Prop := sM X 160 cy ca S (fun r S1 => ∃ z : Int64, r = some (.long z) ∧ sM X 160 my ma S1 (fun r2 S2 => r2 = some (.long z) ∧ JI S2))
section JB
variable {X : List Int32} {S : ST} {n fn nc s m Z : Nat} {sz : Nat → Nat} {wt : Nat → Int} {ro : Nat → Bool} {Fn : Nat → Nat → Bool} {nm rn : Nat → Int64} {rof ord : Nat → Nat} {sd : Option (Nat → Bool)} {tr tn kz : Int} {up lo : Int64} {y : Nat → Nat} {L : List Nat}
theorem nmJ_new (h : nmJ nm fn rn rof nc) : nmJ (nup nm fn (lI 0)) (fn + 1) rn rof nc := by
  refine nmJ_un (fun z hz => ?_) (if_pos rfl)
  rw [fnd_cg (p := nup nm fn (lI 0)) (q := nm) fn 0 (fun j _ h2 => if_neg (by omega))]
  exact h z hz
theorem mAdd_fr {g : Nat → Bool} : frMo S (mAdd S fn g) := frMo_trans (frMo_trans (frMo_r (by omega)) (frMo_r (by omega))) (frMo_w (by omega))
theorem MI_add {g : Nat → Bool} (h : MI S n sz wt ro fn Fn nc rn rof ord sd tr tn up lo y s L kz) (h40 : fn < 40) : MI (mAdd S fn g) n sz wt ro (fn + 1) (lup Fn fn g) nc rn rof ord sd tr tn up lo y s L kz := by
  have hi : ∀ j, j ≠ 9 → SI (mAdd S fn g) 179 j = SI S 179 j := fun j hj => rI_nj hj
  have hc : ∀ c, c ≠ 179 → SI (mAdd S fn g) c = SI S c := fun c hc => funext fun j => rI_ne hc j
  have hl : ∀ c, c ≠ 186 → c ≠ 185 → SL (mAdd S fn g) c = SL S c := fun c h1 h2 => (SL_wRw_ne h2).trans (SL_wRw_ne h1)
  obtain ⟨a1, a2, a3, a4, a5, a6, a7, a8, a9, a10⟩ := h
  refine ⟨?_, ?_, ⟨rI_at, h40, fun i hi => ?_, ?_, a3.2.2.2.2.1, ?_, fun i hi => ?_⟩, ?_, ?_, ?_, ?_, ?_, ?_, ?_⟩
  · unfold vM at *
    rw [hi 1 (by decide), hi 4 (by decide), hc 180 (by decide), hc 181 (by decide)]
    exact a1
  · unfold wM at *
    rw [hc 182 (by decide), hc 183 (by decide)]
    exact a2
  · by_cases q : i = fn
    · rw [q, lup_at]
      exact rowS_wRw _ _ _ _
    · rw [lup_ne q]
      intro k hk
      show SL (wRw (wRw S 186 0 g) 185 (16 * fn) g) 185 (16 * i + k) = _
      rw [SL_wRw, if_neg (by omega), SL_wRw, if_neg (by omega)]
      exact a3.2.2.1 i (by omega) k hk
  · rw [hi 17 (by decide)]
    exact a3.2.2.2.1
  · rw [hl 189 (by decide) (by decide)]
    exact a3.2.2.2.2.2.1
  · rw [hc 190 (by decide)]
    have := a3.2.2.2.2.2.2 i hi
    exact ⟨this.1, by omega⟩
  · unfold oM at *
    rw [hc 184 (by decide)]
    exact a4
  · unfold mSd rowS at *
    rw [hi 42 (by decide), hl 200 (by decide) (by decide)]
    exact a5
  · rw [hi 19 (by decide), hc 191 (by decide)]
    exact a6
  · rw [hl 179 (by decide) (by decide)]
    exact a7
  · unfold mT at *
    rw [hi 13 (by decide), hc 188 (by decide)]
    exact a8
  · unfold tbM at *
    rw [hi 44 (by decide), hc 201 (by decide)]
    exact a9
  · rw [hi 14 (by decide)]
    exact a10
theorem J_of (hK : KI S n sz wt ro fn Fn nm ord sd tr tn up lo Z y s L m kz) (hM : MI S n sz wt ro fn Fn nc rn rof ord sd tr tn up lo y s L kz) (hR : RI n sz wt ro fn nm nc rn rof tr tn Z m kz) : JI S := ⟨n, sz, wt, ro, fn, Fn, nm, ord, sd, tr, tn, up, lo, Z, y, s, L, m, kz, nc, rn, rof, hK, hM, hR⟩
theorem P_fn {ok : Prop} [Decidable ok] {res : Int} {g : Nat → Bool} {cy my : Nat} {ca ma : List Value} (hK : KI S n sz wt ro fn Fn nm ord sd tr tn up lo Z y s L m kz) (hM : MI S n sz wt ro fn Fn nc rn rof ord sd tr tn up lo y s L kz) (hR : RI n sz wt ro fn nm nc rn rof tr tn Z m kz)
  (hc : sM X 16 cy ca S (fnQ ok res (fun S' => CI S' n sz wt ro fn Fn nm ord sd tr tn up lo Z) (fun S' => CI S' n sz wt ro (fn + 1) (lup Fn fn g) (nup nm fn (lI 0)) ord sd tr tn up lo Z) S))
  (hm : ∀ S1, MI S1 n sz wt ro fn Fn nc rn rof ord sd tr tn up lo y s L kz → sM X 3 my ma S1 (sV (some (.int (iI res))) (if ok then mAdd S1 fn g else S1))) : PSi X cy my ca ma S := by
  refine sM.deeper (sM.weaken hc ?_) (by decide)
  rintro r S1 ⟨h1, h2, h3, h4⟩
  have hM1 := MI_X hM h4
  refine ⟨res, h1, sM.deeper (sM_of (hm S1 hM1) ⟨rfl, ?_⟩) (by decide)⟩
  by_cases c : ok
  · rw [if_pos c]
    have hC := h2 c
    have h40 := hC.2.2.2.1.2.2.1
    obtain ⟨r1, r2, r3, r4, r5⟩ := hR
    exact J_of (KI_Mo (KI_X hK h4 hC) mAdd_fr) (MI_add hM1 (by omega)) ⟨nmJ_new r1, by omega, r3, r4, r5⟩
  · rw [if_neg c]
    exact J_of (KI_X hK h4 (h3 c)) hM1 hR
theorem P_Is {x y : Int} (hJ : JI S) (hx : rg x) (hy : rg y) : PSi X 123 175 [.ref 0, .int (iI x), .int (iI y)] [.ref 179, .int (iI x), .int (iI y)] S := by
  obtain ⟨n, sz, wt, ro, fn, Fn, nm, ord, sd, tr, tn, up, lo, Z, y0, s, L, m, kz, nc, rn, rof, hK, hM, hR⟩ := hJ
  exact P_fn hK hM hR (k_Is hK.1 hx hy) (fun S1 h1 => sM.deeper (m_is h1.1 h1.2.2.1.1 h1.2.2.1.2.1 hx hy) (by decide))
theorem P_Cmp {x y u : Int} (hJ : JI S) (hx : rg x) (hy : rg y) (hu : rg u) : PSi X 124 176 [.ref 0, .int (iI x), .int (iI y), .int (iI u)] [.ref 179, .int (iI x), .int (iI y), .int (iI u)] S := by
  obtain ⟨n, sz, wt, ro, fn, Fn, nm, ord, sd, tr, tn, up, lo, Z, y0, s, L, m, kz, nc, rn, rof, hK, hM, hR⟩ := hJ
  exact P_fn hK hM hR (k_Cmp hK.1 hx hy hu) (fun S1 h1 => sM.deeper (m_compare h1.1 h1.2.2.1.1 h1.2.2.1.2.1 hx hy hu) (by decide))
theorem P_Many {x y : Int} (hJ : JI S) (hx : rg x) (hy : rg y) : PSi X 125 177 [.ref 0, .int (iI x), .int (iI y)] [.ref 179, .int (iI x), .int (iI y)] S := by
  obtain ⟨n, sz, wt, ro, fn, Fn, nm, ord, sd, tr, tn, up, lo, Z, y0, s, L, m, kz, nc, rn, rof, hK, hM, hR⟩ := hJ
  exact P_fn hK hM hR (k_Many hK.1 hx hy) (fun S1 h1 => sM.deeper (m_many h1.1 h1.2.2.1.1 h1.2.2.1.2.1 hx hy) (by decide))
theorem P_Join {u x y : Int} (hJ : JI S) (hu : rg u) (hx : rg x) (hy : rg y) : PSi X 126 180 [.ref 0, .int (iI u), .int (iI x), .int (iI y)] [.ref 179, .int (iI u), .int (iI x), .int (iI y)] S := by
  obtain ⟨n, sz, wt, ro, fn, Fn, nm, ord, sd, tr, tn, up, lo, Z, y0, s, L, m, kz, nc, rn, rof, hK, hM, hR⟩ := hJ
  exact P_fn hK hM hR (k_Join hK.1 hu hx hy) (fun S1 h1 => sM.deeper (m_join h1.1 h1.2.2.1.1 h1.2.2.1.2.1 h1.2.2.1.2.2.1 hx hy hu) (by decide))
theorem P_Not {x : Int} (hJ : JI S) (hx : rg x) : PSi X 127 181 [.ref 0, .int (iI x)] [.ref 179, .int (iI x)] S := by
  obtain ⟨n, sz, wt, ro, fn, Fn, nm, ord, sd, tr, tn, up, lo, Z, y0, s, L, m, kz, nc, rn, rof, hK, hM, hR⟩ := hJ
  exact P_fn hK hM hR (k_Not hK.1 hx) (fun S1 h1 => sM.deeper (m_not h1.1 h1.2.2.1.1 h1.2.2.1.2.1 h1.2.2.1.2.2.1 hx) (by decide))
theorem P_Choose {x y u : Int} (hJ : JI S) (hx : rg x) (hy : rg y) (hu : rg u) : PSi X 128 182 [.ref 0, .int (iI x), .int (iI y), .int (iI u)] [.ref 179, .int (iI x), .int (iI y), .int (iI u)] S := by
  obtain ⟨n, sz, wt, ro, fn, Fn, nm, ord, sd, tr, tn, up, lo, Z, y0, s, L, m, kz, nc, rn, rof, hK, hM, hR⟩ := hJ
  exact P_fn hK hM hR (k_Choose hK.1 hx hy hu) (fun S1 h1 => sM.deeper (m_choose h1.1 h1.2.2.1.1 h1.2.2.1.2.1 h1.2.2.1.2.2.1 hx hy hu) (by decide))
theorem P_Cond {x y u : Int} (hJ : JI S) (hx : rg x) (hy : rg y) (hu : rg u) : PSi X 129 184 [.ref 0, .int (iI x), .int (iI y), .int (iI u)] [.ref 179, .int (iI x), .int (iI y), .int (iI u)] S := by
  obtain ⟨n, sz, wt, ro, fn, Fn, nm, ord, sd, tr, tn, up, lo, Z, y0, s, L, m, kz, nc, rn, rof, hK, hM, hR⟩ := hJ
  exact P_fn hK hM hR (k_Cond hK.1 hx hy hu) (fun S1 h1 => sM.deeper (m_condition h1.1 h1.2.2.1.1 h1.2.2.1.2.1 h1.2.2.1.2.2.1 hx hy hu) (by decide))
theorem P_Subst {x y u : Int} (hJ : JI S) (hx : rg x) (hy : rg y) (hu : rg u) : PSi X 131 187 [.ref 0, .int (iI x), .int (iI y), .int (iI u)] [.ref 179, .int (iI x), .int (iI y), .int (iI u)] S := by
  obtain ⟨n, sz, wt, ro, fn, Fn, nm, ord, sd, tr, tn, up, lo, Z, y0, s, L, m, kz, nc, rn, rof, hK, hM, hR⟩ := hJ
  exact P_fn hK hM hR (k_Subst hK.1 hx hy hu) (fun S1 h1 => sM.deeper (m_substitute h1.1 h1.2.2.1.1 h1.2.2.1.2.1 h1.2.2.1.2.2.1 hx hy hu) (by decide))
theorem P_Exch {x y u : Int} (hJ : JI S) (hx : rg x) (hy : rg y) (hu : rg u) : PSi X 132 188 [.ref 0, .int (iI x), .int (iI y), .int (iI u)] [.ref 179, .int (iI x), .int (iI y), .int (iI u)] S := by
  obtain ⟨n, sz, wt, ro, fn, Fn, nm, ord, sd, tr, tn, up, lo, Z, y0, s, L, m, kz, nc, rn, rof, hK, hM, hR⟩ := hJ
  exact P_fn hK hM hR (k_Exch hK.1 hx hy hu) (fun S1 h1 => sM.deeper (m_exchange h1.1 h1.2.2.1.1 h1.2.2.1.2.1 h1.2.2.1.2.2.1 hx hy hu) (by decide))
theorem P_Quant {x y : Int} {all : Bool} (hJ : JI S) (hx : rg x) (hy : rg y) : PSi X 130 186 [.ref 0, .int (iI x), .int (iI y), .int (iI (bI all))] [.ref 179, .int (iI x), .int (iI y), .int (iI (bI all))] S := by
  obtain ⟨n, sz, wt, ro, fn, Fn, nm, ord, sd, tr, tn, up, lo, Z, y0, s, L, m, kz, nc, rn, rof, hK, hM, hR⟩ := hJ
  exact P_fn hK hM hR (k_Quant hK.1 hx hy) (fun S1 h1 => sM.deeper (m_quantify h1.1 h1.2.2.1.1 h1.2.2.1.2.1 h1.2.2.1.2.2.1 hx hy) (by decide))
end JB
