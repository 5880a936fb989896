/-! ===== joint steps: what moves ===== -/
section JD
variable {X : List Int32} {S : ST} {n fn nc s m Z : Nat} {sz : Nat → Nat} {wt : Nat → Int} {ro : Nat → Bool} {Fn : Nat → Nat → Bool} {nm rn : Nat → Int64} {rof ord : Nat → Nat} {sd : Option (Nat → Bool)} {tr tn kz : Int} {up lo : Int64} {y : Nat → Nat} {L : List Nat}
theorem MI_wt {k : Nat} {u : Int} (h : MI S n sz wt ro fn Fn nc rn rof ord sd tr tn up lo y s L kz) (hu : 0 ≤ u ∧ u ≤ 30) : MI (wI S 182 k u) n sz (iup wt k u) ro fn Fn nc rn rof ord sd tr tn up lo y s L kz := by
  have hi : ∀ j, j ≠ 1000 → SI (wI S 182 k u) 179 j = SI S 179 j := fun j _ => rI_ne (by decide) j
  have hc : ∀ c, c ≠ 182 → SI (wI S 182 k u) c = SI S c := fun c hc => funext fun j => rI_ne hc j
  have hl : ∀ c, c ≠ 1000 → SL (wI S 182 k u) c = SL S c := fun _ _ => rfl
  obtain ⟨a1, a2, a3, a4, a5, a6, a7, a8, a9, a10⟩ := h
  refine ⟨?_, ?_, ?_, ?_, ?_, ?_, ?_, ?_, ?_, ?_⟩
  · unfold vM at *
    rw [hi 1 (by decide), hi 4 (by decide), hc 180 (by decide), hc 181 (by decide)]
    exact a1
  · intro i hi2
    rw [hc 183 (by decide)]
    have h2 := a2 i hi2
    by_cases q : i = k
    · rw [q, rI_at, show iup wt k u k = u from if_pos rfl]
      rw [q] at h2
      exact ⟨rfl, h2.2.1, hu⟩
    · rw [rI_nj q, show iup wt k u i = wt i from if_neg q]
      exact h2
  · unfold mFn rowS at *
    rw [hi 9 (by decide), hi 17 (by decide), hc 190 (by decide), hl 185 (by decide), hl 189 (by decide)]
    exact a3
  · unfold oM at *
    rw [hc 184 (by decide)]
    exact a4
  · unfold mSd rowS at *
    rw [hi 42 (by decide), hl 200 (by decide)]
    exact a5
  · rw [hi 19 (by decide), hc 191 (by decide)]
    exact a6
  · rw [hl 179 (by decide)]
    exact a7
  · unfold mT at *
    rw [hi 13 (by decide), hc 188 (by decide)]
    exact a8
  · unfold tbM at *
    rw [hi 44 (by decide), hc 201 (by decide)]
    exact a9
  · rw [hi 14 (by decide)]
    exact a10
theorem MI_ro {k : Nat} {u : Bool} (h : MI S n sz wt ro fn Fn nc rn rof ord sd tr tn up lo y s L kz) : MI (wI S 183 k (bI u)) n sz wt (bup ro k u) fn Fn nc rn rof ord sd tr tn up lo y s L kz := by
  have hi : ∀ j, j ≠ 1000 → SI (wI S 183 k (bI u)) 179 j = SI S 179 j := fun j _ => rI_ne (by decide) j
  have hc : ∀ c, c ≠ 183 → SI (wI S 183 k (bI u)) c = SI S c := fun c hc => funext fun j => rI_ne hc j
  have hl : ∀ c, c ≠ 1000 → SL (wI S 183 k (bI u)) c = SL S c := fun _ _ => rfl
  obtain ⟨a1, a2, a3, a4, a5, a6, a7, a8, a9, a10⟩ := h
  refine ⟨?_, ?_, ?_, ?_, ?_, ?_, ?_, ?_, ?_, ?_⟩
  · unfold vM at *
    rw [hi 1 (by decide), hi 4 (by decide), hc 180 (by decide), hc 181 (by decide)]
    exact a1
  · intro i hi2
    rw [hc 182 (by decide)]
    have h2 := a2 i hi2
    by_cases q : i = k
    · rw [q, rI_at, show bup ro k u k = u from if_pos rfl]
      rw [q] at h2
      exact ⟨h2.1, rfl, h2.2.2⟩
    · rw [rI_nj q, show bup ro k u i = ro i from if_neg q]
      exact h2
  · unfold mFn rowS at *
    rw [hi 9 (by decide), hi 17 (by decide), hc 190 (by decide), hl 185 (by decide), hl 189 (by decide)]
    exact a3
  · unfold oM at *
    rw [hc 184 (by decide)]
    exact a4
  · unfold mSd rowS at *
    rw [hi 42 (by decide), hl 200 (by decide)]
    exact a5
  · rw [hi 19 (by decide), hc 191 (by decide)]
    exact a6
  · rw [hl 179 (by decide)]
    exact a7
  · unfold mT at *
    rw [hi 13 (by decide), hc 188 (by decide)]
    exact a8
  · unfold tbM at *
    rw [hi 44 (by decide), hc 201 (by decide)]
    exact a9
  · rw [hi 14 (by decide)]
    exact a10
theorem P_Weight {x y u : Int} (hJ : JI S) (hx : rg x) (hy : rg y) (hu : rg u) : PSi X 121 172 [.ref 0, .int (iI x), .int (iI y), .int (iI u)] [.ref 179, .int (iI x), .int (iI y), .int (iI u)] S := by
  obtain ⟨n, sz, wt, ro, fn, Fn, nm, ord, sd, tr, tn, up, lo, Z, y0, s, L, m, kz, nc, rn, rof, hK, hM, hR⟩ := hJ
  refine sM.deeper (sM.weaken (k_Weight hK.1 hx hy hu) ?_) (by decide)
  rintro r S1 ⟨h1, h2, h3, h4⟩
  have hM1 := MI_X hM h4
  refine ⟨_, h1, sM.deeper (sM_of (m_weight hM1.1 hM1.2.1 hx hy hu) ⟨rfl, ?_⟩) (by decide)⟩
  by_cases c : okWeight n sz wt x y u
  · rw [if_pos c]
    obtain ⟨r1, r2, r3, r4, r5⟩ := hR
    refine J_of (KI_Mo (KI_X hK h4 (h2 c)) (frMo_w (by omega))) (MI_wt hM1 c.2.2) ⟨r1, r2, fun i hi hi2 => ?_, r4, r5⟩
    have hs := hM.1.1.2.1 x.toNat (by omega)
    have c2 := c.2.1
    have c1 := c.1
    rw [show iup wt (x.toNat * 6 + y.toNat) u i = wt i from if_neg (by omega)]
    exact r3 i hi hi2
  · rw [if_neg c]
    exact J_of (KI_X hK h4 (h3 c)) hM1 hR
theorem P_Rule {x y : Int} {q : Bool} (hJ : JI S) (hx : rg x) (hy : rg y) : PSi X 122 173 [.ref 0, .int (iI x), .int (iI y), .int (iI (bI q))] [.ref 179, .int (iI x), .int (iI y), .int (iI (bI q))] S := by
  obtain ⟨n, sz, wt, ro, fn, Fn, nm, ord, sd, tr, tn, up, lo, Z, y0, s, L, m, kz, nc, rn, rof, hK, hM, hR⟩ := hJ
  refine sM.deeper (sM.weaken (k_Rule hK.1 hx hy) ?_) (by decide)
  rintro r S1 ⟨h1, h2, h3, h4⟩
  have hM1 := MI_X hM h4
  refine ⟨_, h1, sM.deeper (sM_of (m_rule hM1.1 hM1.2.1 hx hy) ⟨rfl, ?_⟩) (by decide)⟩
  by_cases c : okRule n sz ro x y q
  · rw [if_pos c]
    obtain ⟨r1, r2, r3, r4, r5⟩ := hR
    refine J_of (KI_Mo (KI_X hK h4 (h2 c)) (frMo_w (by omega))) (MI_ro hM1) ⟨r1, r2, fun i hi hi2 => ?_, r4, r5⟩
    have hs := hM.1.1.2.1 x.toNat (by omega)
    have c2 := c.2
    have c1 := c.1
    rw [show bup ro (x.toNat * 6 + y.toNat) q i = ro i from if_neg (by omega)]
    exact r3 i hi hi2
  · rw [if_neg c]
    exact J_of (KI_X hK h4 (h3 c)) hM1 hR
theorem mTl_I {r k : Nat} : ∀ v, (∀ c, c ≠ 179 → c ≠ 191 → SI (mTl S sz r k v) c = SI S c) ∧ (∀ j, j ≠ 19 → SI (mTl S sz r k v) 179 j = SI S 179 j) ∧ SL (mTl S sz r k v) = SL S ∧ SR (mTl S sz r k v) = SR S ∧ (mTl S sz r k v).1 = S.1 ∧ SI (mTl S sz r k v) 179 19 = ((k : Nat) : Int) ∧ ∀ i, i < v → SI (mTl S sz r k v) 191 i = ((val sz r i : Nat) : Int)
  | 0 => ⟨fun c h1 _ => funext fun j => rI_ne h1 j, fun j hj => rI_nj hj, rfl, rfl, rfl, rI_at, fun i hi => absurd hi (Nat.not_lt_zero _)⟩
  | v + 1 => by
    obtain ⟨b1, b2, b3, b4, b5, b6, b7⟩ := mTl_I (r := r) (k := k) v
    refine ⟨fun c h1 h2 => (funext fun j => rI_ne h2 j).trans (b1 c h1 h2), fun j hj => (rI_ne (by decide) _).trans (b2 j hj), b3, b4, b5, (rI_ne (by decide) _).trans b6, fun i hi => ?_⟩
    by_cases q : i = v
    · rw [q]
      exact rI_at
    · exact (rI_nj q).trans (b7 i (by omega))
theorem mTl_fr {r k v : Nat} : frMo S (mTl S sz r k v) := by
  obtain ⟨b1, b2, b3, b4, b5, -⟩ := mTl_I (S := S) (sz := sz) (r := r) (k := k) v
  exact ⟨b5, fun c hc => ⟨b1 c (by omega) (by omega), by rw [b3], by rw [b4]⟩⟩
theorem MI_tl {r : Int} (h : MI S n sz wt ro fn Fn nc rn rof ord sd tr tn up lo y s L kz) (hr : 0 ≤ r) : MI (mTl S sz r.toNat n n) n sz wt ro fn Fn nc rn rof ord sd r ((n : Nat) : Int) up lo y s L kz := by
  obtain ⟨b1, b2, b3, b4, b5, b6, b7⟩ := mTl_I (S := S) (sz := sz) (r := r.toNat) (k := n) n
  have hi : ∀ j, j ≠ 19 → SI (mTl S sz r.toNat n n) 179 j = SI S 179 j := b2
  have hc : ∀ c, c ≠ 179 ∧ c ≠ 191 → SI (mTl S sz r.toNat n n) c = SI S c := fun c hc => b1 c hc.1 hc.2
  have hl : ∀ c, c ≠ 1000 → SL (mTl S sz r.toNat n n) c = SL S c := fun c _ => by rw [b3]
  obtain ⟨a1, a2, a3, a4, a5, a6, a7, a8, a9, a10⟩ := h
  refine ⟨?_, ?_, ?_, ?_, ?_, ?_, ?_, ?_, ?_, ?_⟩
  · unfold vM at *
    rw [hi 1 (by decide), hi 4 (by decide), hc 180 (by decide), hc 181 (by decide)]
    exact a1
  · unfold wM at *
    rw [hc 182 (by decide), hc 183 (by decide)]
    exact a2
  · unfold mFn rowS at *
    rw [hi 9 (by decide), hi 17 (by decide), hc 190 (by decide), hl 185 (by decide), hl 189 (by decide)]
    exact a3
  · unfold oM at *
    rw [hc 184 (by decide)]
    exact a4
  · unfold mSd rowS at *
    rw [hi 42 (by decide), hl 200 (by decide)]
    exact a5
  · exact ⟨b6, fun i hi2 => b7 i (by omega)⟩
  · rw [hl 179 (by decide)]
    exact a7
  · unfold mT at *
    rw [hi 13 (by decide), hc 188 (by decide)]
    exact a8
  · unfold tbM at *
    rw [hi 44 (by decide), hc 201 (by decide)]
    exact a9
  · rw [hi 14 (by decide)]
    exact a10
theorem P_Least {x : Int} (hJ : JI S) (hx : rg x) : PSi X 144 219 [.ref 0, .int (iI x)] [.ref 179, .int (iI x)] S := by
  obtain ⟨n, sz, wt, ro, fn, Fn, nm, ord, sd, tr, tn, up, lo, Z, y0, s, L, m, kz, nc, rn, rof, hK, hM, hR⟩ := hJ
  have hT := hM.1.1.2.2
  have hbd := lsM_b (sz := sz) (n := n) (f := Fn x.toNat) (pr sz n)
  refine sM.deeper (sM.weaken (k_Least hK.1 hx) ?_) (by decide)
  rintro r S1 ⟨h0, h2, h4⟩
  have h1 := MI_X hM h4
  refine ⟨_, h0, sM.deeper (sM_of (m_least h1.1 h1.2.2.1.1 h1.2.2.1.2.1 h1.2.2.1.2.2.1 hx) ⟨rfl, ?_⟩) (by decide)⟩
  by_cases c : (0 ≤ x ∧ x < fn) ∧ lsM sz n (Fn x.toNat) (pr sz n) ≠ -1
  · rw [if_pos c, if_pos c] at h2
    rw [if_pos c]
    have c2 := c.2
    obtain ⟨r1, r2, r3, r4, r5⟩ := hR
    refine J_of (KI_Mo (KI_X hK h4 h2) mTl_fr) (MI_tl h1 (by omega)) ⟨r1, r2, r3, ⟨by omega, by omega, Or.inr (by omega), by omega, by omega⟩, r5⟩
  · rw [if_neg c, if_neg c] at h2
    rw [if_neg c]
    exact J_of (KI_X hK h4 h2) h1 hR
theorem P_Best {x : Int} (hJ : JI S) (hx : rg x) : PSl X 145 221 [.ref 0, .int (iI x)] [.ref 179, .int (iI x)] S := by
  obtain ⟨n, sz, wt, ro, fn, Fn, nm, ord, sd, tr, tn, up, lo, Z, y0, s, L, m, kz, nc, rn, rof, hK, hM, hR⟩ := hJ
  have hT := hM.1.1.2.2
  have hbd := (bsM_b (sz := sz) (n := n) (f := Fn x.toNat) (q := wq sz wt ro n) (wq_bM hM.1.1 hM.2.1) (pr sz n)).2
  refine sM.deeper (sM.weaken (k_Best hK.1 hx) ?_) (by decide)
  rintro r S1 ⟨h0, h2, h4⟩
  have h1 := MI_X hM h4
  refine ⟨_, h0, sM.deeper (sM_of (m_best h1.1 h1.2.2.1.1 h1.2.2.1.2.1 h1.2.2.1.2.2.1 h1.2.1 hx) ⟨rfl, ?_⟩) (by decide)⟩
  by_cases c : (0 ≤ x ∧ x < fn) ∧ (bsM sz n (Fn x.toNat) (wq sz wt ro n) (pr sz n)).1 ≠ -1
  · rw [if_pos c, if_pos c] at h2
    rw [if_pos c]
    have c2 := c.2
    obtain ⟨r1, r2, r3, r4, r5⟩ := hR
    refine J_of (KI_Mo (KI_X hK h4 h2) mTl_fr) (MI_tl h1 (by omega)) ⟨r1, r2, r3, ⟨by omega, by omega, Or.inr (by omega), by omega, by omega⟩, r5⟩
  · rw [if_neg c, if_neg c] at h2
    rw [if_neg c]
    exact J_of (KI_X hK h4 h2) h1 hR
end JD
