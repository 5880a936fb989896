/-! ===== joint steps: walking, orders, choice, print, texts ===== -/
section JE
variable {X : List Int32} {S : ST} {n fn nc s m Z : Nat} {sz : Nat → Nat} {wt : Nat → Int} {ro : Nat → Bool} {Fn : Nat → Nat → Bool} {nm rn : Nat → Int64} {rof ord : Nat → Nat} {sd : Option (Nat → Bool)} {tr tn kz : Int} {up lo : Int64} {y : Nat → Nat} {L : List Nat}
theorem MI_en {g : Nat → Bool} (h : MI S n sz wt ro fn Fn nc rn rof ord sd tr tn up lo y s L kz) (hg : tbT (pr sz n) g) : MI (wI (wRw S 200 0 g) 179 42 0) n sz wt ro fn Fn nc rn rof ord (some g) tr tn up lo y s L kz := by
  have hi : ∀ j, j ≠ 42 → SI (wI (wRw S 200 0 g) 179 42 0) 179 j = SI S 179 j := fun j hj => rI_nj hj
  have hc : ∀ c, c ≠ 179 → SI (wI (wRw S 200 0 g) 179 42 0) c = SI S c := fun c hc => funext fun j => rI_ne hc j
  have hl : ∀ c, c ≠ 200 → SL (wI (wRw S 200 0 g) 179 42 0) c = SL S c := fun c hc => SL_wRw_ne hc
  obtain ⟨a1, a2, a3, a4, a5, a6, a7, a8, a9, a10⟩ := h
  refine ⟨?_, ?_, ?_, ?_, ?_, ?_, ?_, ?_, ?_, ?_⟩
  · unfold vM at *
    rw [hi 1 (by decide), hi 4 (by decide), hc 180 (by decide), hc 181 (by decide)]
    exact a1
  · unfold wM at *
    rw [hc 182 (by decide), hc 183 (by decide)]
    exact a2
  · unfold mFn rowS at *
    rw [hi 9 (by decide), hi 17 (by decide), hc 190 (by decide), hl 185 (by decide), hl 189 (by decide)]
    exact a3
  · unfold oM at *
    rw [hc 184 (by decide)]
    exact a4
  · exact Or.inr ⟨g, rfl, rI_at, rowS_wRw _ _ _ _, hg⟩
  · rw [hi 19 (by decide), hc 191 (by decide)]
    exact a6
  · rw [hl 179 (by decide)]
    exact a7
  · unfold mT at *
    rw [hi 13 (by decide), hc 188 (by decide)]
    exact a8
  · unfold tbM at *
    rw [hi 44 (by decide), hc 201 (by decide)]
    exact a9
  · rw [hi 14 (by decide)]
    exact a10
theorem MI_dn {g c : Nat → Bool} (h : MI S n sz wt ro fn Fn nc rn rof ord (some g) tr tn up lo y s L kz) (hg : tbT (pr sz n) c) : MI (wRw (wRw S 187 0 c) 200 0 c) n sz wt ro fn Fn nc rn rof ord (some c) tr tn up lo y s L kz := by
  have hi : ∀ j, j ≠ 1000 → SI (wRw (wRw S 187 0 c) 200 0 c) 179 j = SI S 179 j := fun j hj => rfl
  have hc : ∀ d, d ≠ 1000 → SI (wRw (wRw S 187 0 c) 200 0 c) d = SI S d := fun d _ => rfl
  have hl : ∀ d, d ≠ 200 ∧ d ≠ 187 → SL (wRw (wRw S 187 0 c) 200 0 c) d = SL S d := fun d hd => (SL_wRw_ne hd.1).trans (SL_wRw_ne hd.2)
  obtain ⟨a1, a2, a3, a4, a5, a6, a7, a8, a9, a10⟩ := h
  have h42 : SI S 179 42 = 0 := by
    rcases a5 with q | ⟨g', q, q2, _⟩
    · cases q.1
    · exact q2
  refine ⟨?_, ?_, ?_, ?_, ?_, ?_, ?_, ?_, ?_, ?_⟩
  · unfold vM at *
    rw [hi 1 (by decide), hi 4 (by decide), hc 180 (by decide), hc 181 (by decide)]
    exact a1
  · unfold wM at *
    rw [hc 182 (by decide), hc 183 (by decide)]
    exact a2
  · unfold mFn rowS at *
    rw [hi 9 (by decide), hi 17 (by decide), hc 190 (by decide), hl 185 (by decide), hl 189 (by decide)]
    exact a3
  · unfold oM at *
    rw [hc 184 (by decide)]
    exact a4
  · exact Or.inr ⟨c, rfl, h42, rowS_wRw _ _ _ _, hg⟩
  · rw [hi 19 (by decide), hc 191 (by decide)]
    exact a6
  · rw [hl 179 (by decide)]
    exact a7
  · unfold mT at *
    rw [hi 13 (by decide), hc 188 (by decide)]
    exact a8
  · unfold tbM at *
    rw [hi 44 (by decide), hc 201 (by decide)]
    exact a9
  · rw [hi 14 (by decide)]
    exact a10
theorem MI_M {S' : ST} {ord' : Nat → Nat} (h : MI S n sz wt ro fn Fn nc rn rof ord sd tr tn up lo y s L kz) (f : frM S S') (hO : oM S' n ord') (h42 : SI S' 179 42 = -1) : MI S' n sz wt ro fn Fn nc rn rof ord' none tr tn up lo y s L kz := by
  have hi : ∀ j, j ≠ 38 ∧ j ≠ 42 → SI S' 179 j = SI S 179 j := fun j hj => f.2.2.2.2 j hj.1 hj.2
  have hc : ∀ c, c ≠ 198 ∧ c ≠ 179 ∧ c ≠ 196 ∧ c ≠ 197 ∧ c ≠ 184 → SI S' c = SI S c := fun c hc => f.2.2.2.1 c hc.1 hc.2.1 hc.2.2.1 hc.2.2.2.1 hc.2.2.2.2
  have hl : ∀ c, c ≠ 195 ∧ c ≠ 187 → SL S' c = SL S c := fun c hc => f.2.2.1 c hc.1 hc.2
  obtain ⟨a1, a2, a3, a4, a5, a6, a7, a8, a9, a10⟩ := h
  refine ⟨?_, ?_, ?_, ?_, ?_, ?_, ?_, ?_, ?_, ?_⟩
  · unfold vM at *
    rw [hi 1 (by decide), hi 4 (by decide), hc 180 (by decide), hc 181 (by decide)]
    exact a1
  · unfold wM at *
    rw [hc 182 (by decide), hc 183 (by decide)]
    exact a2
  · unfold mFn rowS at *
    rw [hi 9 (by decide), hi 17 (by decide), hc 190 (by decide), hl 185 (by decide), hl 189 (by decide)]
    exact a3
  · exact hO
  · exact Or.inl ⟨rfl, h42⟩
  · rw [hi 19 (by decide), hc 191 (by decide)]
    exact a6
  · rw [hl 179 (by decide)]
    exact a7
  · unfold mT at *
    rw [hi 13 (by decide), hc 188 (by decide)]
    exact a8
  · unfold tbM at *
    rw [hi 44 (by decide), hc 201 (by decide)]
    exact a9
  · rw [hi 14 (by decide)]
    exact a10
theorem frMo_M {S' : ST} (f : frM S S') : frMo S S' := ⟨f.1, fun c hc => ⟨f.2.2.2.1 c (by omega) (by omega) (by omega) (by omega) (by omega), f.2.2.1 c (by omega) (by omega), by rw [f.2.1]⟩⟩
theorem P_Enter {x : Int} (hJ : JI S) (hx : rg x) : PSi X 152 238 [.ref 0, .int (iI x)] [.ref 179, .int (iI x)] S := by
  obtain ⟨n, sz, wt, ro, fn, Fn, nm, ord, sd, tr, tn, up, lo, Z, y0, s, L, m, kz, nc, rn, rof, hK, hM, hR⟩ := hJ
  obtain ⟨pl, ho⟩ := CI_prm hK.1
  have htb := CI_tb hK.1
  have h40 := hM.2.2.1.2.1
  by_cases c : 0 ≤ x ∧ x < fn
  · obtain ⟨v, rfl⟩ : ∃ v : Nat, x = ((v : Nat) : Int) := ⟨x.toNat, by omega⟩
    refine sM.deeper (sM.weaken (k_Enter hK.1 (f0 := v) (by omega)) ?_) (by decide)
    rintro r S1 ⟨h0, h2, h4⟩
    have h1 := MI_X hM h4
    exact ⟨_, h0, sM.deeper (sM_of (m_enter h1.1 h1.2.2.2.1 ho h1.2.2.1.1 h40 h1.2.2.1.2.2.1 htb (f0 := v) (by omega)) ⟨rfl, J_of (KI_Mo (KI_X hK h4 h2) (frMo_trans (frMo_r (by omega)) (frMo_w (by omega)))) (MI_en h1 (htb v (by omega))) hR⟩) (by decide)⟩
  · exact P_q hK hM hR (k_Enter_u hK.1 hx c) (fun S1 h1 => q_of h1 (by decide) (m_enter_u h1.2.2.1.1 h40 hx c))
theorem P_Down {x : Int} (hJ : JI S) (hx : rg x) : PSi X 153 239 [.ref 0, .int (iI x)] [.ref 179, .int (iI x)] S := by
  obtain ⟨n, sz, wt, ro, fn, Fn, nm, ord, sd, tr, tn, up, lo, Z, y0, s, L, m, kz, nc, rn, rof, hK, hM, hR⟩ := hJ
  obtain ⟨pl, ho⟩ := CI_prm hK.1
  have hsd : ∀ S1, MI S1 n sz wt ro fn Fn nc rn rof ord sd tr tn up lo y0 s L kz → (sd = none → SI S1 179 42 = -1) ∧ ∀ g, sd = some g → SI S1 179 42 = 0 ∧ rowS S1 200 0 g ∧ tbT (pr sz n) g := by
    intro S1 h1
    rcases h1.2.2.2.2.1 with q | ⟨g, q, q2⟩
    · exact ⟨fun _ => q.2, fun g z => by rw [q.1] at z; cases z⟩
    · refine ⟨fun z => (by rw [q] at z; cases z), fun g' z => ?_⟩
      rw [q] at z
      cases z
      exact q2
  cases hs : sd with
  | none =>
    rw [hs] at hK hM hsd
    exact P_q hK hM hR (k_Down_n hK.1 rfl) (fun S1 h1 => q_of h1 (by decide) (m_down_n ((hsd S1 h1).1 rfl)))
  | some g =>
    rw [hs] at hK hM hsd
    have htg := ((hsd S hM).2 g rfl).2.2
    by_cases hl : lfv (pr sz n) g = -1
    · by_cases c : 0 ≤ x ∧ x < sz (ord (fpl n sz ord g))
      · obtain ⟨k, rfl⟩ : ∃ k : Nat, x = ((k : Nat) : Int) := ⟨x.toNat, by omega⟩
        refine sM.deeper (sM.weaken (k_Down hK.1 rfl hl (k := k) (by omega)) ?_) (by decide)
        rintro r S1 ⟨h0, h2, h4⟩
        have h1 := MI_X hM h4
        have q := (hsd S1 h1).2 g rfl
        exact ⟨_, h0, sM.deeper (sM_of (m_down h1.1 h1.2.2.2.1 ho q.1 q.2.1 q.2.2 hl (k := k) (by omega)) ⟨rfl, J_of (KI_Mo (KI_X hK h4 h2) (frMo_trans (frMo_r (by omega)) (frMo_r (by omega)))) (MI_dn h1 (cof_tb _ _ _ _ _)) hR⟩) (by decide)⟩
      · refine P_q hK hM hR (k_Down_o hK.1 hx rfl hl c) (fun S1 h1 => ?_)
        have q := (hsd S1 h1).2 g rfl
        exact q_of h1 (by decide) (m_down_o h1.1 h1.2.2.2.1 ho q.1 q.2.1 q.2.2 hl hx c)
    · refine P_q hK hM hR (k_Down_l hK.1 rfl hl) (fun S1 h1 => ?_)
      have q := (hsd S1 h1).2 g rfl
      exact q_of h1 (by decide) (m_down_l h1.1 h1.2.2.2.1 ho q.1 q.2.1 q.2.2 hl)
theorem P_Move {x y : Int} (hJ : JI S) (hx : rg x) (hy : rg y) : PSi X 158 247 [.ref 0, .int (iI x), .int (iI y)] [.ref 179, .int (iI x), .int (iI y)] S := by
  obtain ⟨n, sz, wt, ro, fn, Fn, nm, ord, sd, tr, tn, up, lo, Z, y0, s, L, m, kz, nc, rn, rof, hK, hM, hR⟩ := hJ
  obtain ⟨pl, ho⟩ := CI_prm hK.1
  have htb := CI_tb hK.1
  have h40 := hM.2.2.1.2.1
  by_cases c : (0 ≤ x ∧ x < n) ∧ (0 ≤ y ∧ y < n)
  · obtain ⟨v, rfl⟩ : ∃ v : Nat, x = ((v : Nat) : Int) := ⟨x.toNat, by omega⟩
    obtain ⟨t, rfl⟩ : ∃ t : Nat, y = ((t : Nat) : Int) := ⟨y.toNat, by omega⟩
    refine sM.deeper (sM.weaken (k_Move hK.1 (v := v) (t := t) (by omega) (by omega)) ?_) (by decide)
    rintro r S1 ⟨h0, h2, h4⟩
    have h1 := MI_X hM h4
    rw [plc_eq ho (by omega)] at h0 h2
    refine ⟨_, h0, sM.deeper (sM.weaken (m_move h1.1 h1.2.2.2.1 ho h1.2.2.1.1 h40 h1.2.2.1.2.2.1 htb (v := v) (t := t) (by omega) (by omega)) ?_) (by decide)⟩
    rintro r2 S2 ⟨g1, g2, g3, g4⟩
    exact ⟨g1, J_of (KI_Mo (KI_X hK h4 h2) (frMo_M g2)) (MI_M h1 g2 g3 g4) hR⟩
  · exact P_q hK hM hR (sM.deeper (k_Move_u hK.1 hx hy c) (by decide)) (fun S1 h1 => q_of h1 (by decide) (m_move_u h1.1 hx hy c))
theorem P_Seek (hJ : JI S) : PSi X 159 248 [.ref 0] [.ref 179] S := by
  obtain ⟨n, sz, wt, ro, fn, Fn, nm, ord, sd, tr, tn, up, lo, Z, y0, s, L, m, kz, nc, rn, rof, hK, hM, hR⟩ := hJ
  obtain ⟨pl, ho⟩ := CI_prm hK.1
  have htb := CI_tb hK.1
  have h40 := hM.2.2.1.2.1
  refine sM.deeper (sM.weaken (k_Seek hK.1) ?_) (by decide)
  rintro r S1 ⟨h0, h2, h4⟩
  have h1 := MI_X hM h4
  refine ⟨_, h0, sM.deeper (sM.weaken (m_seek h1.1 h1.2.2.2.1 ho h1.2.2.1.1 h40 h1.2.2.1.2.2.1 htb) ?_) (by decide)⟩
  rintro r2 S2 ⟨g1, g2, g3, g4⟩
  exact ⟨g1, J_of (KI_Mo (KI_X hK h4 h2) (frMo_M g2)) (MI_M h1 g2 g3 g4) hR⟩
theorem MI_pr {S1 S' : ST} {L' : List Nat} (h : MI S n sz wt ro fn Fn nc rn rof ord sd tr tn up lo y s L kz) (g : frG S S1) (f : frI S1 S') (ht : tbM S' L' 20000) : MI S' n sz wt ro fn Fn nc rn rof ord sd tr tn up lo y s L' kz := by
  have h1 := MI_G h g
  have hi : ∀ j, j ≠ 44 → SI S' 179 j = SI S1 179 j := fun j hj => f.2.2.2.2 j hj
  have hc : ∀ c, c ≠ 179 ∧ c ≠ 201 → SI S' c = SI S1 c := fun c hc => f.2.2.2.1 c hc.1 hc.2
  have hl : ∀ c, c ≠ 1000 → SL S' c = SL S1 c := fun c _ => by rw [f.2.2.1]
  obtain ⟨a1, a2, a3, a4, a5, a6, a7, a8, a9, a10⟩ := h1
  refine ⟨?_, ?_, ?_, ?_, ?_, ?_, ?_, ?_, ?_, ?_⟩
  · unfold vM at *
    rw [hi 1 (by decide), hi 4 (by decide), hc 180 (by decide), hc 181 (by decide)]
    exact a1
  · unfold wM at *
    rw [hc 182 (by decide), hc 183 (by decide)]
    exact a2
  · unfold mFn rowS at *
    rw [hi 9 (by decide), hi 17 (by decide), hc 190 (by decide), hl 185 (by decide), hl 189 (by decide)]
    exact a3
  · unfold oM at *
    rw [hc 184 (by decide)]
    exact a4
  · unfold mSd rowS at *
    rw [hi 42 (by decide), hl 200 (by decide)]
    exact a5
  · rw [hi 19 (by decide), hc 191 (by decide)]
    exact a6
  · rw [hl 179 (by decide)]
    exact a7
  · unfold mT at *
    rw [hi 13 (by decide), hc 188 (by decide)]
    exact a8
  · exact ht
  · rw [hi 14 (by decide)]
    exact a10
theorem P_Print {x : Int} (hJ : JI S) (hx : rg x) : PSi X 155 243 [.ref 0, .int (iI x)] [.ref 179, .int (iI x)] S := by
  obtain ⟨n, sz, wt, ro, fn, Fn, nm, ord, sd, tr, tn, up, lo, Z, y0, s, L, m, kz, nc, rn, rof, hK, hM, hR⟩ := hJ
  obtain ⟨pl, ho⟩ := CI_prm hK.1
  have htb := CI_tb hK.1
  have h40 := hM.2.2.1.2.1
  by_cases c : 0 ≤ x ∧ x < fn
  · obtain ⟨v, rfl⟩ : ∃ v : Nat, x = ((v : Nat) : Int) := ⟨x.toNat, by omega⟩
    refine sM.deeper (sM.weaken (k_Print hK.1 hK.2.2.1 (f0 := v) (by omega)) ?_) (by decide)
    rintro r S1 ⟨h0, m', hm', hs', hl', hC', hf'⟩
    have h1 : MI S1 n sz wt ro fn Fn nc rn rof ord sd tr tn up lo y0 s L kz := MI_cg hM (fun c a b => (hf' c (by omega) (by omega) (by omega) (by omega)).1) (fun c a b => (hf' c (by omega) (by omega) (by omega) (by omega)).2.1)
    refine ⟨_, h0, sM.deeper (sM.weaken (m_print h1.1 h1.2.2.2.1 ho h1.2.2.1.1 h40 h1.2.2.1.2.2.1 htb (f0 := v) (by omega)) ?_) (by decide)⟩
    rintro r2 S2 ⟨g1, ⟨S3, g2, g3⟩, g4⟩
    obtain ⟨r1, r2, r3, r4, r5, r6⟩ := hR
    have hK1 : KI S1 n sz wt ro fn Fn nm ord sd tr tn up lo (Z + 2 * (m' - m)) y0 s (prT n sz ord (Fn v)) m' kz := by
      refine ⟨hC', ?_, hs', by rw [(hf' 69 (by omega) (by omega) (by omega) (by omega)).1]; exact hK.2.2.2⟩
      have h2 := hK.2.1
      unfold tp at *
      rw [(hf' 64 (by omega) (by omega) (by omega) (by omega)).1, (hf' 65 (by omega) (by omega) (by omega) (by omega)).1]
      exact h2
    exact ⟨g1, J_of (KI_Mo hK1 (frMo_trans (frMo_G g2) (frMo_I g3))) (MI_pr h1 g2 g3 g4) ⟨r1, r2, r3, r4, by omega, r6⟩⟩
  · exact sM.deeper (sM_of (k_Print_u hK.1 hx c) ⟨_, rfl, sM.deeper (sM_of (m_print_u hM.2.2.1.1 h40 hx c) ⟨rfl, J_of hK hM hR⟩) (by decide)⟩) (by decide)
end JE
