/-! ===== joint steps: questions ===== -/
section JC
variable {X : List Int32} {S : ST} {n fn nc s m Z : Nat} {sz : Nat → Nat} {wt : Nat → Int} {ro : Nat → Bool} {Fn : Nat → Nat → Bool} {nm rn : Nat → Int64} {rof ord : Nat → Nat} {sd : Option (Nat → Bool)} {tr tn kz : Int} {up lo : Int64} {y : Nat → Nat} {L : List Nat}
theorem MI_eq {S' : ST} (h : MI S n sz wt ro fn Fn nc rn rof ord sd tr tn up lo y s L kz) (hj : ∀ j, (1 ≤ j ∧ j < 22) ∨ j = 42 ∨ j = 44 → SI S' 179 j = SI S 179 j) (hc : ∀ c, (180 ≤ c ∧ c ≤ 184) ∨ c = 188 ∨ c = 190 ∨ c = 191 ∨ c = 201 → SI S' c = SI S c) (hl : ∀ c, c = 179 ∨ c = 185 ∨ c = 189 ∨ c = 200 → SL S' c = SL S c) : MI S' n sz wt ro fn Fn nc rn rof ord sd tr tn up lo y s L kz := by
  unfold MI vM wM mFn oM mSd mT tbM rowS at *
  rw [hj 1 (by omega), hj 4 (by omega), hj 9 (by omega), hj 13 (by omega), hj 14 (by omega), hj 17 (by omega), hj 19 (by omega), hj 42 (by omega), hj 44 (by omega), hc 180 (by omega), hc 181 (by omega), hc 182 (by omega), hc 183 (by omega), hc 184 (by omega), hc 188 (by omega), hc 190 (by omega), hc 191 (by omega), hc 201 (by omega), hl 179 (by omega), hl 185 (by omega), hl 189 (by omega), hl 200 (by omega)]
  exact h
theorem MI_G {S' : ST} (h : MI S n sz wt ro fn Fn nc rn rof ord sd tr tn up lo y s L kz) (f : frG S S') : MI S' n sz wt ro fn Fn nc rn rof ord sd tr tn up lo y s L kz := MI_eq h (fun j hj => f.2.2.2.2 j (by omega)) (fun c hc => f.2.2.2.1 c (by omega) (by omega) (by omega) (by omega)) (fun c hc => f.2.2.1 c (by omega) (by omega))
theorem MI_W {S' : ST} (h : MI S n sz wt ro fn Fn nc rn rof ord sd tr tn up lo y s L kz) (f : frW S S') : MI S' n sz wt ro fn Fn nc rn rof ord sd tr tn up lo y s L kz := MI_eq h (fun j hj => by rw [f.2.2.2 179 (by decide)]) (fun c hc => f.2.2.2 c (by omega)) (fun c hc => by rw [f.2.2.1])
theorem frMo_G {S' : ST} (f : frG S S') : frMo S S' := ⟨f.1, fun c hc => ⟨f.2.2.2.1 c (by omega) (by omega) (by omega) (by omega), f.2.2.1 c (by omega) (by omega), by rw [f.2.1]⟩⟩
theorem frMo_W {S' : ST} (f : frW S S') : frMo S S' := ⟨f.1, fun c hc => ⟨f.2.2.2 c (by omega), by rw [f.2.2.1], by rw [f.2.1]⟩⟩
theorem frMo_I {S' : ST} (f : frI S S') : frMo S S' := ⟨f.1, fun c hc => ⟨f.2.2.2.1 c (by omega) (by omega), by rw [f.2.2.1], by rw [f.2.1]⟩⟩
theorem CI_prm (h : CI S n sz wt ro fn Fn nm ord sd tr tn up lo Z) : ∃ pl, prm n ord pl := by
  obtain ⟨b, R, pl, D, U, rt, hR, _⟩ := h.2.2.2.2.1
  exact ⟨pl, hR.1.2.2.2.2⟩
theorem CI_tb (h : CI S n sz wt ro fn Fn nm ord sd tr tn up lo Z) : ∀ i, i < fn → tbT (pr sz n) (Fn i) := h.2.2.2.1.2.2.2.2.2.2
/-- nothing moves but scratch of the reference -/
theorem P_q {z : Int} {cy my : Nat} {ca ma : List Value} (hK : KI S n sz wt ro fn Fn nm ord sd tr tn up lo Z y s L m kz) (hM : MI S n sz wt ro fn Fn nc rn rof ord sd tr tn up lo y s L kz) (hR : RI n sz wt ro fn nm nc rn rof tr tn Z m kz) (hc : sM X 19 cy ca S (qQ (.int (iI z)) (fun S' => CI S' n sz wt ro fn Fn nm ord sd tr tn up lo Z) S)) (hm : ∀ S1, MI S1 n sz wt ro fn Fn nc rn rof ord sd tr tn up lo y s L kz → sM X 7 my ma S1 (fun r S2 => r = some (.int (iI z)) ∧ frMo S1 S2 ∧ MI S2 n sz wt ro fn Fn nc rn rof ord sd tr tn up lo y s L kz)) : PSi X cy my ca ma S := by
  refine sM.deeper (sM.weaken hc ?_) (by decide)
  rintro r S1 ⟨h1, h2, h4⟩
  refine ⟨z, h1, sM.deeper (sM.weaken (hm S1 (MI_X hM h4)) ?_) (by decide)⟩
  rintro r S2 ⟨g1, g2, g3⟩
  exact ⟨g1, J_of (KI_Mo (KI_X hK h4 h2) g2) g3 hR⟩
theorem P_ql {z : Int64} {cy my : Nat} {ca ma : List Value} (hK : KI S n sz wt ro fn Fn nm ord sd tr tn up lo Z y s L m kz) (hM : MI S n sz wt ro fn Fn nc rn rof ord sd tr tn up lo y s L kz) (hR : RI n sz wt ro fn nm nc rn rof tr tn Z m kz) (hc : sM X 19 cy ca S (qQ (.long z) (fun S' => CI S' n sz wt ro fn Fn nm ord sd tr tn up lo Z) S)) (hm : ∀ S1, MI S1 n sz wt ro fn Fn nc rn rof ord sd tr tn up lo y s L kz → sM X 7 my ma S1 (sV (some (.long z)) S1)) : PSl X cy my ca ma S := by
  refine sM.deeper (sM.weaken hc ?_) (by decide)
  rintro r S1 ⟨h1, h2, h4⟩
  have hM1 := MI_X hM h4
  exact ⟨z, h1, sM.deeper (sM_of (hm S1 hM1) ⟨rfl, J_of (KI_X hK h4 h2) hM1 hR⟩) (by decide)⟩
theorem q_of {z : Int} {my d : Nat} {ma : List Value} {S1 : ST} (h1 : MI S1 n sz wt ro fn Fn nc rn rof ord sd tr tn up lo y s L kz) (hd : d ≤ 7) (hm : sM X d my ma S1 (sV (some (.int (iI z))) S1)) : sM X 7 my ma S1 (fun r S2 => r = some (.int (iI z)) ∧ frMo S1 S2 ∧ MI S2 n sz wt ro fn Fn nc rn rof ord sd tr tn up lo y s L kz) := sM.deeper (sM_of hm ⟨rfl, frMo_refl _, h1⟩) hd
theorem P_Runs {x : Int} (hJ : JI S) (hx : rg x) : PSi X 139 213 [.ref 0, .int (iI x)] [.ref 179, .int (iI x)] S := by
  obtain ⟨n, sz, wt, ro, fn, Fn, nm, ord, sd, tr, tn, up, lo, Z, y0, s, L, m, kz, nc, rn, rof, hK, hM, hR⟩ := hJ
  exact P_q hK hM hR (sM.deeper (k_Runs hK.1 hx) (by decide)) (fun S1 h1 => q_of h1 (by decide) (m_runs h1.2.2.1.1 h1.2.2.1.2.1 h1.2.2.1.2.2.1 hx))
theorem P_Alike {x y : Int} (hJ : JI S) (hx : rg x) (hy : rg y) : PSi X 140 214 [.ref 0, .int (iI x), .int (iI y)] [.ref 179, .int (iI x), .int (iI y)] S := by
  obtain ⟨n, sz, wt, ro, fn, Fn, nm, ord, sd, tr, tn, up, lo, Z, y0, s, L, m, kz, nc, rn, rof, hK, hM, hR⟩ := hJ
  exact P_q hK hM hR (sM.deeper (k_Alike hK.1 hx hy) (by decide)) (fun S1 h1 => q_of h1 (by decide) (m_alike h1.2.2.1.1 h1.2.2.1.2.1 h1.2.2.1.2.2.1 hx hy))
theorem P_Dep {x y : Int} (hJ : JI S) (hx : rg x) (hy : rg y) : PSi X 141 216 [.ref 0, .int (iI x), .int (iI y)] [.ref 179, .int (iI x), .int (iI y)] S := by
  obtain ⟨n, sz, wt, ro, fn, Fn, nm, ord, sd, tr, tn, up, lo, Z, y0, s, L, m, kz, nc, rn, rof, hK, hM, hR⟩ := hJ
  exact P_q hK hM hR (sM.deeper (k_Dep hK.1 hx hy) (by decide)) (fun S1 h1 => q_of h1 (by decide) (m_depends h1.1 h1.2.2.1.1 h1.2.2.1.2.1 h1.2.2.1.2.2.1 hx hy))
theorem P_Weigh {x : Int} (hJ : JI S) (hx : rg x) : PSl X 151 226 [.ref 0, .int (iI x)] [.ref 179, .int (iI x)] S := by
  obtain ⟨n, sz, wt, ro, fn, Fn, nm, ord, sd, tr, tn, up, lo, Z, y0, s, L, m, kz, nc, rn, rof, hK, hM, hR⟩ := hJ
  exact P_ql hK hM hR (sM.deeper (k_Weigh hK.1 hx) (by decide)) (fun S1 h1 => sM.deeper (m_weigh h1.1 h1.2.2.1.1 h1.2.2.1.2.1 h1.2.2.1.2.2.1 h1.2.1 hx) (by decide))
theorem P_Part {q : Bool} (hJ : JI S)  : PSl X 150 225 [.ref 0, .int (iI (bI q))] [.ref 179, .int (iI (bI q))] S := by
  obtain ⟨n, sz, wt, ro, fn, Fn, nm, ord, sd, tr, tn, up, lo, Z, y0, s, L, m, kz, nc, rn, rof, hK, hM, hR⟩ := hJ
  exact P_ql hK hM hR (sM.deeper (k_Part hK.1) (by decide)) (fun S1 h1 => sM.deeper (m_part h1.2.2.2.2.2.2.1.1 h1.2.2.2.2.2.2.1.2) (by decide))
theorem P_Told {x : Int} (hJ : JI S) (hx : rg x) : PSi X 147 222 [.ref 0, .int (iI x)] [.ref 179, .int (iI x)] S := by
  obtain ⟨n, sz, wt, ro, fn, Fn, nm, ord, sd, tr, tn, up, lo, Z, y0, s, L, m, kz, nc, rn, rof, hK, hM, hR⟩ := hJ
  exact P_q hK hM hR (sM.deeper (k_Told hK.1 hx ⟨hR.2.2.2.1.1, hR.2.2.2.1.2.1⟩ ⟨hR.2.2.2.1.2.2.1, hR.2.2.2.1.2.2.2.1, by have h9 := hR.2.2.2.1.2.2.2.2; have h8 := hM.1.1.1; omega⟩) (by decide)) (fun S1 h1 => q_of h1 (by decide) (m_told h1.1 h1.2.2.2.2.2.1.1 h1.2.2.2.2.2.1.2 ⟨hR.2.2.2.1.2.2.2.1, by have h9 := hR.2.2.2.1.2.2.2.2; have h8 := hM.1.1.1; omega⟩ hx))
theorem P_Place {x : Int} (hJ : JI S) (hx : rg x) : PSi X 157 245 [.ref 0, .int (iI x)] [.ref 179, .int (iI x)] S := by
  obtain ⟨n, sz, wt, ro, fn, Fn, nm, ord, sd, tr, tn, up, lo, Z, y0, s, L, m, kz, nc, rn, rof, hK, hM, hR⟩ := hJ
  obtain ⟨pl, ho⟩ := CI_prm hK.1
  refine P_q hK hM hR (sM.deeper (k_Place hK.1 hx) (by decide)) (fun S1 h1 => ?_)
  by_cases c : 0 ≤ x ∧ x < n
  · rw [if_neg (fun z => z c)]
    obtain ⟨v, rfl⟩ : ∃ v : Nat, x = ((v : Nat) : Int) := ⟨x.toNat, by omega⟩
    show sM X 7 245 _ S1 (fun r S2 => r = some (.int (iI ((plc n ord v : Nat) : Int))) ∧ _)
    rw [plc_eq ho (by omega)]
    exact q_of h1 (by decide) (m_place h1.1 h1.2.2.2.1 ho (by omega))
  · rw [if_pos c]
    exact q_of h1 (by decide) (m_place_u h1.1 hx c)
theorem P_Fault (hJ : JI S) : PSi X 137 211 [.ref 0] [.ref 179] S := by
  obtain ⟨n, sz, wt, ro, fn, Fn, nm, ord, sd, tr, tn, up, lo, Z, y0, s, L, m, kz, nc, rn, rof, hK, hM, hR⟩ := hJ
  exact sM.deeper (sM_of (k_Fault hK.2.2.2) ⟨kz, rfl, sM.deeper (sM_of (m_fault hM.2.2.2.2.2.2.2.2.2) ⟨rfl, J_of hK hM hR⟩) (by decide)⟩) (by decide)
theorem P_Printed {x : Int} (hJ : JI S) (hx : rg x) : PSi X 156 244 [.ref 0, .int (iI x)] [.ref 179, .int (iI x)] S := by
  obtain ⟨n, sz, wt, ro, fn, Fn, nm, ord, sd, tr, tn, up, lo, Z, y0, s, L, m, kz, nc, rn, rof, hK, hM, hR⟩ := hJ
  have ht := hM.2.2.2.2.2.2.2.2.1
  exact sM.deeper (sM_of (k_Printed hK.2.2.1 hx) ⟨_, rfl, sM.deeper (sM_of (m_printed ht (fun j hj => (hK.2.2.1.2.2.2 j hj).2) hx) ⟨rfl, J_of hK hM hR⟩) (by decide)⟩) (by decide)
theorem P_Here (hJ : JI S) : PSi X 154 240 [.ref 0] [.ref 179] S := by
  obtain ⟨n, sz, wt, ro, fn, Fn, nm, ord, sd, tr, tn, up, lo, Z, y0, s, L, m, kz, nc, rn, rof, hK, hM, hR⟩ := hJ
  obtain ⟨pl, ho⟩ := CI_prm hK.1
  rcases hM.2.2.2.2.1 with ⟨h2, h3⟩ | ⟨g, h2, h3, h4, h5⟩
  · refine P_q hK hM hR (sM.deeper (hereN hK.1 h2) (by decide)) (fun S1 h1 => ?_)
    have h9 : SI S1 179 42 = -1 := by
      rcases h1.2.2.2.2.1 with q | ⟨g, q, _⟩
      · exact q.2
      · rw [h2] at q
        cases q
    exact q_of h1 (by decide) (m_here_n h9)
  · refine P_q hK hM hR (sM.deeper (hereC (y := 0) hK.1 h2) (by decide)) (fun S1 h1 => ?_)
    rcases h1.2.2.2.2.1 with q | ⟨g', q, q2, q3, q4⟩
    · rw [h2] at q
      cases q.1
    · rw [h2] at q
      cases q
      exact q_of h1 (by decide) (m_here h1.1 h1.2.2.2.1 ho q2 q3 q4)
theorem P_Size {x : Int} (hJ : JI S) (hx : rg x) : PSi X 142 234 [.ref 0, .int (iI x)] [.ref 179, .int (iI x)] S := by
  obtain ⟨n, sz, wt, ro, fn, Fn, nm, ord, sd, tr, tn, up, lo, Z, y0, s, L, m, kz, nc, rn, rof, hK, hM, hR⟩ := hJ
  obtain ⟨pl, ho⟩ := CI_prm hK.1
  have htb := CI_tb hK.1
  have h40 := hM.2.2.1.2.1
  refine P_q hK hM hR (sM.deeper (k_Size hK.1 hx) (by decide)) (fun S1 h1 => ?_)
  by_cases c1 : x = -1
  · subst c1
    rw [if_pos rfl]
    refine sM.deeper (sM.weaken (m_size_a h1.1 h1.2.2.2.1 ho h1.2.2.1.1 h40 h1.2.2.1.2.2.1 htb (NN_ok h1.1.1 ho h40 htb).1) ?_) (by decide)
    rintro r S2 ⟨g1, g2, _⟩
    exact ⟨g1, frMo_G g2, MI_G h1 g2⟩
  · rw [if_neg c1]
    by_cases c : 0 ≤ x ∧ x < fn
    · rw [if_neg (fun z => z c)]
      obtain ⟨v, rfl⟩ : ∃ v : Nat, x = ((v : Nat) : Int) := ⟨x.toNat, by omega⟩
      refine sM.deeper (sM.weaken (m_size_f h1.1 h1.2.2.2.1 ho h1.2.2.1.1 h40 h1.2.2.1.2.2.1 htb (f0 := v) (by omega) (NF_ok (F := Fn) h1.1.1 ho h40 (by omega) (htb v (by omega))).1) ?_) (by decide)
      rintro r S2 ⟨g1, g2, _⟩
      exact ⟨g1, frMo_G g2, MI_G h1 g2⟩
    · rw [if_pos c]
      exact q_of h1 (by decide) (m_size_u h1.2.2.1.1 h40 hx c1 c)
theorem P_Ways {x : Int} (hJ : JI S) (hx : rg x) : PSi X 143 236 [.ref 0, .int (iI x)] [.ref 179, .int (iI x)] S := by
  obtain ⟨n, sz, wt, ro, fn, Fn, nm, ord, sd, tr, tn, up, lo, Z, y0, s, L, m, kz, nc, rn, rof, hK, hM, hR⟩ := hJ
  obtain ⟨pl, ho⟩ := CI_prm hK.1
  have htb := CI_tb hK.1
  have h40 := hM.2.2.1.2.1
  refine P_q hK hM hR (sM.deeper (k_Ways hK.1 hx) (by decide)) (fun S1 h1 => ?_)
  by_cases c : 0 ≤ x ∧ x < fn
  · rw [if_neg (fun z => z c)]
    obtain ⟨v, rfl⟩ : ∃ v : Nat, x = ((v : Nat) : Int) := ⟨x.toNat, by omega⟩
    refine sM.weaken (m_ways h1.1 h1.2.2.2.1 ho h1.2.2.1.1 h40 h1.2.2.1.2.2.1 htb (f0 := v) (by omega)) ?_
    rintro r S2 ⟨g1, S3, g2, g3⟩
    exact ⟨g1, frMo_trans (frMo_G g2) (frMo_W g3), MI_W (MI_G h1 g2) g3⟩
  · rw [if_pos c]
    refine sM.weaken (m_ways_u h1.1 h1.2.2.2.1 ho h1.2.2.1.1 h40 h1.2.2.1.2.2.1 htb hx c) ?_
    rintro r S2 ⟨g1, g2⟩
    exact ⟨g1, frMo_G g2, MI_G h1 g2⟩
end JC
