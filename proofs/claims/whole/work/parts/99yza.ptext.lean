/-! ===== joint steps: choice, texts ===== -/
section JF
variable {X : List Int32} {S : ST} {n fn nc s m Z : Nat} {sz : Nat → Nat} {wt : Nat → Int} {ro : Nat → Bool} {Fn : Nat → Nat → Bool} {nm rn : Nat → Int64} {rof ord : Nat → Nat} {sd : Option (Nat → Bool)} {tr tn kz : Int} {up lo : Int64} {y : Nat → Nat} {L : List Nat}
theorem mSp_ok {T0 T1 : Nat} : ∀ k, (∀ c, c ≠ 185 → SL (mSp S Fn T0 T1 k) c = SL S c) ∧ (∀ i, i < k → rowS (mSp S Fn T0 T1 k) 185 (16 * i) (xT T0 T1 (Fn i))) ∧ SR (mSp S Fn T0 T1 k) = SR S ∧ (mSp S Fn T0 T1 k).1 = S.1
  | 0 => ⟨fun _ _ => rfl, fun i hi => absurd hi (Nat.not_lt_zero _), rfl, rfl⟩
  | k + 1 => by
    obtain ⟨b1, b2, b3, b4⟩ := mSp_ok (T0 := T0) (T1 := T1) k
    refine ⟨fun c hc => (SL_wRw_ne hc).trans (b1 c hc), fun i hi => ?_, b3, b4⟩
    by_cases q : i = k
    · rw [q]
      exact rowS_wRw _ _ _ _
    · exact rowS_ne (by omega) (b2 i (by omega))
theorem mW1_ok {T : ST} {v : Nat} : ∀ k, SL (mW1 T v k) = SL T ∧ SR (mW1 T v k) = SR T ∧ (mW1 T v k).1 = T.1 ∧ (∀ i, SI (mW1 T v k) 182 i = if v * 6 ≤ i ∧ i < v * 6 + k then 1 else SI T 182 i) ∧ ∀ i, SI (mW1 T v k) 183 i = if v * 6 ≤ i ∧ i < v * 6 + k then 0 else SI T 183 i
  | 0 => ⟨rfl, rfl, rfl, fun i => by rw [if_neg (by omega)]; rfl, fun i => by rw [if_neg (by omega)]; rfl⟩
  | k + 1 => by
    obtain ⟨b1, b2, b3, b4, b5⟩ := mW1_ok (T := T) (v := v) k
    refine ⟨b1, b2, b3, fun i => ?_, fun i => ?_⟩
    · refine (rI_ne (by decide) _).trans ?_
      by_cases q : i = v * 6 + k
      · rw [q, rI_at, if_pos (by omega)]
      · rw [rI_nj q, b4 i]
        by_cases q2 : v * 6 ≤ i ∧ i < v * 6 + k
        · rw [if_pos q2, if_pos (by omega)]
        · rw [if_neg q2, if_neg (by omega)]
    · by_cases q : i = v * 6 + k
      · rw [q, if_pos (by omega)]
        exact rI_at
      · refine (rI_nj q).trans ((rI_ne (by decide) _).trans ?_)
        rw [b5 i]
        by_cases q2 : v * 6 ≤ i ∧ i < v * 6 + k
        · rw [if_pos q2, if_pos (by omega)]
        · rw [if_neg q2, if_neg (by omega)]
theorem mCh_ok {x : Nat} {T M : ST} (hTT : T = wI (wI (wI (wI (mSp S Fn (pr sz n) (pr sz n * x) fn) 180 n x) 181 n (pr sz n : Nat)) 179 4 ((pr sz n * x : Nat) : Int)) 184 n (n : Nat)) (hM : M = mW1 T n 6) :
  ((∀ j, j ≠ 4 → SI M 179 j = SI S 179 j) ∧ SI M 179 4 = ((pr sz n * x : Nat) : Int)) ∧ (∀ j, SI M 180 j = if j = n then ((x : Nat) : Int) else SI S 180 j) ∧ (∀ j, SI M 181 j = if j = n then ((pr sz n : Nat) : Int) else SI S 181 j) ∧ (∀ j, SI M 184 j = if j = n then ((n : Nat) : Int) else SI S 184 j)
  ∧ (∀ i, SI M 182 i = if n * 6 ≤ i ∧ i < n * 6 + 6 then 1 else SI S 182 i) ∧ (∀ i, SI M 183 i = if n * 6 ≤ i ∧ i < n * 6 + 6 then 0 else SI S 183 i) ∧ (∀ c, c ≠ 179 → c ≠ 180 → c ≠ 181 → c ≠ 182 → c ≠ 183 → c ≠ 184 → SI M c = SI S c) ∧ (∀ c, c ≠ 185 → SL M c = SL S c) ∧ (∀ i, i < fn → rowS M 185 (16 * i) (xT (pr sz n) (pr sz n * x) (Fn i))) ∧ SR M = SR S ∧ M.1 = S.1 := by
  obtain ⟨d1, d2, d3, d4⟩ := mSp_ok (S := S) (Fn := Fn) (T0 := pr sz n) (T1 := pr sz n * x) fn
  have d5 := SI_mSp S Fn (pr sz n) (pr sz n * x) fn
  obtain ⟨e1, e2, e3, e4, e5⟩ := mW1_ok (T := T) (v := n) 6
  have e6 := SI_mW1 T n 6
  rw [← hM] at e1 e2 e3 e4 e5 e6
  clear hM
  generalize mSp S Fn (pr sz n) (pr sz n * x) fn = B at *
  have tI : ∀ c j, c ≠ 180 → c ≠ 181 → c ≠ 184 → (c ≠ 179 ∨ j ≠ 4) → SI T c j = SI S c j := fun c j h1 h2 h3 h4 => by
    rw [hTT, rI_ne h3, SI_wI, if_neg (by omega), rI_ne h2, rI_ne h1, d5]
  have hTl : SL T = SL B := by rw [hTT]; rfl
  have hTr : SR T = SR S := by rw [hTT]; exact d3
  have hT1 : T.1 = S.1 := by rw [hTT]; exact d4
  refine ⟨⟨fun j hj => ?_, ?_⟩, fun j => ?_, fun j => ?_, fun j => ?_, fun i => ?_, fun i => ?_, fun c h1 h2 h3 h4 h5 h6 => ?_, fun c hc => ?_, fun i hi k hk => ?_, e2.trans hTr, e3.trans hT1⟩
  · rw [e6 179 (by decide) (by decide)]
    exact tI 179 j (by decide) (by decide) (by decide) (Or.inr hj)
  · rw [e6 179 (by decide) (by decide), hTT, rI_ne (by decide), rI_at]
  · rw [e6 180 (by decide) (by decide), hTT, rI_ne (by decide), rI_ne (by decide), rI_ne (by decide)]
    by_cases q : j = n
    · rw [q, rI_at, if_pos rfl]
    · rw [rI_nj q, if_neg q, d5]
  · rw [e6 181 (by decide) (by decide), hTT, rI_ne (by decide), rI_ne (by decide)]
    by_cases q : j = n
    · rw [q, rI_at, if_pos rfl]
    · rw [rI_nj q, if_neg q, rI_ne (by decide), d5]
  · rw [e6 184 (by decide) (by decide), hTT]
    by_cases q : j = n
    · rw [q, rI_at, if_pos rfl]
    · rw [rI_nj q, if_neg q, rI_ne (by decide), rI_ne (by decide), rI_ne (by decide), d5]
  · rw [e4, tI 182 i (by decide) (by decide) (by decide) (Or.inl (by decide))]
  · rw [e5, tI 183 i (by decide) (by decide) (by decide) (Or.inl (by decide))]
  · rw [e6 c h4 h5]
    exact funext fun j => tI c j h2 h3 h6 (Or.inl h1)
  · rw [e1, hTl]
    exact d1 c hc
  · rw [e1, hTl]
    exact d2 i hi k hk
theorem MI_chM {x : Nat} {M : ST} (h : MI S n sz wt ro fn Fn nc rn rof ord sd tr tn up lo y s L kz) (hx : 2 ≤ x ∧ x ≤ 6) (hn : n < 10) (hT : pr sz n * x ≤ 1024) (hwt : ∀ i, n * 6 ≤ i → i < 60 → wt i = 1 ∧ ro i = false) (htn : tn ≤ n)
  (hf : ((∀ j, j ≠ 4 → SI M 179 j = SI S 179 j) ∧ SI M 179 4 = ((pr sz n * x : Nat) : Int)) ∧ (∀ j, SI M 180 j = if j = n then ((x : Nat) : Int) else SI S 180 j) ∧ (∀ j, SI M 181 j = if j = n then ((pr sz n : Nat) : Int) else SI S 181 j) ∧ (∀ j, SI M 184 j = if j = n then ((n : Nat) : Int) else SI S 184 j)
  ∧ (∀ i, SI M 182 i = if n * 6 ≤ i ∧ i < n * 6 + 6 then 1 else SI S 182 i) ∧ (∀ i, SI M 183 i = if n * 6 ≤ i ∧ i < n * 6 + 6 then 0 else SI S 183 i) ∧ (∀ c, c ≠ 179 → c ≠ 180 → c ≠ 181 → c ≠ 182 → c ≠ 183 → c ≠ 184 → SI M c = SI S c) ∧ (∀ c, c ≠ 185 → SL M c = SL S c) ∧ (∀ i, i < fn → rowS M 185 (16 * i) (xT (pr sz n) (pr sz n * x) (Fn i))) ∧ SR M = SR S ∧ M.1 = S.1) :
  MI (wI (wI M 179 1 ((n + 1 : Nat) : Int)) 179 42 (-1)) (n + 1) (fup sz n x) wt ro fn (fun i => xT (pr sz n) (pr sz n * x) (Fn i)) nc rn rof (fup ord n n) none tr tn up lo y s L kz ∧ frMo S (wI (wI M 179 1 ((n + 1 : Nat) : Int)) 179 42 (-1)) := by
  obtain ⟨⟨f0, f4⟩, f180, f181, f184, f182, f183, fc, fl, fr, fR, f1⟩ := hf
  have hi : ∀ j, j ≠ 1 ∧ j ≠ 42 ∧ j ≠ 4 → SI (wI (wI M 179 1 ((n + 1 : Nat) : Int)) 179 42 (-1)) 179 j = SI S 179 j := fun j hj => (rI_nj hj.2.1).trans ((rI_nj hj.1).trans (f0 j hj.2.2))
  have hU : ∀ c, c ≠ 179 → SI (wI (wI M 179 1 ((n + 1 : Nat) : Int)) 179 42 (-1)) c = SI M c := fun c hc => (funext fun j => rI_ne hc j).trans (funext fun j => rI_ne hc j)
  have hc : ∀ c, c ≠ 179 ∧ c ≠ 180 ∧ c ≠ 181 ∧ c ≠ 182 ∧ c ≠ 183 ∧ c ≠ 184 → SI (wI (wI M 179 1 ((n + 1 : Nat) : Int)) 179 42 (-1)) c = SI S c := fun c hc => (hU c hc.1).trans (fc c hc.1 hc.2.1 hc.2.2.1 hc.2.2.2.1 hc.2.2.2.2.1 hc.2.2.2.2.2)
  have hl : ∀ c, c ≠ 185 → SL (wI (wI M 179 1 ((n + 1 : Nat) : Int)) 179 42 (-1)) c = SL S c := fun c hc => fl c hc
  refine ⟨?_, ⟨f1, fun c h1 => ⟨hc c (by omega), hl c (by omega), congrFun fR c⟩⟩⟩
  obtain ⟨a1, a2, a3, a4, a5, a6, a7, a8, a9, a10⟩ := h
  refine ⟨?_, ?_, ?_, ?_, ?_, ?_, ?_, ?_, ?_, ?_⟩
  · refine ⟨wf_x a1.1 hn hx hT, (rI_nj (by decide)).trans rI_at, ?_, fun i hi2 => ?_, fun i hi2 => ?_⟩
    · rw [px_n]
      exact (rI_nj (by decide)).trans ((rI_nj (by decide)).trans f4)
    · rw [hU 180 (by decide), f180]
      by_cases q : i = n
      · rw [if_pos q, q, fup_at]
      · rw [if_neg q, fup_ne q]
        exact a1.2.2.2.1 i (by omega)
    · rw [hU 181 (by decide), f181, px_le (by omega)]
      by_cases q : i = n
      · rw [if_pos q, q]
      · rw [if_neg q]
        exact a1.2.2.2.2 i (by omega)
  · intro i hi2
    rw [hU 182 (by decide), hU 183 (by decide), f182, f183]
    by_cases q : n * 6 ≤ i
    · have h9 := hwt i q (by omega)
      rw [if_pos (by omega), if_pos (by omega), h9.1, h9.2]
      exact ⟨rfl, rfl, by decide, by decide⟩
    · rw [if_neg (by omega), if_neg (by omega)]
      exact a2 i (by omega)
  · refine ⟨(hi 9 (by decide)).trans a3.1, a3.2.1, fun i hi2 => ?_, (hi 17 (by decide)).trans a3.2.2.2.1, a3.2.2.2.2.1, ?_, ?_⟩
    · exact fr i hi2
    · rw [hl 189 (by decide)]
      exact a3.2.2.2.2.2.1
    · rw [hc 190 (by decide)]
      exact a3.2.2.2.2.2.2
  · intro i hi2
    rw [hU 184 (by decide), f184]
    by_cases q : i = n
    · rw [if_pos q, q, fup_at]
    · rw [if_neg q, fup_ne q]
      exact a4 i (by omega)
  · exact Or.inl ⟨rfl, rI_at⟩
  · refine ⟨(hi 19 (by decide)).trans a6.1, fun i hi2 => ?_⟩
    rw [hc 191 (by decide), a6.2 i hi2]
    unfold val
    rw [px_le (by omega), fup_ne (by omega)]
  · rw [hl 179 (by decide)]
    exact a7
  · unfold mT at *
    rw [hi 13 (by decide), hc 188 (by decide)]
    exact a8
  · unfold tbM at *
    rw [hi 44 (by decide), hc 201 (by decide)]
    exact a9
  · rw [hi 14 (by decide)]
    exact a10
theorem mCh_eq {x : Nat} : ∃ T M, T = wI (wI (wI (wI (mSp S Fn (pr sz n) (pr sz n * x) fn) 180 n x) 181 n (pr sz n : Nat)) 179 4 ((pr sz n * x : Nat) : Int)) 184 n (n : Nat) ∧ M = mW1 T n 6 ∧ mCh S Fn n sz fn x = wI (wI M 179 1 ((n + 1 : Nat) : Int)) 179 42 (-1) := ⟨_, _, rfl, rfl, rfl⟩
theorem MI_ch {x : Nat} (h : MI S n sz wt ro fn Fn nc rn rof ord sd tr tn up lo y s L kz) (hx : 2 ≤ x ∧ x ≤ 6) (hn : n < 10) (hT : pr sz n * x ≤ 1024) (hwt : ∀ i, n * 6 ≤ i → i < 60 → wt i = 1 ∧ ro i = false) (htn : tn ≤ n) : MI (mCh S Fn n sz fn x) (n + 1) (fup sz n x) wt ro fn (fun i => xT (pr sz n) (pr sz n * x) (Fn i)) nc rn rof (fup ord n n) none tr tn up lo y s L kz ∧ frMo S (mCh S Fn n sz fn x) := by
  obtain ⟨T, M, hTT, hM, hE⟩ := mCh_eq (S := S) (Fn := Fn) (n := n) (sz := sz) (fn := fn) (x := x)
  rw [hE]
  exact MI_chM h hx hn hT hwt htn (mCh_ok hTT hM)
theorem P_Choice {x : Int} (hJ : JI S) (hx : rg x) : PSi X 120 171 [.ref 0, .int (iI x)] [.ref 179, .int (iI x)] S := by
  obtain ⟨n, sz, wt, ro, fn, Fn, nm, ord, sd, tr, tn, up, lo, Z, y0, s, L, m, kz, nc, rn, rof, hK, hM, hR⟩ := hJ
  have htb := CI_tb hK.1
  refine sM.deeper (sM.weaken (k_Choice hK.1 hx) ?_) (by decide)
  rintro r S1 ⟨h0, h2, h3, h4⟩
  have h1 := MI_X hM h4
  refine ⟨_, h0, sM.deeper (sM_of (m_choice h1.1 h1.2.2.1.1 h1.2.2.1.2.1 h1.2.2.1.2.2.1 htb hx) ⟨rfl, ?_⟩) (by decide)⟩
  by_cases c : okChoice n sz x
  · rw [if_pos c]
    obtain ⟨q, rfl⟩ : ∃ q : Nat, x = ((q : Nat) : Int) := ⟨x.toNat, by omega⟩
    obtain ⟨r1, r2, r3, r4, r5⟩ := hR
    have hT : pr sz n * q ≤ 1024 := by
      have := c.2.2
      rw [← Int.natCast_mul] at this
      omega
    have hc1 := c.1
    have hch := MI_ch h1 (x := q) (by omega) c.2.1 hT r3 r4.2.2.2.2
    exact J_of (KI_Mo (KI_X hK h4 (h2 c)) hch.2) hch.1 ⟨r1, r2, fun i hi hi2 => r3 i (by omega) hi2, ⟨r4.1, r4.2.1, r4.2.2.1, r4.2.2.2.1, by omega⟩, r5⟩
  · rw [if_neg c]
    exact J_of (KI_X hK h4 (h3 c)) h1 hR
theorem MI_E {S' : ST} {fn' nc' : Nat} {Fn' : Nat → Nat → Bool} {rn' : Nat → Int64} {rof' : Nat → Nat} {k' : Int} (h : MI S n sz wt ro fn Fn nc rn rof ord sd tr tn up lo y s L kz) (f : frE S S') (h13 : SI S' 179 13 = 0) (h14 : SI S' 179 14 = k') (hF : mFn S' fn' Fn' nc' rn' rof') : MI S' n sz wt ro fn' Fn' nc' rn' rof' ord sd tr tn up lo y 0 L k' := by
  have hi : ∀ j, (j < 9 ∨ (14 < j ∧ j < 17) ∨ (17 < j ∧ j < 22) ∨ 34 < j) → SI S' 179 j = SI S 179 j := fun j hj => f.2.2.2.1 j (by omega)
  have hc : ∀ c, c ≠ 179 ∧ c ≠ 193 ∧ c ≠ 194 ∧ c ≠ 190 → SI S' c = SI S c := fun c hc => f.2.2.1 c hc.1 hc.2.1 hc.2.2.1 hc.2.2.2
  have hl : ∀ c, c ≠ 179 ∧ c ≠ 185 ∧ c ≠ 186 ∧ c ≠ 189 ∧ c ≠ 192 → SL S' c = SL S c := fun c hc => f.2.2.2.2.1 c hc.1 hc.2.1 hc.2.2.1 hc.2.2.2.1 hc.2.2.2.2
  obtain ⟨a1, a2, a3, a4, a5, a6, a7, a8, a9, a10⟩ := h
  refine ⟨?_, ?_, ?_, ?_, ?_, ?_, ?_, ?_, ?_, ?_⟩
  · unfold vM at *
    rw [hi 1 (by decide), hi 4 (by decide), hc 180 (by decide), hc 181 (by decide)]
    exact a1
  · unfold wM at *
    rw [hc 182 (by decide), hc 183 (by decide)]
    exact a2
  · exact hF
  · unfold oM at *
    rw [hc 184 (by decide)]
    exact a4
  · unfold mSd rowS at *
    rw [hi 42 (by decide), hl 200 (by decide)]
    exact a5
  · rw [hi 19 (by decide), hc 191 (by decide)]
    exact a6
  · rw [f.2.2.2.2.2 20 (by decide), f.2.2.2.2.2 21 (by decide)]
    exact a7
  · exact ⟨Nat.zero_le _, a8.2.1, h13, fun j hj => absurd hj (Nat.not_lt_zero _)⟩
  · unfold tbM at *
    rw [hi 44 (by decide), hc 201 (by decide)]
    exact a9
  · exact h14
theorem frMo_E {S' : ST} (f : frE S S') : frMo S S' := ⟨f.1, fun c hc => ⟨f.2.2.1 c (by omega) (by omega) (by omega) (by omega), f.2.2.2.2.1 c (by omega) (by omega) (by omega) (by omega) (by omega), by rw [f.2.1]⟩⟩
theorem P_Read (hJ : JI S) (hY : SYM X) : PSi X 136 210 [.ref 0] [.ref 179] S := by
  obtain ⟨n, sz, wt, ro, fn, Fn, nm, ord, sd, tr, tn, up, lo, Z, y0, s, L, m, kz, nc, rn, rof, hK, hM, hR⟩ := hJ
  have htb := CI_tb hK.1
  refine sM.deeper (sM.weaken (k_Read hK.1 hY hK.2.1) ?_) (by decide)
  rintro r S1 ⟨C, hag, hf, h64, hA, hB⟩
  have h1 := MI_V hM hf
  obtain ⟨r1, r2, r3, r4, r5, r6⟩ := hR
  have ht1 : tp S1 y0 0 := ⟨Nat.zero_le _, hK.2.1.2.1, h64, fun j hj => absurd hj (Nat.not_lt_zero _)⟩
  have hm := m_read (X := X) (C := C) h1.1 h1.2.2.2.2.2.2.2.1 h1.2.2.1 r1 r2 htb hag
  generalize tx (tk y0 s) C n sz fn Fn nm (nTx (tk y0 s) C n sz fn Fn nm) = Q at *
  by_cases c : Q.1 = 0
  · obtain ⟨b1, b2, b3⟩ := hA c
    refine ⟨_, b1, sM.deeper (sM.weaken hm ?_) (by decide)⟩
    rintro r2' S2 ⟨g1, g2, g3, _⟩
    obtain ⟨g4, g5, rn', rof', g6, g7⟩ := g3 c
    refine ⟨g4, J_of (KI_Mo (y := y0) (s := 0) ⟨b3, ht1, sbB_V hK.2.2.1 hf, b2⟩ (frMo_E g1)) (MI_E h1 g1 g2 g5 g6) ⟨g7, by omega, r3, r4, r5, by decide, by decide⟩⟩
  · obtain ⟨b1, b2, b3⟩ := hB c
    refine ⟨_, b1, sM.deeper (sM.weaken hm ?_) (by decide)⟩
    rintro r2' S2 ⟨g1, g2, _, g3⟩
    obtain ⟨g4, g5, g0, g6⟩ := g3 c
    refine ⟨g4, J_of (KI_Mo (y := y0) (s := 0) ⟨b3, ht1, sbB_V hK.2.2.1 hf, b2⟩ (frMo_E g1)) (MI_E h1 g1 g2 g5 g6) ⟨r1, r2, r3, r4, r5, by omega, by omega⟩⟩
theorem P_Named (hJ : JI S) (hY : SYM X) : PSi X 138 212 [.ref 0] [.ref 179] S := by
  obtain ⟨n, sz, wt, ro, fn, Fn, nm, ord, sd, tr, tn, up, lo, Z, y0, s, L, m, kz, nc, rn, rof, hK, hM, hR⟩ := hJ
  refine sM.deeper (sM.weaken (k_Named hK.1 hY hK.2.1) ?_) (by decide)
  rintro r S1 ⟨b1, b3, hf, h64, b2⟩
  have h1 := MI_V hM hf
  have hR0 := hR
  obtain ⟨r1, r2, r3, r4, r5, r6⟩ := hR
  have ht1 : tp S1 y0 0 := ⟨Nat.zero_le _, hK.2.1.2.1, h64, fun j hj => absurd hj (Nat.not_lt_zero _)⟩
  refine ⟨_, b1, sM.deeper (sM.weaken (m_named h1.2.2.2.2.2.2.2.1 h1.2.2.1 r1 h1.2.2.2.2.2.2.2.2.2 r6) ?_) (by decide)⟩
  rintro r2' S2 ⟨g4, g1, g2, g5, g6⟩
  exact ⟨g4, J_of (KI_Mo (y := y0) (s := 0) ⟨b3, ht1, sbB_V hK.2.2.1 hf, b2.trans hK.2.2.2⟩ (frMo_E g1)) (MI_E h1 g1 g2 g5 g6) hR0⟩
end JF
