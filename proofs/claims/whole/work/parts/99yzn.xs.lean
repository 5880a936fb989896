/-! ===== the helpers come to their calls ===== -/
section HG
variable {X : List Int32} {S : ST}
theorem g_feed {a b c e f : Int} : sT X 200 338 0 [some (.ref 0), some (.int (iI a)), some (.int (iI b)), some (.int (iI c)), some (.int (iI e)), some (.int (iI f)), some (.ref 202), none] [] S (fun pc _ st T => pc = 11 ∧ st = [.int (iI f), .int (iI e), .int (iI c), .int (iI b), .int (iI a), .ref 0, .int (iI 0), .ref 202] ∧ T = S) := by
  refine sL (pc' := 2) (i := .aload 6) rfl rfl ?_
  refine sKi (p := 3) rfl rfl ?_
  refine sL (pc' := 4) (i := .aload_n 0) rfl rfl ?_
  refine sL (pc' := 5) (i := .iload_n 1) rfl rfl ?_
  refine sL (pc' := 6) (i := .iload_n 2) rfl rfl ?_
  refine sL (pc' := 7) (i := .iload_n 3) rfl rfl ?_
  refine sL (pc' := 9) (i := .iload 4) rfl rfl ?_
  refine sL (pc' := 11) (i := .iload 5) rfl rfl ?_
  exact sHe ⟨rfl, rfl, rfl⟩
theorem g_end {a : Int} : sT X 200 339 0 [some (.ref 0), some (.int (iI a)), none] [] S (fun pc _ st T => pc = 2 ∧ st = [.int (iI a), .ref 0] ∧ T = S) := by
  refine sL (pc' := 1) (i := .aload_n 0) rfl rfl ?_
  refine sL (pc' := 2) (i := .iload_n 1) rfl rfl ?_
  exact sHe ⟨rfl, rfl, rfl⟩
theorem g_odds {a b : Int} : sT X 200 340 0 [some (.ref 0), some (.int (iI a)), some (.int (iI b)), some (.ref 202), none] [] S (fun pc _ st T => pc = 5 ∧ st = [.int (iI b), .int (iI a), .ref 0, .int (iI 0), .ref 202] ∧ T = S) := by
  refine sL (pc' := 1) (i := .aload_n 3) rfl rfl ?_
  refine sKi (p := 2) rfl rfl ?_
  refine sL (pc' := 3) (i := .aload_n 0) rfl rfl ?_
  refine sL (pc' := 4) (i := .iload_n 1) rfl rfl ?_
  refine sL (pc' := 5) (i := .iload_n 2) rfl rfl ?_
  exact sHe ⟨rfl, rfl, rfl⟩
end HG
section XS
variable {p : Program} {l : Launch} {e : Env} {s : State} {m : MethodId} {below : List Frame} {meth : Method} {c : Code} {bb L : Nat} {xs : Nat → Int32} {D : va_G} {cs : Nat → ClassId}
set_option maxRecDepth 100000 in
theorem xs_feed (hl0 : l.stackTraces = false) (C0 : lw_At p s m meth c bb L xs) (hL : L ≤ 384) (hK : va_K D vwCl (xx_ty cs) s) : xSpec p l e s m below meth c bb L D cs 801 := by
  intro k h H locs L0 as cells slots hk64 hk hI hat kk
  obtain ⟨S, rfl, hJ, hc, hs⟩ := hI
  have hlen : ((List.range L).map xs).length = L := by rw [List.length_map, List.length_range]
  have hk' : 6 * k + 6 ≤ ((List.range L).map xs).length := by rw [hlen]; exact hk
  have hX' : ((List.range L).map xs).length ≤ 384 := by rw [hlen]; exact hL
  have hl : ∀ j : Nat, xl_l (nI j) = [some (.retAddr 0), some (.ref 0), some (.ref 179), some (.ref 202), some (.int (iI ((j : Nat) : Int))), none, none] := fun j => by rw [iI_nI]; rfl
  obtain ⟨z1, e1⟩ : ∃ z, (((List.range L).map xs).getD (6 * k + 1) 0).toInt = z := ⟨_, rfl⟩
  have r1 : rg z1 := by rw [← e1]; exact tI_rg _
  obtain ⟨z2, e2⟩ : ∃ z, (((List.range L).map xs).getD (6 * k + 2) 0).toInt = z := ⟨_, rfl⟩
  have r2 : rg z2 := by rw [← e2]; exact tI_rg _
  obtain ⟨z3, e3⟩ : ∃ z, (((List.range L).map xs).getD (6 * k + 3) 0).toInt = z := ⟨_, rfl⟩
  have r3 : rg z3 := by rw [← e3]; exact tI_rg _
  obtain ⟨z4, e4⟩ : ∃ z, (((List.range L).map xs).getD (6 * k + 4) 0).toInt = z := ⟨_, rfl⟩
  have r4 : rg z4 := by rw [← e4]; exact tI_rg _
  obtain ⟨z5, e5⟩ : ∃ z, (((List.range L).map xs).getD (6 * k + 5) 0).toInt = z := ⟨_, rfl⟩
  have r5 : rg z5 := by rw [← e5]; exact tI_rg _
  have hroom := JI_room hJ
  have hln := sh_len S
  have hsz := sz_tz S
  have q1 := lq_feed (S := S) (k := k) hk' hX' e1 e2 e3 e4 e5
  rw [← hl] at q1
  refine xe_T (st := []) C0 hK (show 170 ≤ 1300 by decide) q1 ?_ hat ?_
  · rintro pc' ls' st' h' ⟨T, rfl, -, -, -, hTS⟩
    rw [hTS]
    refine ⟨?_, ?_⟩
    · show _ ≤ 600128 + _
      omega
    · show _ ≤ 7301098 + _
      omega
  · rintro pc' ls' st' h' H' locs' cells' slots' L' as' ⟨T, rfl, rfl, rfl, rfl, hTS⟩ ec es hat'
    rw [hTS] at ec es hat'
    have ec' : cells' = cells := by omega
    have es' : slots' = slots := by omega
    subst ec'
    subst es'
    have hc0 : (0 : Nat) < (sH S).length := by omega
    have hc2 : (202 : Nat) < (sH S).length := by omega
    have ha : ∀ w ∈ ([.ref 0, .int (iI z1), .int (iI z2), .int (iI z3), .int (iI z4), .int (iI z5), .ref 202] : List Value), xx_okv (sH S).length false w := by
      intro w hw
      simp only [List.mem_cons, List.not_mem_nil, or_false] at hw
      rcases hw with rfl | rfl | rfl | rfl | rfl | rfl | rfl
      all_goals first | exact hc0 | exact hc2 | exact True.intro
    have ha2 : ∀ w ∈ ([.ref 0, .int (iI z1), .int (iI z2), .int (iI z3), .int (iI z4), .int (iI z5)] : List Value), xx_okv (sH S).length false w := by
      intro w hw
      simp only [List.mem_cons, List.not_mem_nil, or_false] at hw
      rcases hw with rfl | rfl | rfl | rfl | rfl | rfl
      all_goals first | exact hc0 | exact True.intro
    rcases J_feed (X := (List.range L).map xs) (a := z1) (b := z2) (c := z3) (e := z4) (f := z5) hJ with h1 | h1
    · obtain ⟨S1, ⟨v, hv, hm⟩, hS1, hM⟩ := xr_A (l := l) (D := D) (cs := cs) (b := xe_B bb s) (hh := [(0, 16, 19, 13)]) rfl (by decide +kernel) rfl h1 hat'.2.2.2.2.1 ha (Nat.le_of_ble_eq_true rfl)
      have p2 := lp_feed_k hv hk' hX' e1 e2 e3 e4 e5 hm
      rw [← hl] at p2
      exact xr_round (hq := 338) (hh := [(0, 16, 19, 13)]) (args := [.ref 0, .int (iI z1), .int (iI z2), .int (iI z3), .int (iI z4), .int (iI z5), .ref 202]) (pc := 833) (kx := 86) C0 hK hk64 xr_cw0 xr_ml0 xr_st0 xr_iL rfl (show 8 ≤ 45 by decide) (show (parseMethodDescriptor (xt_N 338).1.desc).map (fun d => d.parameters.length) = some 7 by decide +kernel) (by decide +kernel) hS1 hM ⟨by decide, by decide⟩ p2 hc hs hat' kk
    · obtain ⟨S1, hm, hS1, hM⟩ := xr_B (l := l) (D := D) (cs := cs) (b := xe_B bb s) (X := (List.range L).map xs) (S := S) (hq := 338) (q := 134) (args := [.ref 0, .int (iI z1), .int (iI z2), .int (iI z3), .int (iI z4), .int (iI z5), .ref 202]) (as9 := [.int (iI z1), .int (iI z2), .int (iI z3), .int (iI z4), .int (iI z5)]) (a := 0) (rest := [.int (iI 0), .ref 202]) (d := 200) (d' := 199) (i := 7) (ln := 2) (E := "java/lang/IllegalStateException") (ik := 175) (ic := 179) (is := 177) (text := "no room for twenty bytes") (s0 := 0) (e0 := 16) (h0 := 19) (t0 := 13) (pcC := 11) (pcT := 10) (k := 7) hl0 rfl (by decide +kernel) rfl (by decide +kernel) g_feed h1 rfl (by decide) rfl (by decide) (sh_ob (sk_0 S)) rfl (by decide) (by decide) (by decide +kernel) xr_in0 (fun h => h.2.2.1.1) (by decide +kernel) (by decide +kernel) (by decide +kernel) (by decide +kernel) (by decide +kernel) ⟨by decide, by decide⟩ (by decide) xr_ln0 xr_ca0 (show 7 < 8 by decide) (Or.inl ⟨by decide +kernel, rfl⟩) (by decide +kernel) (by decide +kernel) hat'.2.2.2.2.1 ha (Nat.le_of_ble_eq_true rfl) ha2 (Nat.le_of_ble_eq_true rfl)
      have p2 := lp_feed_t hk' hX' e1 e2 e3 e4 e5 hm
      rw [← hl] at p2
      exact xr_round (hq := 338) (hh := [(0, 16, 19, 13)]) (args := [.ref 0, .int (iI z1), .int (iI z2), .int (iI z3), .int (iI z4), .int (iI z5), .ref 202]) (pc := 833) (kx := 86) C0 hK hk64 xr_cw0 xr_ml0 xr_st0 xr_iL rfl (show 8 ≤ 45 by decide) (show (parseMethodDescriptor (xt_N 338).1.desc).map (fun d => d.parameters.length) = some 7 by decide +kernel) (by decide +kernel) hS1 hM ⟨by decide, by decide⟩ p2 hc hs hat' kk
set_option maxRecDepth 100000 in
theorem xs_end (hl0 : l.stackTraces = false) (C0 : lw_At p s m meth c bb L xs) (hL : L ≤ 384) (hK : va_K D vwCl (xx_ty cs) s) : xSpec p l e s m below meth c bb L D cs 905 := by
  intro k h H locs L0 as cells slots hk64 hk hI hat kk
  obtain ⟨S, rfl, hJ, hc, hs⟩ := hI
  have hlen : ((List.range L).map xs).length = L := by rw [List.length_map, List.length_range]
  have hk' : 6 * k + 6 ≤ ((List.range L).map xs).length := by rw [hlen]; exact hk
  have hX' : ((List.range L).map xs).length ≤ 384 := by rw [hlen]; exact hL
  have hl : ∀ j : Nat, xl_l (nI j) = [some (.retAddr 0), some (.ref 0), some (.ref 179), some (.ref 202), some (.int (iI ((j : Nat) : Int))), none, none] := fun j => by rw [iI_nI]; rfl
  obtain ⟨z1, e1⟩ : ∃ z, (((List.range L).map xs).getD (6 * k + 1) 0).toInt = z := ⟨_, rfl⟩
  have r1 : rg z1 := by rw [← e1]; exact tI_rg _
  have hroom := JI_room hJ
  have hln := sh_len S
  have hsz := sz_tz S
  have q1 := lq_end (S := S) (k := k) hk' hX' e1
  rw [← hl] at q1
  refine xe_T (st := []) C0 hK (show 170 ≤ 1300 by decide) q1 ?_ hat ?_
  · rintro pc' ls' st' h' ⟨T, rfl, -, -, -, hTS⟩
    rw [hTS]
    refine ⟨?_, ?_⟩
    · show _ ≤ 600128 + _
      omega
    · show _ ≤ 7301098 + _
      omega
  · rintro pc' ls' st' h' H' locs' cells' slots' L' as' ⟨T, rfl, rfl, rfl, rfl, hTS⟩ ec es hat'
    rw [hTS] at ec es hat'
    have ec' : cells' = cells := by omega
    have es' : slots' = slots := by omega
    subst ec'
    subst es'
    have hc0 : (0 : Nat) < (sH S).length := by omega
    have hc2 : (202 : Nat) < (sH S).length := by omega
    have ha : ∀ w ∈ ([.ref 0, .int (iI z1)] : List Value), xx_okv (sH S).length false w := by
      intro w hw
      simp only [List.mem_cons, List.not_mem_nil, or_false] at hw
      rcases hw with rfl | rfl
      all_goals first | exact hc0 | exact hc2 | exact True.intro
    have ha2 : ∀ w ∈ ([.ref 0, .int (iI z1)] : List Value), xx_okv (sH S).length false w := by
      intro w hw
      simp only [List.mem_cons, List.not_mem_nil, or_false] at hw
      rcases hw with rfl | rfl
      all_goals first | exact hc0 | exact True.intro
    rcases J_end (X := (List.range L).map xs) (x := z1) hJ r1 with h1 | h1
    · obtain ⟨S1, hm, hS1, hM⟩ := xr_A (l := l) (D := D) (cs := cs) (b := xe_B bb s) (hh := [(0, 5, 8, 19)]) rfl (by decide +kernel) rfl h1 hat'.2.2.2.2.1 ha (Nat.le_of_ble_eq_true rfl)
      have p2 := lp_end_k hk' hX' e1 hm
      rw [← hl] at p2
      exact xr_round (hq := 339) (hh := [(0, 5, 8, 19)]) (args := [.ref 0, .int (iI z1)]) (pc := 912) (kx := 96) C0 hK hk64 xr_cw1 xr_ml1 xr_st1 xr_iL rfl (show 3 ≤ 45 by decide) (show (parseMethodDescriptor (xt_N 339).1.desc).map (fun d => d.parameters.length) = some 2 by decide +kernel) (by decide +kernel) hS1 hM ⟨by decide, by decide⟩ p2 hc hs hat' kk
    · obtain ⟨S1, hm, hS1, hM⟩ := xr_B (l := l) (D := D) (cs := cs) (b := xe_B bb s) (X := (List.range L).map xs) (S := S) (hq := 339) (q := 135) (args := [.ref 0, .int (iI z1)]) (as9 := [.int (iI z1)]) (a := 0) (rest := []) (d := 200) (d' := 199) (i := 2) (ln := 1) (E := "java/lang/IllegalArgumentException") (ik := 188) (ic := 192) (is := 190) (text := "not so many bytes") (s0 := 0) (e0 := 5) (h0 := 8) (t0 := 19) (pcC := 2) (pcT := 15) (k := 15) hl0 rfl (by decide +kernel) rfl (by decide +kernel) g_end h1 rfl (by decide) rfl (by decide) (sh_ob (sk_0 S)) rfl (by decide) (by decide) (by decide +kernel) xr_in1 (fun h => h.2.2.1.2.1) (by decide +kernel) (by decide +kernel) (by decide +kernel) (by decide +kernel) (by decide +kernel) ⟨by decide, by decide⟩ (by decide) xr_ln1 xr_ca1 (show 2 < 3 by decide) (Or.inr ⟨2, by decide +kernel, rfl, rfl⟩) (by decide +kernel) (by decide +kernel) hat'.2.2.2.2.1 ha (Nat.le_of_ble_eq_true rfl) ha2 (Nat.le_of_ble_eq_true rfl)
      have p2 := lp_end_t hk' hX' e1 hm
      rw [← hl] at p2
      exact xr_round (hq := 339) (hh := [(0, 5, 8, 19)]) (args := [.ref 0, .int (iI z1)]) (pc := 912) (kx := 96) C0 hK hk64 xr_cw1 xr_ml1 xr_st1 xr_iL rfl (show 3 ≤ 45 by decide) (show (parseMethodDescriptor (xt_N 339).1.desc).map (fun d => d.parameters.length) = some 2 by decide +kernel) (by decide +kernel) hS1 hM ⟨by decide, by decide⟩ p2 hc hs hat' kk
set_option maxRecDepth 100000 in
theorem xs_odds (hl0 : l.stackTraces = false) (C0 : lw_At p s m meth c bb L xs) (hL : L ≤ 384) (hK : va_K D vwCl (xx_ty cs) s) : xSpec p l e s m below meth c bb L D cs 1205 := by
  intro k h H locs L0 as cells slots hk64 hk hI hat kk
  obtain ⟨S, rfl, hJ, hc, hs⟩ := hI
  have hlen : ((List.range L).map xs).length = L := by rw [List.length_map, List.length_range]
  have hk' : 6 * k + 6 ≤ ((List.range L).map xs).length := by rw [hlen]; exact hk
  have hX' : ((List.range L).map xs).length ≤ 384 := by rw [hlen]; exact hL
  have hl : ∀ j : Nat, xl_l (nI j) = [some (.retAddr 0), some (.ref 0), some (.ref 179), some (.ref 202), some (.int (iI ((j : Nat) : Int))), none, none] := fun j => by rw [iI_nI]; rfl
  obtain ⟨z1, e1⟩ : ∃ z, (((List.range L).map xs).getD (6 * k + 1) 0).toInt = z := ⟨_, rfl⟩
  have r1 : rg z1 := by rw [← e1]; exact tI_rg _
  obtain ⟨z2, e2⟩ : ∃ z, (((List.range L).map xs).getD (6 * k + 2) 0).toInt = z := ⟨_, rfl⟩
  have r2 : rg z2 := by rw [← e2]; exact tI_rg _
  have hroom := JI_room hJ
  have hln := sh_len S
  have hsz := sz_tz S
  have q1 := lq_odds (S := S) (k := k) hk' hX' e1 e2
  rw [← hl] at q1
  refine xe_T (st := []) C0 hK (show 170 ≤ 1300 by decide) q1 ?_ hat ?_
  · rintro pc' ls' st' h' ⟨T, rfl, -, -, -, hTS⟩
    rw [hTS]
    refine ⟨?_, ?_⟩
    · show _ ≤ 600128 + _
      omega
    · show _ ≤ 7301098 + _
      omega
  · rintro pc' ls' st' h' H' locs' cells' slots' L' as' ⟨T, rfl, rfl, rfl, rfl, hTS⟩ ec es hat'
    rw [hTS] at ec es hat'
    have ec' : cells' = cells := by omega
    have es' : slots' = slots := by omega
    subst ec'
    subst es'
    have hc0 : (0 : Nat) < (sH S).length := by omega
    have hc2 : (202 : Nat) < (sH S).length := by omega
    have ha : ∀ w ∈ ([.ref 0, .int (iI z1), .int (iI z2), .ref 202] : List Value), xx_okv (sH S).length false w := by
      intro w hw
      simp only [List.mem_cons, List.not_mem_nil, or_false] at hw
      rcases hw with rfl | rfl | rfl | rfl
      all_goals first | exact hc0 | exact hc2 | exact True.intro
    have ha2 : ∀ w ∈ ([.ref 0, .int (iI z1), .int (iI z2)] : List Value), xx_okv (sH S).length false w := by
      intro w hw
      simp only [List.mem_cons, List.not_mem_nil, or_false] at hw
      rcases hw with rfl | rfl | rfl
      all_goals first | exact hc0 | exact True.intro
    rcases J_odds (X := (List.range L).map xs) (x := z1) (q := z2) hJ r1 r2 with h1 | h1
    · obtain ⟨S1, ⟨v, hv, hm⟩, hS1, hM⟩ := xr_A (l := l) (D := D) (cs := cs) (b := xe_B bb s) (hh := [(0, 10, 13, 25)]) rfl (by decide +kernel) rfl h1 hat'.2.2.2.2.1 ha (Nat.le_of_ble_eq_true rfl)
      have p2 := lp_odds_k hv hk' hX' e1 e2 hm
      rw [← hl] at p2
      exact xr_round (hq := 340) (hh := [(0, 10, 13, 25)]) (args := [.ref 0, .int (iI z1), .int (iI z2), .ref 202]) (pc := 1219) (kx := 145) C0 hK hk64 xr_cw2 xr_ml2 xr_st2 xr_iL rfl (show 5 ≤ 45 by decide) (show (parseMethodDescriptor (xt_N 340).1.desc).map (fun d => d.parameters.length) = some 4 by decide +kernel) (by decide +kernel) hS1 hM ⟨by decide, by decide⟩ p2 hc hs hat' kk
    · obtain ⟨S1, hm, hS1, hM⟩ := xr_B (l := l) (D := D) (cs := cs) (b := xe_B bb s) (X := (List.range L).map xs) (S := S) (hq := 340) (q := 148) (args := [.ref 0, .int (iI z1), .int (iI z2), .ref 202]) (as9 := [.int (iI z1), .int (iI z2)]) (a := 0) (rest := [.int (iI 0), .ref 202]) (d := 200) (d' := 199) (i := 4) (ln := 2) (E := "java/lang/ArithmeticException") (ik := 250) (ic := 254) (is := 252) (text := "what is given has no weight") (s0 := 0) (e0 := 10) (h0 := 13) (t0 := 25) (pcC := 5) (pcT := 72) (k := 21) hl0 rfl (by decide +kernel) rfl (by decide +kernel) g_odds h1 rfl (by decide) rfl (by decide) (sh_ob (sk_0 S)) rfl (by decide) (by decide) (by decide +kernel) xr_in2 (fun h => h.2.2.1.2.2) (by decide +kernel) (by decide +kernel) (by decide +kernel) (by decide +kernel) (by decide +kernel) ⟨by decide, by decide⟩ (by decide) xr_ln2 xr_ca2 (show 4 < 5 by decide) (Or.inl ⟨by decide +kernel, rfl⟩) (by decide +kernel) (by decide +kernel) hat'.2.2.2.2.1 ha (Nat.le_of_ble_eq_true rfl) ha2 (Nat.le_of_ble_eq_true rfl)
      have p2 := lp_odds_t hk' hX' e1 e2 hm
      rw [← hl] at p2
      exact xr_round (hq := 340) (hh := [(0, 10, 13, 25)]) (args := [.ref 0, .int (iI z1), .int (iI z2), .ref 202]) (pc := 1219) (kx := 145) C0 hK hk64 xr_cw2 xr_ml2 xr_st2 xr_iL rfl (show 5 ≤ 45 by decide) (show (parseMethodDescriptor (xt_N 340).1.desc).map (fun d => d.parameters.length) = some 4 by decide +kernel) (by decide +kernel) hS1 hM ⟨by decide, by decide⟩ p2 hc hs hat' kk
end XS
