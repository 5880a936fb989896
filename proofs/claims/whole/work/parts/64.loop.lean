/-! ===== xl_: the law's loop, over any invariant ===== -/
theorem xl_sub6 {L : Nat} (hL : L ≤ 384) : (nI L - nI 6).toInt = (L : Int) - 6 := pk_sub_toInt (by omega) (by omega)
theorem xl_cmp {i L : Nat} (hL : L ≤ 384) (hi : i ≤ 384) : (nI L - nI 6 < nI i) ↔ L < i + 6 := by
  rw [Int32.lt_iff_toInt_lt, xl_sub6 hL, nI_toInt (by omega)]
  omega
set_option maxRecDepth 100000 in
/-- at the loop's head: another round, or the end -/
theorem xl_head {X : List Int32} {i : Nat} {h : xx_H} {K : Nat → xx_L → List Value → xx_H → Prop} (hL : X.length ≤ 384) (hi : i ≤ 384) (ke : X.length < i + 6 → K 1536 (xl_l (nI i)) [.int 1] h) (kr : i + 6 ≤ X.length → xv_T (xt_P X) 7 xe_L 33 (xl_l (nI i)) [] h K) : xv_T (xt_P X) 7 xe_L 23 (xl_l (nI i)) [] h K := by
  refine xv_loc (i := .iload 4) (len := 2) (q := 0) (ns := false) rfl rfl ?_
  refine xv_loc (i := .aload_n 0) (len := 1) (q := 0) (ns := false) rfl rfl ?_
  refine xv_hp (i := .arraylength) (len := 1) (q := 0) (ns := false) rfl rfl ?_
  refine xv_loc (i := .bipush 6) (len := 2) (q := 0) (ns := false) rfl rfl ?_
  refine xv_loc (i := .isub) (len := 1) (q := 0) (ns := false) rfl rfl ?_
  refine xv_icmp (c := .gt) (o := 1505) (len := 3) (q := 1535) (ns := false) rfl (fun c1 => ?_) (fun c1 => ?_)
  · have c1 : nI X.length - nI 6 < nI i := of_decide_eq_true c1
    refine xv_loc (i := .iconst 1) (len := 1) (q := 0) (ns := false) rfl (pc' := 1536) (ls' := xl_l (nI i)) (st' := [.int 1]) rfl ?_
    exact xv_here (ke ((xl_cmp hL hi).mp c1))
  · have c1 : ¬ nI X.length - nI 6 < nI i := of_decide_eq_false c1
    exact kr (Nat.le_of_not_lt (fun z => c1 ((xl_cmp hL hi).mpr z)))
section XLL
variable {p : Program} {l : Launch} {e : Env} {s : State} {m : MethodId} {below : List Frame} {meth : Method} {c : Code} {b L : Nat} {xs : Nat → Int32} {D : va_G} {cs : Nat → ClassId}
/-- fewer locals are known -/
theorem xe_At.locals {ls ls' : xx_L} {st : List Value} {h : xx_H} {H : Heap} {locs : List Loc} {L0 : Array Slot} {as : List Nat} (hat : xe_At s b D cs ls st h H locs L0 as) (hlen : ls'.length = 7) (hsub : ∀ (i : Nat) (v : Value), ls'[i]? = some (some v) → ls[i]? = some (some v)) : xe_At s b D cs ls' st h H locs L0 as := by
  obtain ⟨h1, h2, h3, h4, h5, h6, h7, h8⟩ := hat
  refine ⟨h1, h2, h3, h4, h5, h6, fun v hv => ?_, h8.1, h8.2.1, hlen, fun i v hi => h8.2.2.2 i v (hsub i v hi)⟩
  obtain ⟨i, hi⟩ := List.getElem?_of_mem hv
  exact h7 v (List.mem_of_getElem? (hsub i v hi))
/-- the law's end -/
theorem xl_end (C0 : lw_At p s m meth c b L xs) {ls : xx_L} {h : xx_H} {H : Heap} {locs : List Loc} {L0 : Array Slot} {as : List Nat} {cells slots : Nat} (hat : xe_At s b D cs ls [.int 1] h H locs L0 as) (hc : cells ≤ 600128) (hs : slots ≤ 7301098) : W p l e room_1 s m #[Value.ref b] below meth c H locs cells slots (lw_Z below #[Value.ref b] s) (F0 m 1536 L0 [.int 1]) := by
  obtain ⟨hx, hb, hr0, hml, hown, hts, hX, hbl, hlocks, hgv⟩ := id C0
  obtain ⟨h1, h2, h3, h4, h5, h6, h7, h8⟩ := hat
  refine va_forget (fun q hq => h3.2.2 q hq) ?_
  refine W.widen hc hs ?_
  exact lw_ret hx hb hr0 hlocks (by decide +kernel)
/-- THE LOOP: an invariant of the heap behind k rounds, with bounds on what was made; a round keeps it -/
theorem xl_loop (C0 : lw_At p s m meth c b L xs) (hL : L ≤ 384) (hK : va_K D vwCl (xx_ty cs) s) (Inv : Nat → xx_H → Prop) (cB sB : Nat → Nat) (hcB : ∀ k, k ≤ 64 → cB k ≤ 600128) (hsB : ∀ k, k ≤ 64 → sB k ≤ 7301098)
    (round : ∀ (k : Nat) (h : xx_H) (H : Heap) (locs : List Loc) (L0 : Array Slot) (as : List Nat) (cells slots : Nat), 6 * k + 6 ≤ L → Inv k h → cells ≤ cB k → slots ≤ sB k → xe_At s b D cs (xl_l (nI (6 * k))) [] h H locs L0 as →
      (∀ (h' : xx_H) (H' : Heap) (locs' : List Loc) (L' : Array Slot) (as' : List Nat) (cells' slots' : Nat), Inv (k + 1) h' → cells' ≤ cB (k + 1) → slots' ≤ sB (k + 1) → xe_At s b D cs (xl_l (nI (6 * k + 6))) [] h' H' locs' L' as' → W p l e room_1 s m #[Value.ref b] below meth c H' locs' cells' slots' (lw_Z below #[Value.ref b] s) (F0 m 23 L' [])) →
      W p l e room_1 s m #[Value.ref b] below meth c H locs cells slots (lw_Z below #[Value.ref b] s) (F0 m 33 L0 [])) :
    ∀ (n k : Nat) (h : xx_H) (H : Heap) (locs : List Loc) (L0 : Array Slot) (as : List Nat) (cells slots : Nat), k + n = 65 → 6 * k ≤ 384 → Inv k h → cells ≤ cB k → slots ≤ sB k → xe_At s b D cs (xl_l (nI (6 * k))) [] h H locs L0 as → W p l e room_1 s m #[Value.ref b] below meth c H locs cells slots (lw_Z below #[Value.ref b] s) (F0 m 23 L0 [])
  | 0, k, h, H, locs, L0, as, cells, slots, hkn, hk, hI, hc, hs, hat => by omega
  | n + 1, k, h, H, locs, L0, as, cells, slots, hkn, hk, hI, hc, hs, hat => by
    have hlen : ((List.range L).map xs).length = L := by rw [List.length_map, List.length_range]
    refine xe_T (K := fun pc ls st h' => ls = xl_l (nI (6 * k)) ∧ h' = h ∧ ((pc = 1536 ∧ st = [.int 1]) ∨ (pc = 33 ∧ st = [] ∧ 6 * k + 6 ≤ L))) C0 hK (show 7 ≤ 1300 by decide) (xl_head (by rw [hlen]; exact hL) hk (fun _ => ⟨rfl, rfl, Or.inl ⟨rfl, rfl⟩⟩) (fun hr => xv_here ⟨rfl, rfl, Or.inr ⟨rfl, rfl, by rw [hlen] at hr; exact hr⟩⟩)) ?_ hat ?_
    · rintro _ _ _ _ ⟨rfl, rfl, -⟩
      have h1 := hcB k (by omega)
      have h2 := hsB k (by omega)
      refine ⟨?_, ?_⟩
      · show _ ≤ 600128 + _
        omega
      · show _ ≤ 7301098 + _
        omega
    · rintro pc' ls' st' h' H' locs' cells' slots' L' as' ⟨rfl, rfl, ⟨rfl, rfl⟩ | ⟨rfl, rfl, hr⟩⟩ ec es hat'
      · have h1 := hcB k (by omega)
        have h2 := hsB k (by omega)
        exact xl_end C0 hat' (by omega) (by omega)
      · refine round k _ H' locs' L' as' cells' slots' hr hI (by omega) (by omega) hat' (fun h2 H2 locs2 L2 as2 cells2 slots2 hI2 hc2 hs2 hat2 => ?_)
        refine xl_loop C0 hL hK Inv cB sB hcB hsB round n (k + 1) h2 H2 locs2 L2 as2 cells2 slots2 (by omega) (by omega) hI2 hc2 hs2 ?_
        have e6 : 6 * (k + 1) = 6 * k + 6 := by omega
        rw [e6]
        exact hat2
end XLL
