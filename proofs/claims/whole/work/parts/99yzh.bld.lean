/-! ===== rules: constants beside the heap, copies of bytes ===== -/
section KR
variable {X : List Int32} {d d0 m pc p len q : Nat} {ns : Bool} {ls : xx_L} {st r : List Value} {S : ST} {K : Nat → xx_L → List Value → ST → Prop} {Q1 : Option Value → ST → Prop}
theorem sNp (he : ((xt_P X).1 m).1 pc = some (.nop, len, q, ns)) (hp : pc + len = p) (hq : q ≠ 0) (kk : sT X d m p ls (.retAddr q :: st) S K) : sT X d m pc ls st S K := by
  subst hp
  exact xv_hp he (st' := .retAddr q :: st) (h1 := sH S) (by show (if q = 0 then none else _) = _; rw [if_neg hq]) kk
theorem sGs {k : Nat} (he : ((xt_P X).1 m).1 pc = some (.getstatic k, len, q, ns)) (hp : pc + len = p) (kk : sT X d m p ls (.int (iI (q : Int)) :: st) S K) : sT X d m pc ls st S K := by
  subst hp
  rw [iI_nI] at kk
  exact xv_hp he (st' := .int (nI q) :: st) (h1 := sH S) rfl kk
theorem sKg0 {k : Nat} (he : ((xt_P X).1 m).1 pc = some (.getfield k, len, q, ns)) (hp : pc + len = p) (hq : q = 0) (kk : sT X d m p ls (.retAddr 4 :: r) S K) : sT X d m pc ls (.retAddr 3 :: r) S K := by
  subst hp hq
  exact xv_hp he (st' := .retAddr 4 :: r) (h1 := sH S) rfl kk
theorem sKg1 {k : Nat} (he : ((xt_P X).1 m).1 pc = some (.getfield k, len, q, ns)) (hp : pc + len = p) (hq : q = 1) (kk : sT X d m p ls (.int (iI 0) :: r) S K) : sT X d m pc ls (.retAddr 3 :: r) S K := by
  subst hp hq
  exact xv_hp he (st' := .int (iI 0) :: r) (h1 := sH S) rfl kk
theorem sKy {k j : Nat} {l : List Int32} {z y : Int} (he : ((xt_P X).1 m).1 pc = some (.baload, len, q, ns)) (hp : pc + len = p) (hk : xx_kb k = some l) (hz : z = (j : Int)) (hy : l[j]? = some (iI y) ∧ j < 2147483648) (kk : sT X d m p ls (.int (iI y) :: r) S K) : sT X d m pc ls (.int (iI z) :: .retAddr k :: r) S K := by
  subst hp hz
  refine xv_hp he (st' := .int (iI y) :: r) (h1 := sH S) ?_ kk
  show (xx_kb k).bind _ = _
  rw [hk]
  show (xx_at l (iI (j : Int))).bind _ = _
  rw [xx_at_iI hy.2, hy.1]
  rfl
theorem sKn {k n : Nat} {l : List Int32} (he : ((xt_P X).1 m).1 pc = some (.arraylength, len, q, ns)) (hp : pc + len = p) (hk : xx_kb (k + 1) = some l) (hn : l.length = n) (kk : sT X d m p ls (.int (iI (n : Int)) :: r) S K) : sT X d m pc ls (.retAddr (k + 1) :: r) S K := by
  subst hp hn
  rw [iI_nI] at kk
  refine xv_hp he (st' := .int (nI l.length) :: r) (h1 := sH S) ?_ kk
  show (xx_kb (k + 1)).bind _ = _
  rw [hk]
  rfl
theorem sSh0 {a : Int} (he : ((xt_P X).1 m).1 pc = some (.ishl, len, q, ns)) (hp : pc + len = p) (_ : rg a) (kk : sT X d m p ls (.int (iI a) :: r) S K) : sT X d m pc ls (.int (iI 0) :: .int (iI a) :: r) S K := by
  subst hp
  refine sL he (pc' := pc + len) (ls' := ls) (st' := .int (iI a <<< (iI 0 &&& 31)) :: r) rfl ?_
  rw [show (iI 0 &&& 31 : Int32) = 0 from by decide, Int32.shiftLeft_zero]
  exact kk
theorem sSr0 {a : Int} (he : ((xt_P X).1 m).1 pc = some (.ishr, len, q, ns)) (hp : pc + len = p) (ha : rg a) (kk : sT X d m p ls (.int (iI a) :: r) S K) : sT X d m pc ls (.int (iI 0) :: .int (iI a) :: r) S K := sSr 0 he hp ha rfl (by decide) (by show a = a / 1; omega) kk
theorem i8_s : ∀ c : Nat, c < 128 → (iI ((c : Nat) : Int)).toInt8.toInt32 = iI ((c : Nat) : Int) := by decide +kernel
theorem i16_s : ∀ c : Nat, c < 256 → ((iI ((c : Nat) : Int)).toUInt32 % 65536).toInt32 = iI ((c : Nat) : Int) := by decide +kernel
theorem sI2b {a z : Int} (he : ((xt_P X).1 m).1 pc = some (.i2b, len, q, ns)) (hp : pc + len = p) (hz : (iI a).toInt8.toInt32 = iI z) (kk : sT X d m p ls (.int (iI z) :: r) S K) : sT X d m pc ls (.int (iI a) :: r) S K := by
  subst hp
  rw [← hz] at kk
  exact sL he rfl kk
theorem sI2c {a : Nat} (he : ((xt_P X).1 m).1 pc = some (.i2c, len, q, ns)) (hp : pc + len = p) (ha : a < 256) (kk : sT X d m p ls (.int (iI ((a : Nat) : Int)) :: r) S K) : sT X d m pc ls (.int (iI ((a : Nat) : Int)) :: r) S K := by
  subst hp
  rw [← i16_s a ha] at kk
  exact sL he rfl kk
theorem iI_divn {a b : Int} (ha : 0 ≤ a) (ha2 : a < 2147483648) (hb : 0 < b) (hb2 : b < 2147483648) : iI (- a) / iI b = iI (- (a / b)) := by
  have h1 : 0 ≤ a / b := Int.ediv_nonneg ha (by omega)
  have h2 : a / b ≤ a := Int.ediv_le_self b ha
  rw [← Int32.toInt_inj, Int32.toInt_div, iI_toInt ⟨by omega, by omega⟩, iI_toInt ⟨by omega, hb2⟩, iI_toInt ⟨by omega, by omega⟩, Int.neg_tdiv, Int.tdiv_eq_ediv_of_nonneg ha]
  exact Int.bmod_eq_of_le (by omega) (by omega)
theorem sDn {a b : Int} (he : ((xt_P X).1 m).1 pc = some (.idiv, len, q, ns)) (hp : pc + len = p) (ha : 0 ≤ a ∧ a < 2147483648) (hb : 0 < b ∧ b < 2147483648) (k : sT X d m p ls (.int (iI (- (a / b))) :: r) S K) : sT X d m pc ls (.int (iI b) :: .int (iI (- a)) :: r) S K := by
  subst hp
  have hb0 : ¬ iI b = 0 := fun z => by
    have := (iI_eq (b := 0) ⟨by omega, hb.2⟩ ⟨by omega, by omega⟩).mp z
    omega
  rw [← iI_divn ha.1 ha.2 hb.1 hb.2] at k
  exact xv_loc he (if_neg hb0) k
theorem xv_cK {P : xx_P} {h : xx_H} {Q : Nat → xx_L → List Value → xx_H → Prop} {k : Nat} {as rest : List Value} {Q2 : Option Value → xx_H → Prop} (he : (P.1 m).1 pc = some (.invokevirtual k, len, q, ns)) (hst : st = as.reverse ++ .retAddr 3 :: rest) (hn : (P.1 q).2.2.1 = as.length + 1) (hq : 10 ≤ q) (h8 : (rest.map Value.category).sum ≤ 8) (hsc : as.any xx_sc = false) (hfl : (xx_flat (.retAddr 3 :: as)).length ≤ (P.1 q).2.1) (hc : (P.1 q).2.2.2.2 = 1)
    (k1 : xv_M P d q (.retAddr 3 :: as) h Q2) (kk : ∀ v h1, Q2 v h1 → xv_T P (d + 1) m (pc + len) ls (v.toList ++ rest) h1 Q) : xv_T P (d + 1) m pc ls st h Q := by
  have e1 : st.take (as.length + 1) = as.reverse ++ [.retAddr 3] := by
    rw [hst, List.take_append, List.length_reverse, Nat.add_sub_cancel_left, List.take_of_length_le (by rw [List.length_reverse]; omega)]
    rfl
  have e2 : st.drop (as.length + 1) = rest := by
    rw [hst, List.drop_append, List.length_reverse, Nat.add_sub_cancel_left, List.drop_eq_nil_of_le (by rw [List.length_reverse]; omega)]
    rfl
  have e3 : st.length = as.length + 1 + rest.length := by
    rw [hst, List.length_append, List.length_reverse, List.length_cons]
    omega
  have fl : (xx_flat (as.reverse ++ [.retAddr 3])).length = (xx_flat (.retAddr 3 :: as)).length := by
    have : as.reverse ++ [Value.retAddr 3] = (.retAddr 3 :: as).reverse := by rw [List.reverse_cons]
    rw [this]
    unfold xx_flat
    rw [List.length_flatMap, List.length_flatMap, List.map_reverse, List.sum_reverse]
  refine xv_call he rfl (y := q) (as := .retAddr 3 :: as) (st' := rest) ?_ k1 kk
  unfold xx_call
  rw [hn, e1, e2, fl, if_neg (by
    rintro (z | z | z | z | z)
    · omega
    · omega
    · omega
    · rw [List.any_append, List.any_reverse, hsc] at z
      cases z
    · omega)]
  dsimp only
  rw [List.reverse_append, List.reverse_reverse]
  show (if 3 = 3 ∧ (P.1 q).2.2.2.2 = 1 then _ else none) = _
  rw [if_pos ⟨rfl, hc⟩]
  rfl
theorem sCkQ {k : Nat} {as rest : List Value} (he : ((xt_P X).1 m).1 pc = some (.invokevirtual k, len, q, ns)) (hp : pc + len = p) (hst : st = as.reverse ++ .retAddr 3 :: rest) (hn : ((xt_P X).1 q).2.2.1 = as.length + 1) (hq : 10 ≤ q) (h8 : (rest.map Value.category).sum ≤ 8) (hsc : as.any xx_sc = false) (hfl : (xx_flat (.retAddr 3 :: as)).length ≤ ((xt_P X).1 q).2.1) (hc : ((xt_P X).1 q).2.2.2.2 = 1) (hd : d0 < d) (k1 : sM X d0 q (.retAddr 3 :: as) S Q1) (kk : ∀ v T, Q1 v T → sT X d m p ls (v.toList ++ rest) T K) : sT X d m pc ls st S K := by
  subst hp
  obtain ⟨e, rfl⟩ : ∃ e, d = e + 1 := ⟨d - 1, by omega⟩
  refine xv_cK he hst hn hq h8 hsc hfl hc (xv_M.deeper (sM_xv k1) (by omega)) ?_
  rintro v _ ⟨T, rfl, h⟩
  exact kk v T h
theorem sCk {k : Nat} {as rest : List Value} {v : Option Value} {S' : ST} (he : ((xt_P X).1 m).1 pc = some (.invokevirtual k, len, q, ns)) (hp : pc + len = p) (hst : st = as.reverse ++ .retAddr 3 :: rest) (hn : ((xt_P X).1 q).2.2.1 = as.length + 1) (hq : 10 ≤ q) (h8 : (rest.map Value.category).sum ≤ 8) (hsc : as.any xx_sc = false) (hfl : (xx_flat (.retAddr 3 :: as)).length ≤ ((xt_P X).1 q).2.1) (hc : ((xt_P X).1 q).2.2.2.2 = 1) (hd : d0 < d) (k1 : sM X d0 q (.retAddr 3 :: as) S (sV v S')) (kk : sT X d m p ls (v.toList ++ rest) S' K) : sT X d m pc ls st S K := by
  refine sCkQ he hp hst hn hq h8 hsc hfl hc hd k1 ?_
  rintro _ T ⟨rfl, h⟩
  exact sSh h kk
theorem fb_ok {z : Int} (h : -128 ≤ z ∧ z ≤ 127) : fits .byte (.int (iI z)) = true := by
  show (decide (iI (-128) ≤ iI z) && decide (iI z ≤ iI 127)) = true
  rw [decide_eq_true ((iI_le ⟨by omega, by omega⟩ ⟨by omega, by omega⟩).mpr h.1), decide_eq_true ((iI_le ⟨by omega, by omega⟩ ⟨by omega, by omega⟩).mpr h.2)]
  rfl
theorem xx_ac_b {a a0 N N0 sp dp n : Nat} (hk0 : kd S a0 = some (.inl (3, N0))) (hk : kd S a = some (.inl (3, N))) (h0 : sp + n ≤ N0) (h1 : dp + n ≤ N) (hN : N0 < 2147483648 ∧ N < 2147483648) (hb : ∀ j, j < N0 → -128 ≤ SI S a0 j ∧ SI S a0 j ≤ 127) (h8 : (r.map Value.category).sum ≤ 8) : xx_ac (.int (iI (n : Int)) :: .int (iI (dp : Int)) :: .ref a :: .int (iI (sp : Int)) :: .ref a0 :: r) (sH S) = some (r, sH (wIA S a (fun k => if dp ≤ k ∧ k < dp + n then SI S a0 (sp + (k - dp)) else SI S a k))) := by
  show (if iI (n : Int) < 0 ∨ iI (dp : Int) < 0 ∨ iI (sp : Int) < 0 ∨ 8 < (r.map Value.category).sum then none else _) = _
  rw [if_neg (fun z => by
    rcases z with z | z | z | z
    · exact iI_nn (by omega) z
    · exact iI_nn (by omega) z
    · exact iI_nn (by omega) z
    · omega)]
  unfold xx_ar
  rw [sh_ai hk0 (by decide), sh_ai hk (by decide)]
  dsimp only
  rw [if_neg (by decide), if_neg (by decide), if_pos ⟨rfl, rfl⟩]
  unfold xx_int
  dsimp only
  have hall : (((List.range N0).map fun i => iI (SI S a0 i)).all fun x => fits .byte (.int x)) = true := by
    rw [List.all_eq_true]
    intro x hx
    obtain ⟨j, hj, rfl⟩ := List.mem_map.mp hx
    exact fb_ok (hb j (List.mem_range.mp hj))
  rw [iI_clamp (by omega), iI_clamp (by omega), iI_clamp (by omega), List.length_map, List.length_range, List.length_map, List.length_range, if_pos ⟨h0, h1, hall⟩, cpy_map h0 h1]
  refine congrArg (fun h => some (r, h)) (sh_set hk rfl (fun b hb => if_neg hb) (fun b hb => rfl) (fun b hb => rfl) ?_)
  unfold sC
  dsimp only
  rw [if_neg (by decide), SI_wIA, if_pos rfl]
  refine congrArg (fun l => Sum.inl (3, Sum.inl l)) (List.map_congr_left (fun k _ => ?_))
  by_cases c : dp ≤ k ∧ k < dp + n
  · rw [if_pos c, if_pos c]
  · rw [if_neg c, if_neg c]
theorem sAcB {k a a0 N N0 sp dp n : Nat} {x y z : Int} (he : ((xt_P X).1 m).1 pc = some (.invokestatic k, len, 1, ns)) (hp : pc + len = p) (hk0 : kd S a0 = some (.inl (3, N0))) (hk : kd S a = some (.inl (3, N))) (hx : x = (n : Int)) (hy : y = (dp : Int)) (hz : z = (sp : Int)) (h0 : sp + n ≤ N0) (h1 : dp + n ≤ N) (hN : N0 < 2147483648 ∧ N < 2147483648) (hb : ∀ j, j < N0 → -128 ≤ SI S a0 j ∧ SI S a0 j ≤ 127) (h8 : (r.map Value.category).sum ≤ 8) (kk : sT X (d + 1) m p ls r (wIA S a (fun k => if dp ≤ k ∧ k < dp + n then SI S a0 (sp + (k - dp)) else SI S a k)) K) : sT X (d + 1) m pc ls (.int (iI x) :: .int (iI y) :: .ref a :: .int (iI z) :: .ref a0 :: r) S K := by
  subst hp hx hy hz
  exact xv_prm he (xx_ac_b hk0 hk h0 h1 hN hb h8) kk
end KR
section BB
variable {X : List Int32} {S : ST} {L : List Nat} {m : Nat}
/-- a row of bytes is copied into a new, longer one -/
def cpb (S : ST) (a N m : Nat) : ST := wIA (nA S 3 m) (203 + S.1.length) (fun k => if k < N then SI S a k else 0)
theorem cpb_eq {a N m : Nat} (h : a < 203 + S.1.length) : wIA (nA S 3 m) (203 + S.1.length) (fun k => if 0 ≤ k ∧ k < 0 + N then SI (nA S 3 m) a (0 + (k - 0)) else SI (nA S 3 m) (203 + S.1.length) k) = cpb S a N m := by
  unfold cpb
  congr 1
  funext k
  by_cases c : k < N
  · rw [if_pos (by omega), if_pos c, nA_old h, Nat.zero_add, Nat.sub_zero]
  · rw [if_neg (by omega), if_neg c, nA_new]
theorem cpb_b {a N m : Nat} (h : a < 203 + S.1.length) (hb : ∀ j, j < N → -128 ≤ SI S a j ∧ SI S a j ≤ 127) : ∀ j, j < N → -128 ≤ SI (nA S 3 m) a j ∧ SI (nA S 3 m) a j ≤ 127 := by
  rw [nA_old h]
  exact hb
theorem c_cpb {a N m : Nat} (hk : kd S a = some (.inl (3, N))) (hb : ∀ j, j < N → -128 ≤ SI S a j ∧ SI S a j ≤ 127) (hN : N < m ∧ m ≤ 1000000) : sM X 1 324 [.ref a, .int (iI (m : Nat))] S (sV (some (.ref (203 + S.1.length))) (cpb S a N m)) := by
  have hal := kd_len hk
  refine sIni (ls := [some (.ref a), some (.int (iI ((m : Nat) : Int))), none]) rfl ?_
  refine sL (pc' := 1) (i := .iload_n 1) rfl rfl ?_
  refine sL (pc' := 2) (i := .aload_n 0) rfl rfl ?_
  refine sLn (p := 3) rfl rfl hk (by decide) ?_
  refine sIc_ne (p := 6) rfl rfl ⟨by omega, by omega⟩ ⟨by omega, by omega⟩ (fun c1 => ?_) (fun c1 => ?_)
  · have c1 := c1
    refine sL (pc' := 15) (i := .iload_n 1) rfl rfl ?_
    refine sNa (t := 3) (n := m) (p := 17) rfl rfl (Or.inr ⟨rfl, rfl⟩) rfl (by omega) ?_
    refine sL (pc' := 18) (i := .astore_n 2) (ls' := [some (.ref a), some (.int (iI ((m : Nat) : Int))), some (.ref (203 + S.1.length))]) rfl rfl ?_
    refine sL (pc' := 19) (i := .aload_n 0) rfl rfl ?_
    refine sKi (p := 20) rfl rfl ?_
    refine sL (pc' := 21) (i := .aload_n 2) rfl rfl ?_
    refine sKi (p := 22) rfl rfl ?_
    refine sL (pc' := 23) (i := .aload_n 0) rfl rfl ?_
    refine sLn (p := 24) rfl rfl ((kd_nA hal).trans hk) (by decide) ?_
    refine sL (pc' := 25) (i := .iload_n 1) rfl rfl ?_
    refine sCs (p := 28) (as := [_, _]) rfl rfl rfl rfl (by decide) (Nat.le_of_ble_eq_true rfl) rfl (Nat.le_of_ble_eq_true rfl) rfl (by omega) (c_min (x := (N : Nat)) (y := (m : Nat)) ⟨by omega, by omega⟩ ⟨by omega, by omega⟩) ?_
    rw [if_neg (by omega)]
    refine sAcB (p := 31) (n := N) (dp := 0) (sp := 0) rfl rfl ((kd_nA hal).trans hk) (kd_nA_new _ _) rfl rfl rfl (by omega) (by omega) ⟨by omega, by omega⟩ (cpb_b hal hb) (by decide) ?_
    rw [cpb_eq hal]
    refine sL (pc' := 32) (i := .aload_n 2) rfl rfl ?_
    refine sEn (i := .areturn) rfl (rfl) ?_
    exact ⟨rfl, rfl⟩
  · exfalso; omega
theorem c_lat (h : SI S 177 1 = 0) : sM X 0 261 [.ref 177] S (sV (some (.int (iI (bI true)))) S) := by
  refine sIni (ls := [some (.ref 177)]) rfl ?_
  refine sGs (p := 3) rfl rfl ?_
  refine sIf_eq (p := 6) rfl rfl ⟨by omega, by omega⟩ (fun c1 => ?_) (fun c1 => ?_)
  · exact absurd c1 (by decide)
  · have c1 := c1
    refine sL (pc' := 7) (i := .aload_n 0) rfl rfl ?_
    refine sGi (p := 10) rfl rfl (sk_177 _) rfl rfl rfl h ?_
    refine sIf_ne (p := 13) rfl rfl ⟨by omega, by omega⟩ (fun c2 => ?_) (fun c2 => ?_)
    · exact absurd c2 (by decide)
    · have c2 := c2
      refine sKi (p := 14) rfl rfl ?_
      refine sL (i := .goto 4) rfl rfl ?_
      refine sEn (i := .ireturn) rfl (rfl) ?_
      exact ⟨rfl, rfl⟩
theorem c_can {c : Nat} (h : c < 128) : sM X 0 293 [.int (iI ((c : Nat) : Int))] S (sV (some (.int (iI (bI true)))) S) := by
  refine sIni (ls := [some (.int (iI ((c : Nat) : Int)))]) rfl ?_
  refine sL (pc' := 1) (i := .iload_n 0) rfl rfl ?_
  refine sKs (p := 4) rfl rfl ?_
  refine sIc_gt (p := 7) rfl rfl ⟨by omega, by omega⟩ ⟨by omega, by omega⟩ (fun c1 => ?_) (fun c1 => ?_)
  · exfalso; omega
  · have c1 := c1
    refine sKi (p := 8) rfl rfl ?_
    refine sL (i := .goto 4) rfl rfl ?_
    refine sEn (i := .ireturn) rfl (rfl) ?_
    exact ⟨rfl, rfl⟩
theorem c_nlen {a b c : Nat} (h : a < 100000 ∧ b < 100000 ∧ c < 100000 ∧ 0 < c) : sM X 1 329 [.int (iI ((a : Nat) : Int)), .int (iI ((b : Nat) : Int)), .int (iI ((c : Nat) : Int))] S (sV (some (.int (iI (((a + (if b < c then c else b)) : Nat) : Int)))) S) := by
  obtain ⟨e, he⟩ : ∃ e : Nat, e = if b < c then c else b := ⟨_, rfl⟩
  have hq : (if ((b : Nat) : Int) < ((c : Nat) : Int) then ((c : Nat) : Int) else ((b : Nat) : Int)) = ((e : Nat) : Int) := by
    rw [he]
    by_cases z : b < c
    · rw [if_pos (by omega), if_pos z]
    · rw [if_neg (by omega), if_neg z]
  have hb : 0 < e ∧ e < 100000 := by
    rw [he]
    split <;> omega
  rw [← he]
  refine sIni (ls := [some (.int (iI ((a : Nat) : Int))), some (.int (iI ((b : Nat) : Int))), some (.int (iI ((c : Nat) : Int))), none]) rfl ?_
  refine sL (pc' := 1) (i := .iload_n 0) rfl rfl ?_
  refine sL (pc' := 2) (i := .iload_n 1) rfl rfl ?_
  refine sL (pc' := 3) (i := .iload_n 2) rfl rfl ?_
  refine sCs (p := 6) (as := [_, _]) rfl rfl rfl rfl (by decide) (Nat.le_of_ble_eq_true rfl) rfl (Nat.le_of_ble_eq_true rfl) rfl (by omega) (c_max (x := ((b : Nat) : Int)) (y := ((c : Nat) : Int)) ⟨by omega, by omega⟩ ⟨by omega, by omega⟩) ?_
  rw [hq]
  refine sAd (p := 7) rfl rfl ?_
  rw [show ((((a : Nat) : Int) + ((e : Nat) : Int)) : Int) = ((a + e : Nat) : Int) from by omega]
  refine sL (pc' := 8) (i := .istore_n 3) (ls' := [some (.int (iI ((a : Nat) : Int))), some (.int (iI ((b : Nat) : Int))), some (.int (iI ((c : Nat) : Int))), some (.int (iI ((a + e : Nat) : Int)))]) rfl rfl ?_
  refine sKi (p := 9) rfl rfl ?_
  refine sL (pc' := 10) (i := .iload_n 3) rfl rfl ?_
  refine sIc_ge (p := 13) rfl rfl ⟨by omega, by omega⟩ ⟨by omega, by omega⟩ (fun c1 => ?_) (fun c1 => ?_)
  · exfalso; omega
  · have c1 := c1
    refine sL (pc' := 14) (i := .iload_n 3) rfl rfl ?_
    refine sKl (p := 16) rfl rfl ?_
    refine sIc_gt (p := 19) rfl rfl ⟨by omega, by omega⟩ ⟨by omega, by omega⟩ (fun c2 => ?_) (fun c2 => ?_)
    · exfalso; omega
    · have c2 := c2
      refine sL (pc' := 20) (i := .iload_n 3) rfl rfl ?_
      refine sEn (i := .ireturn) rfl (rfl) ?_
      exact ⟨rfl, rfl⟩
theorem c_ncap {q w v : Nat} (hv : SR S 177 0 = v) (hk : kd S v = some (.inl (3, m))) (h1 : SI S 177 1 = 0) (hq : m < q ∧ q ≤ 20003) (hw : w = if q < 2 * m + 2 then 2 * m + 2 else q) : sM X 2 252 [.ref 177, .int (iI ((q : Nat) : Int))] S (sV (some (.int (iI ((w : Nat) : Int)))) S) := by
  have hw2 : w < 100000 := by
    rw [hw]
    split <;> omega
  have hw3 : m + (if q - m < m + 2 then m + 2 else q - m) = w := by
    rw [hw]
    by_cases z : q < 2 * m + 2
    · rw [if_pos z, if_pos (by omega)]
      omega
    · rw [if_neg z, if_neg (by omega)]
      omega
  refine sIni (ls := [some (.ref 177), some (.int (iI ((q : Nat) : Int))), none, none, none, none]) rfl ?_
  refine sL (pc' := 1) (i := .aload_n 0) rfl rfl ?_
  refine sGr (p := 4) rfl rfl (sk_177 _) rfl rfl rfl hv ?_
  refine sLn (p := 5) rfl rfl hk (by decide) ?_
  refine sL (pc' := 6) (i := .istore_n 2) (ls' := [some (.ref 177), some (.int (iI ((q : Nat) : Int))), some (.int (iI ((m : Nat) : Int))), none, none, none]) rfl rfl ?_
  refine sL (pc' := 7) (i := .iload_n 1) rfl rfl ?_
  refine sL (pc' := 8) (i := .aload_n 0) rfl rfl ?_
  refine sGi (p := 11) rfl rfl (sk_177 _) rfl rfl rfl h1 ?_
  refine sSh0 (p := 12) (a := ((q : Nat) : Int)) rfl rfl ⟨by omega, by omega⟩ ?_
  refine sL (pc' := 13) (i := .istore_n 3) (ls' := [some (.ref 177), some (.int (iI ((q : Nat) : Int))), some (.int (iI ((m : Nat) : Int))), some (.int (iI ((q : Nat) : Int))), none, none]) rfl rfl ?_
  refine sL (pc' := 14) (i := .iload_n 3) rfl rfl ?_
  refine sL (pc' := 15) (i := .iload_n 2) rfl rfl ?_
  refine sSb (p := 16) rfl rfl ?_
  rw [show (((q : Nat) : Int) - ((m : Nat) : Int) : Int) = ((q - m : Nat) : Int) from by omega]
  refine sL (pc' := 18) (i := .istore 4) (ls' := [some (.ref 177), some (.int (iI ((q : Nat) : Int))), some (.int (iI ((m : Nat) : Int))), some (.int (iI ((q : Nat) : Int))), some (.int (iI ((q - m : Nat) : Int))), none]) rfl rfl ?_
  refine sL (pc' := 19) (i := .iload_n 2) rfl rfl ?_
  refine sL (pc' := 21) (i := .iload 4) rfl rfl ?_
  refine sL (pc' := 22) (i := .iload_n 2) rfl rfl ?_
  refine sKi (p := 23) rfl rfl ?_
  refine sL (pc' := 24) (i := .aload_n 0) rfl rfl ?_
  refine sGi (p := 27) rfl rfl (sk_177 _) rfl rfl rfl h1 ?_
  refine sSh0 (p := 28) (a := 2) rfl rfl ⟨by omega, by omega⟩ ?_
  refine sAd (p := 29) rfl rfl ?_
  rw [show ((((m : Nat) : Int) + 2) : Int) = ((m + 2 : Nat) : Int) from by omega]
  refine sCs (p := 32) (as := [_, _, _]) rfl rfl rfl rfl (by decide) (Nat.le_of_ble_eq_true rfl) rfl (Nat.le_of_ble_eq_true rfl) rfl (by omega) (c_nlen (a := m) (b := q - m) (c := m + 2) ⟨by omega, by omega, by omega, by omega⟩) ?_
  rw [hw3]
  refine sL (pc' := 34) (i := .istore 5) (ls' := [some (.ref 177), some (.int (iI ((q : Nat) : Int))), some (.int (iI ((m : Nat) : Int))), some (.int (iI ((q : Nat) : Int))), some (.int (iI ((q - m : Nat) : Int))), some (.int (iI ((w : Nat) : Int)))]) rfl rfl ?_
  refine sL (pc' := 36) (i := .iload 5) rfl rfl ?_
  refine sKl (p := 38) rfl rfl ?_
  refine sIc_ne (p := 41) rfl rfl ⟨by omega, by omega⟩ ⟨by omega, by omega⟩ (fun c1 => ?_) (fun c1 => ?_)
  · have c1 := c1
    refine sL (pc' := 53) (i := .iload 5) rfl rfl ?_
    refine sL (pc' := 54) (i := .aload_n 0) rfl rfl ?_
    refine sGi (p := 57) rfl rfl (sk_177 _) rfl rfl rfl h1 ?_
    refine sSr0 (p := 58) (a := ((w : Nat) : Int)) rfl rfl ⟨by omega, by omega⟩ ?_
    refine sEn (i := .ireturn) rfl (rfl) ?_
    exact ⟨rfl, rfl⟩
  · exfalso; omega
theorem ens_ok {v w : Nat} (hs : sbB S L m) (hv : SR S 177 0 = v) (hw : 2 * m + 2 ≤ w ∧ w ≤ 60000) : sbB (wR (cpb S v m w) 177 0 (203 + S.1.length)) L w ∧ frU S (wR (cpb S v m w) 177 0 (203 + S.1.length)) m w := by
  obtain ⟨k1, k2, k3, k4, k5, k6, k7, k8⟩ := hs
  rw [hv] at k1 k2 k7 k8
  have hvl := kd_len k1
  obtain ⟨S', hS'⟩ : ∃ S', S' = wR (cpb S v m w) 177 0 (203 + S.1.length) := ⟨_, rfl⟩
  have e1 : S'.1 = S.1 ++ [.inl (3, w)] := by rw [hS']; rfl
  have eR : SR S' 177 0 = 203 + S.1.length := by rw [hS']; rfl
  have eo : ∀ c, c < 203 + S.1.length → SI S' c = SI S c := fun c h => by
    rw [hS']
    funext k
    show SI (wIA (nA S 3 w) (203 + S.1.length) _) c k = _
    rw [rA_ne (by omega), nA_old h]
  have en : ∀ k, SI S' (203 + S.1.length) k = if k < m then SI S v k else 0 := fun k => by
    rw [hS']
    exact rA_at
  have eL : ∀ c, c < 203 + S.1.length → SL S' c = SL S c := fun c h => by
    rw [hS']
    exact ua_ne (by omega)
  have eR2 : ∀ c, c ≠ 177 → SR S' c = SR S c := fun c h => by
    rw [hS']
    funext k
    show (if c = 177 ∧ k = 0 then _ else SR S c k) = _
    rw [if_neg (by omega)]
  have ek : kd S' (203 + S.1.length) = some (.inl (3, w)) := by
    rw [hS']
    exact kd_nA_new 3 w
  rw [← hS']
  refine ⟨⟨by rw [eR]; exact ek, Or.inr (by rw [eR]; omega), by omega, hw.2, by rw [eo 177 (by omega)]; exact k5, by rw [eo 177 (by omega)]; exact k6, ?_, ?_⟩, ⟨_, e1⟩, fun c h1 _ _ => eo c h1, eL, fun c _ h => eR2 c h, Or.inr (by rw [eR]; exact Nat.le_refl _), by omega, ?_, ?_⟩
  · intro j hj
    rw [eR, en, if_pos (by omega)]
    exact k7 j hj
  · intro j hj
    rw [eR, en]
    split
    · exact k8 j (by assumption)
    · exact ⟨by omega, by omega⟩
  · unfold tz
    rw [e1, List.map_append, List.sum_append]
    show _ + (w + 0) + 2 * m ≤ _
    omega
  · rw [e1, List.length_append]
    show _ + 1 + 2 * m ≤ _
    omega
theorem c_ens {q : Nat} (hs : sbB S L m) (hq : q ≤ 20003) : sM X 3 251 [.ref 177, .int (iI ((q : Nat) : Int))] S (fun r S' => r = none ∧ ∃ m', sbB S' L m' ∧ q ≤ m' ∧ frU S S' m m') := by
  have hs0 := hs
  obtain ⟨v, hv⟩ : ∃ v, SR S 177 0 = v := ⟨_, rfl⟩
  obtain ⟨w, hw⟩ : ∃ w, w = if q < 2 * m + 2 then 2 * m + 2 else q := ⟨_, rfl⟩
  obtain ⟨k1, k2, k3, k4, k5, k6, k7, k8⟩ := hs
  rw [hv] at k1 k2 k7 k8
  refine sIni (ls := [some (.ref 177), some (.int (iI ((q : Nat) : Int))), none]) rfl ?_
  refine sL (pc' := 1) (i := .aload_n 0) rfl rfl ?_
  refine sGr (p := 4) rfl rfl (sk_177 _) rfl rfl rfl hv ?_
  refine sLn (p := 5) rfl rfl k1 (by decide) ?_
  refine sL (pc' := 6) (i := .aload_n 0) rfl rfl ?_
  refine sGi (p := 9) rfl rfl (sk_177 _) rfl rfl rfl k5 ?_
  refine sSr0 (p := 10) (a := ((m : Nat) : Int)) rfl rfl ⟨by omega, by omega⟩ ?_
  refine sL (pc' := 11) (i := .istore_n 2) (ls' := [some (.ref 177), some (.int (iI ((q : Nat) : Int))), some (.int (iI ((m : Nat) : Int)))]) rfl rfl ?_
  refine sL (pc' := 12) (i := .iload_n 1) rfl rfl ?_
  refine sL (pc' := 13) (i := .iload_n 2) rfl rfl ?_
  refine sSb (p := 14) rfl rfl ?_
  refine sIf_le (p := 17) rfl rfl ⟨by omega, by omega⟩ (fun c1 => ?_) (fun c1 => ?_)
  · have c1 := c1
    refine sEn (i := .return_) rfl (rfl) ?_
    exact ⟨rfl, m, hs0, by omega, frU_refl S m⟩
  · have c1 := c1
    refine sL (pc' := 18) (i := .aload_n 0) rfl rfl ?_
    refine sL (pc' := 19) (i := .aload_n 0) rfl rfl ?_
    refine sGr (p := 22) rfl rfl (sk_177 _) rfl rfl rfl hv ?_
    refine sL (pc' := 23) (i := .aload_n 0) rfl rfl ?_
    refine sL (pc' := 24) (i := .iload_n 1) rfl rfl ?_
    refine sCv (p := 27) (as := [_]) rfl rfl rfl rfl (by decide) (Nat.le_of_ble_eq_true rfl) rfl (Nat.le_of_ble_eq_true rfl) (sk_177 _) rfl (by omega) (c_ncap hv k1 k5 ⟨by omega, hq⟩ hw) ?_
    refine sL (pc' := 28) (i := .aload_n 0) rfl rfl ?_
    refine sGi (p := 31) rfl rfl (sk_177 _) rfl rfl rfl k5 ?_
    refine sSh0 (p := 32) (a := ((w : Nat) : Int)) rfl rfl ⟨by have : w < 100000 := by {rw [hw]; split <;> omega}; omega, by have : w < 100000 := by {rw [hw]; split <;> omega}; omega⟩ ?_
    refine sCs (p := 35) (as := [_, _]) rfl rfl rfl rfl (by decide) (Nat.le_of_ble_eq_true rfl) rfl (Nat.le_of_ble_eq_true rfl) rfl (by omega) (c_cpb (N := m) (m := w) k1 k8 ⟨by rw [hw]; split <;> omega, by rw [hw]; split <;> omega⟩) ?_
    refine sPr (p := 38) rfl rfl (sk_177 _) rfl rfl rfl (fun _ => rfl) ?_
    refine sEn (i := .return_) rfl (rfl) ?_
    have e9 := ens_ok hs0 hv ⟨(show 2 * m + 2 ≤ w by rw [hw]; split <;> omega), (show w ≤ 60000 by rw [hw]; split <;> omega)⟩
    exact ⟨rfl, w, e9.1, (show q ≤ w by rw [hw]; split <;> omega), e9.2⟩
theorem put_ok {v c : Nat} (hs : sbB S L m) (hv : SR S 177 0 = v) (hm : L.length + 1 ≤ m) (hc : c < 128) : sbB (wI (wI S 177 3 (((L.length : Nat) : Int) + 1)) v L.length ((c : Nat) : Int)) (L ++ [c]) m ∧ frU S (wI (wI S 177 3 (((L.length : Nat) : Int) + 1)) v L.length ((c : Nat) : Int)) m m := by
  obtain ⟨k1, k2, k3, k4, k5, k6, k7, k8⟩ := hs
  rw [hv] at k1 k2 k7 k8
  have hv7 : v ≠ 177 := by omega
  have e1 : ∀ k, SI (wI (wI S 177 3 (((L.length : Nat) : Int) + 1)) v L.length ((c : Nat) : Int)) 177 k = if k = 3 then ((L.length : Nat) : Int) + 1 else SI S 177 k := fun k => by
    rw [SI_wI, if_neg (by omega), SI_wI]
    by_cases z : k = 3
    · rw [if_pos ⟨rfl, z⟩, if_pos z]
    · rw [if_neg (by omega), if_neg z]
  have e2 : ∀ k, SI (wI (wI S 177 3 (((L.length : Nat) : Int) + 1)) v L.length ((c : Nat) : Int)) v k = if k = L.length then ((c : Nat) : Int) else SI S v k := fun k => by
    rw [SI_wI]
    by_cases z : k = L.length
    · rw [if_pos ⟨rfl, z⟩, if_pos z]
    · rw [if_neg (by omega), if_neg z, SI_wI, if_neg (by omega)]
  have eR : SR (wI (wI S 177 3 (((L.length : Nat) : Int) + 1)) v L.length ((c : Nat) : Int)) 177 0 = v := hv
  have hl : (L ++ [c]).length = L.length + 1 := by rw [List.length_append]; rfl
  refine ⟨⟨by rw [eR]; exact k1, by rw [eR]; exact k2, by omega, k4, ?_, ?_, ?_, ?_⟩, ⟨[], (List.append_nil _).symm⟩, fun c1 h1 h2 h3 => funext fun k => ?_, fun c1 h1 => rfl, fun c1 h1 h2 => rfl, Or.inl rfl, Nat.le_refl _, Nat.le_refl _, Nat.le_refl _⟩
  · rw [e1, if_neg (by decide)]
    exact k5
  · rw [e1, if_pos rfl, hl]
    omega
  · intro j hj
    rw [eR, e2]
    by_cases z : j = L.length
    · rw [if_pos z, List.getD_eq_getElem?_getD, z, List.getElem?_append_right (Nat.le_refl _), Nat.sub_self]
      exact ⟨rfl, hc⟩
    · rw [if_neg z]
      have h9 := k7 j (by omega)
      rw [List.getD_eq_getElem?_getD, List.getElem?_append_left (by omega), ← List.getD_eq_getElem?_getD]
      exact h9
  · intro j hj
    rw [eR, e2]
    split
    · omega
    · exact k8 j hj
  · rw [hv] at h3
    rw [SI_wI, if_neg (by omega), SI_wI, if_neg (by omega)]
theorem c_appC {c : Nat} (hs : sbB S L m) (hc : c < 128) (hl : L.length < 20000) : sM X 5 258 [.ref 177, .int (iI ((c : Nat) : Int))] S (fun r S' => r = some (.ref 177) ∧ ∃ m', sbB S' (L ++ [c]) m' ∧ frU S S' m m') := by
  refine sIni (ls := [some (.ref 177), some (.int (iI ((c : Nat) : Int)))]) rfl ?_
  refine sL (pc' := 1) (i := .aload_n 0) rfl rfl ?_
  refine sL (pc' := 2) (i := .aload_n 0) rfl rfl ?_
  refine sGi (p := 5) rfl rfl (sk_177 _) rfl rfl rfl hs.2.2.2.2.2.1 ?_
  refine sKi (p := 6) rfl rfl ?_
  refine sAd (p := 7) rfl rfl ?_
  rw [show ((((L.length : Nat) : Int) + 1) : Int) = ((L.length + 1 : Nat) : Int) from by omega]
  refine sCvQ (p := 10) (as := [_]) rfl rfl rfl rfl (by decide) (Nat.le_of_ble_eq_true rfl) rfl (Nat.le_of_ble_eq_true rfl) (sk_177 _) rfl (by omega) (c_ens (q := L.length + 1) hs (by omega)) ?_
  rintro _ S1 ⟨rfl, m1, b1, q1, f1⟩
  obtain ⟨v, hv⟩ : ∃ v, SR S1 177 0 = v := ⟨_, rfl⟩
  obtain ⟨k1, k2, k3, k4, k5, k6, k7, k8⟩ := id b1
  rw [hv] at k1 k2 k7 k8
  refine sL (pc' := 11) (i := .aload_n 0) rfl rfl ?_
  refine sCv (p := 14) (as := []) rfl rfl rfl rfl (by decide) (Nat.le_of_ble_eq_true rfl) rfl (Nat.le_of_ble_eq_true rfl) (sk_177 _) rfl (by omega) (c_lat k5) ?_
  refine sBe (p := 17) rfl rfl (fun c1 => ?_) (fun c1 => ?_)
  · exact absurd c1 (by decide)
  · have c1 := c1
    refine sL (pc' := 18) (i := .iload_n 1) rfl rfl ?_
    refine sCs (p := 21) (as := [_]) rfl rfl rfl rfl (by decide) (Nat.le_of_ble_eq_true rfl) rfl (Nat.le_of_ble_eq_true rfl) rfl (by omega) (c_can hc) ?_
    refine sBe (p := 24) rfl rfl (fun c2 => ?_) (fun c2 => ?_)
    · exact absurd c2 (by decide)
    · have c2 := c2
      refine sL (pc' := 25) (i := .aload_n 0) rfl rfl ?_
      refine sGr (p := 28) rfl rfl (sk_177 _) rfl rfl rfl hv ?_
      refine sL (pc' := 29) (i := .aload_n 0) rfl rfl ?_
      refine sL (pc' := 30) (i := .dup) rfl rfl ?_
      refine sGi (p := 33) rfl rfl (sk_177 _) rfl rfl rfl k6 ?_
      refine sL (pc' := 34) (i := .dup_x1) rfl rfl ?_
      refine sKi (p := 35) rfl rfl ?_
      refine sAd (p := 36) rfl rfl ?_
      refine sPi (z := (((L.length : Nat) : Int) + 1)) (p := 39) rfl rfl (sk_177 _) rfl rfl rfl rfl ?_
      refine sL (pc' := 40) (i := .iload_n 1) rfl rfl ?_
      refine sI2b (p := 41) rfl rfl (i8_s c hc) ?_
      refine sWb (p := 42) (i := L.length) (w := ((c : Nat) : Int)) rfl rfl k1 rfl ⟨by omega, by omega⟩ (i8_s c hc) ?_
      refine sL (i := .goto 33) rfl rfl ?_
      refine sL (pc' := 76) (i := .aload_n 0) rfl rfl ?_
      refine sEn (i := .areturn) rfl (rfl) ?_
      have e9 := put_ok b1 hv (by omega) hc
      exact ⟨rfl, m1, e9.1, frU_trans f1 e9.2⟩
theorem c_app {c : Nat} (hs : sbB S L m) (hc : c < 128) (hl : L.length < 20000) : sM X 12 287 [.ref 177, .int (iI ((c : Nat) : Int))] S (fun r S' => r = some (.ref 177) ∧ ∃ m', sbB S' (L ++ [c]) m' ∧ frU S S' m m') := by
  refine sIni (ls := [some (.ref 177), some (.int (iI ((c : Nat) : Int)))]) rfl ?_
  refine sL (pc' := 1) (i := .aload_n 0) rfl rfl ?_
  refine sL (pc' := 2) (i := .iload_n 1) rfl rfl ?_
  refine sCiQ (p := 5) (as := [_]) rfl rfl rfl rfl (by decide) (Nat.le_of_ble_eq_true rfl) rfl (Nat.le_of_ble_eq_true rfl) (sk_177 _) (Nat.succ_ne_zero _) (by omega) (c_appC hs hc hl) ?_
  rintro _ S1 ⟨rfl, h1⟩
  refine sL (pc' := 6) (i := .pop) rfl rfl ?_
  refine sL (pc' := 7) (i := .aload_n 0) rfl rfl ?_
  refine sEn (i := .areturn) rfl (rfl) ?_
  exact ⟨rfl, h1⟩
theorem c_lenA (hs : sbB S L m) : sM X 0 250 [.ref 177] S (sV (some (.int (iI ((L.length : Nat) : Int)))) S) := by
  refine sIni (ls := [some (.ref 177)]) rfl ?_
  refine sL (pc' := 1) (i := .aload_n 0) rfl rfl ?_
  refine sGi (p := 4) rfl rfl (sk_177 _) rfl rfl rfl hs.2.2.2.2.2.1 ?_
  refine sEn (i := .ireturn) rfl (rfl) ?_
  exact ⟨rfl, rfl⟩
theorem c_lenB (hs : sbB S L m) : sM X 12 292 [.ref 177] S (sV (some (.int (iI ((L.length : Nat) : Int)))) S) := by
  refine sIni (ls := [some (.ref 177)]) rfl ?_
  refine sL (pc' := 1) (i := .aload_n 0) rfl rfl ?_
  refine sCi (p := 4) (as := []) rfl rfl rfl rfl (by decide) (Nat.le_of_ble_eq_true rfl) rfl (Nat.le_of_ble_eq_true rfl) (sk_177 _) (Nat.succ_ne_zero _) (by omega) (c_lenA hs) ?_
  refine sEn (i := .ireturn) rfl (rfl) ?_
  exact ⟨rfl, rfl⟩
end BB
