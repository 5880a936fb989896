/-! ===== rules: constants beside the heap ===== -/
section KR
variable {X : List Int32} {d d0 m pc p len q : Nat} {ns : Bool} {ls : xx_L} {st r : List Value} {S : ST} {K : Nat → xx_L → List Value → ST → Prop} {Q1 : Option Value → ST → Prop}
theorem sNp (he : ((xt_P X).1 m).1 pc = some (.nop, len, q, ns)) (hp : pc + len = p) (hq : q ≠ 0) (kk : sT X d m p ls (.retAddr q :: st) S K) : sT X d m pc ls st S K := by
  subst hp
  exact xv_hp he (st' := .retAddr q :: st) (h1 := sH S) (by show (if q = 0 then none else _) = _; rw [if_neg hq]) kk
theorem sGs {k : Nat} (he : ((xt_P X).1 m).1 pc = some (.getstatic k, len, q, ns)) (hp : pc + len = p) (kk : sT X d m p ls (.int (iI (q : Int)) :: st) S K) : sT X d m pc ls st S K := by
  subst hp
  rw [iI_nI] at kk
  exact xv_hp he (st' := .int (nI q) :: st) (h1 := sH S) rfl kk
theorem sKg0 {k : Nat} (he : ((xt_P X).1 m).1 pc = some (.getfield k, len, q, ns)) (hp : pc + len = p) (hq : q = 4032) (kk : sT X d m p ls (.retAddr 4 :: r) S K) : sT X d m pc ls (.retAddr 3 :: r) S K := by
  subst hp hq
  exact xv_hp he (st' := .retAddr 4 :: r) (h1 := sH S) rfl kk
theorem sKg1 {k : Nat} (he : ((xt_P X).1 m).1 pc = some (.getfield k, len, q, ns)) (hp : pc + len = p) (hq : q = 4033) (kk : sT X d m p ls (.int (iI 0) :: r) S K) : sT X d m pc ls (.retAddr 3 :: r) S K := by
  subst hp hq
  exact xv_hp he (st' := .int (iI 0) :: r) (h1 := sH S) rfl kk
theorem sKy {k j : Nat} {l : List Int32} {z y : Int} (he : ((xt_P X).1 m).1 pc = some (.baload, len, q, ns)) (hp : pc + len = p) (hk : xx_kb k = some l) (hz : z = (j : Int)) (hy : l[j]? = some (iI y) ∧ j < 2147483648) (kk : sT X d m p ls (.int (iI y) :: r) S K) : sT X d m pc ls (.int (iI z) :: .retAddr k :: r) S K := by
  subst hp hz
  refine xv_hp he (st' := .int (iI y) :: r) (h1 := sH S) ?_ kk
  show (xx_kb k).bind _ = _
  rw [hk]
  show (xx_at l (iI (j : Int))).bind _ = _
  rw [xx_at_iI hy.2, hy.1]
  rfl
theorem sKn {k n : Nat} {l : List Int32} (he : ((xt_P X).1 m).1 pc = some (.arraylength, len, q, ns)) (hp : pc + len = p) (hk : xx_kb (k + 1) = some l) (hn : l.length = n) (kk : sT X d m p ls (.int (iI (n : Int)) :: r) S K) : sT X d m pc ls (.retAddr (k + 1) :: r) S K := by
  subst hp hn
  rw [iI_nI] at kk
  refine xv_hp he (st' := .int (nI l.length) :: r) (h1 := sH S) ?_ kk
  show (xx_kb (k + 1)).bind _ = _
  rw [hk]
  rfl
theorem sSh0 {a : Int} (he : ((xt_P X).1 m).1 pc = some (.ishl, len, q, ns)) (hp : pc + len = p) (_ : rg a) (kk : sT X d m p ls (.int (iI a) :: r) S K) : sT X d m pc ls (.int (iI 0) :: .int (iI a) :: r) S K := by
  subst hp
  refine sL he (pc' := pc + len) (ls' := ls) (st' := .int (iI a <<< (iI 0 &&& 31)) :: r) rfl ?_
  rw [show (iI 0 &&& 31 : Int32) = 0 from by decide, Int32.shiftLeft_zero]
  exact kk
theorem sSr0 {a : Int} (he : ((xt_P X).1 m).1 pc = some (.ishr, len, q, ns)) (hp : pc + len = p) (ha : rg a) (kk : sT X d m p ls (.int (iI a) :: r) S K) : sT X d m pc ls (.int (iI 0) :: .int (iI a) :: r) S K := sSr 0 he hp ha rfl (by decide) (by show a = a / 1; omega) kk
theorem i8_s : ∀ c : Nat, c < 128 → (iI ((c : Nat) : Int)).toInt8.toInt32 = iI ((c : Nat) : Int) := by decide +kernel
theorem i16_s : ∀ c : Nat, c < 256 → ((iI ((c : Nat) : Int)).toUInt32 % 65536).toInt32 = iI ((c : Nat) : Int) := by decide +kernel
theorem sI2b {a z : Int} (he : ((xt_P X).1 m).1 pc = some (.i2b, len, q, ns)) (hp : pc + len = p) (hz : (iI a).toInt8.toInt32 = iI z) (kk : sT X d m p ls (.int (iI z) :: r) S K) : sT X d m pc ls (.int (iI a) :: r) S K := by
  subst hp
  rw [← hz] at kk
  exact sL he rfl kk
theorem sI2c {a : Nat} (he : ((xt_P X).1 m).1 pc = some (.i2c, len, q, ns)) (hp : pc + len = p) (ha : a < 256) (kk : sT X d m p ls (.int (iI ((a : Nat) : Int)) :: r) S K) : sT X d m pc ls (.int (iI ((a : Nat) : Int)) :: r) S K := by
  subst hp
  rw [← i16_s a ha] at kk
  exact sL he rfl kk
theorem iI_divn {a b : Int} (ha : 0 ≤ a) (ha2 : a < 2147483648) (hb : 0 < b) (hb2 : b < 2147483648) : iI (- a) / iI b = iI (- (a / b)) := by
  have h1 : 0 ≤ a / b := Int.ediv_nonneg ha (by omega)
  have h2 : a / b ≤ a := Int.ediv_le_self b ha
  rw [← Int32.toInt_inj, Int32.toInt_div, iI_toInt ⟨by omega, by omega⟩, iI_toInt ⟨by omega, hb2⟩, iI_toInt ⟨by omega, by omega⟩, Int.neg_tdiv, Int.tdiv_eq_ediv_of_nonneg ha]
  exact Int.bmod_eq_of_le (by omega) (by omega)
theorem sDn {a b : Int} (he : ((xt_P X).1 m).1 pc = some (.idiv, len, q, ns)) (hp : pc + len = p) (ha : 0 ≤ a ∧ a < 2147483648) (hb : 0 < b ∧ b < 2147483648) (k : sT X d m p ls (.int (iI (- (a / b))) :: r) S K) : sT X d m pc ls (.int (iI b) :: .int (iI (- a)) :: r) S K := by
  subst hp
  have hb0 : ¬ iI b = 0 := fun z => by
    have := (iI_eq (b := 0) ⟨by omega, hb.2⟩ ⟨by omega, by omega⟩).mp z
    omega
  rw [← iI_divn ha.1 ha.2 hb.1 hb.2] at k
  exact xv_loc he (if_neg hb0) k
theorem xv_cK {P : xx_P} {h : xx_H} {Q : Nat → xx_L → List Value → xx_H → Prop} {k : Nat} {as rest : List Value} {Q2 : Option Value → xx_H → Prop} (he : (P.1 m).1 pc = some (.invokevirtual k, len, q, ns)) (hst : st = as.reverse ++ .retAddr 3 :: rest) (hn : (P.1 q).2.2.1 = as.length + 1) (hq : 10 ≤ q) (h8 : (rest.map Value.category).sum ≤ 8) (hsc : as.any xx_sc = false) (hfl : (xx_flat (.retAddr 3 :: as)).length ≤ (P.1 q).2.1) (hc : (P.1 q).2.2.2.2 = 64)
    (k1 : xv_M P d q (.retAddr 3 :: as) h Q2) (kk : ∀ v h1, Q2 v h1 → xv_T P (d + 1) m (pc + len) ls (v.toList ++ rest) h1 Q) : xv_T P (d + 1) m pc ls st h Q := by
  have e1 : st.take (as.length + 1) = as.reverse ++ [.retAddr 3] := by
    rw [hst, List.take_append, List.length_reverse, Nat.add_sub_cancel_left, List.take_of_length_le (by rw [List.length_reverse]; omega)]
    rfl
  have e2 : st.drop (as.length + 1) = rest := by
    rw [hst, List.drop_append, List.length_reverse, Nat.add_sub_cancel_left, List.drop_eq_nil_of_le (by rw [List.length_reverse]; omega)]
    rfl
  have e3 : st.length = as.length + 1 + rest.length := by
    rw [hst, List.length_append, List.length_reverse, List.length_cons]
    omega
  have fl : (xx_flat (as.reverse ++ [.retAddr 3])).length = (xx_flat (.retAddr 3 :: as)).length := by
    have : as.reverse ++ [Value.retAddr 3] = (.retAddr 3 :: as).reverse := by rw [List.reverse_cons]
    rw [this]
    unfold xx_flat
    rw [List.length_flatMap, List.length_flatMap, List.map_reverse, List.sum_reverse]
  refine xv_call he rfl (y := q) (as := .retAddr 3 :: as) (st' := rest) ?_ k1 kk
  unfold xx_call
  rw [hn, e1, e2, fl, if_neg (by
    rintro (z | z | z | z | z)
    · omega
    · omega
    · omega
    · rw [List.any_append, List.any_reverse, hsc] at z
      cases z
    · omega)]
  dsimp only
  rw [List.reverse_append, List.reverse_reverse]
  show (if 3 = 3 ∧ (P.1 q).2.2.2.2 = 64 then _ else none) = _
  rw [if_pos ⟨rfl, hc⟩]
  rfl
theorem sCkQ {k : Nat} {as rest : List Value} (he : ((xt_P X).1 m).1 pc = some (.invokevirtual k, len, q, ns)) (hp : pc + len = p) (hst : st = as.reverse ++ .retAddr 3 :: rest) (hn : ((xt_P X).1 q).2.2.1 = as.length + 1) (hq : 10 ≤ q) (h8 : (rest.map Value.category).sum ≤ 8) (hsc : as.any xx_sc = false) (hfl : (xx_flat (.retAddr 3 :: as)).length ≤ ((xt_P X).1 q).2.1) (hc : ((xt_P X).1 q).2.2.2.2 = 64) (hd : d0 < d) (k1 : sM X d0 q (.retAddr 3 :: as) S Q1) (kk : ∀ v T, Q1 v T → sT X d m p ls (v.toList ++ rest) T K) : sT X d m pc ls st S K := by
  subst hp
  obtain ⟨e, rfl⟩ : ∃ e, d = e + 1 := ⟨d - 1, by omega⟩
  refine xv_cK he hst hn hq h8 hsc hfl hc (xv_M.deeper (sM_xv k1) (by omega)) ?_
  rintro v _ ⟨T, rfl, h⟩
  exact kk v T h
theorem sCk {k : Nat} {as rest : List Value} {v : Option Value} {S' : ST} (he : ((xt_P X).1 m).1 pc = some (.invokevirtual k, len, q, ns)) (hp : pc + len = p) (hst : st = as.reverse ++ .retAddr 3 :: rest) (hn : ((xt_P X).1 q).2.2.1 = as.length + 1) (hq : 10 ≤ q) (h8 : (rest.map Value.category).sum ≤ 8) (hsc : as.any xx_sc = false) (hfl : (xx_flat (.retAddr 3 :: as)).length ≤ ((xt_P X).1 q).2.1) (hc : ((xt_P X).1 q).2.2.2.2 = 64) (hd : d0 < d) (k1 : sM X d0 q (.retAddr 3 :: as) S (sV v S')) (kk : sT X d m p ls (v.toList ++ rest) S' K) : sT X d m pc ls st S K := by
  refine sCkQ he hp hst hn hq h8 hsc hfl hc hd k1 ?_
  rintro _ T ⟨rfl, h⟩
  exact sSh h kk
end KR
