/-! ===== xv_: a rule an instruction, for proofs over the executor ===== -/
theorem xx_at_nI {α : Type} {l : List α} {j : Nat} (hj : j < 2 ^ 31) : xx_at l (nI j) = l[j]? := by
  unfold xx_at
  rw [if_neg (nI_pos hj), nI_clamp hj]
theorem xx_put_nI {α : Type} {l : List α} {j : Nat} {x : α} (hj : j < l.length) (hl : j < 2 ^ 31) : xx_put l (nI j) x = some (l.set j x) := by
  unfold xx_put
  rw [nI_clamp hl, if_neg (fun z => z.elim (nI_pos hl) (by omega))]
section XR
variable {P : xx_P} {d m pc : Nat} {ls : xx_L} {st : List Value} {h : xx_H} {Q : Nat → xx_L → List Value → xx_H → Prop} {len q : Nat} {ns : Bool} {r : List Value}
theorem xv_ifc {c : Jvm.ClassFile.Cond} {o : Int} {x : Int32} (he : (P.1 m).1 pc = some (.ifCond c o, len, q, ns)) (kt : xx_if c x = true → xv_T P d m q ls r h Q) (kf : xx_if c x = false → xv_T P d m (pc + len) ls r h Q) : xv_T P d m pc ls (.int x :: r) h Q := by
  refine xv_loc he (pc' := if xx_if c x then q else pc + len) (ls' := ls) (st' := r) rfl ?_
  cases hx : xx_if c x with
  | true => exact kt hx
  | false => exact kf hx
theorem xv_icmp {c : Jvm.ClassFile.Cond} {o : Int} {x y : Int32} (he : (P.1 m).1 pc = some (.if_icmp c o, len, q, ns)) (kt : xx_cmp c x y = true → xv_T P d m q ls r h Q) (kf : xx_cmp c x y = false → xv_T P d m (pc + len) ls r h Q) : xv_T P d m pc ls (.int y :: .int x :: r) h Q := by
  refine xv_loc he (pc' := if xx_cmp c x y then q else pc + len) (ls' := ls) (st' := r) rfl ?_
  cases hx : xx_cmp c x y with
  | true => exact kt hx
  | false => exact kf hx
theorem xv_get {k a c : Nat} {fs : List Value} {v : Value} (he : (P.1 m).1 pc = some (.getfield k, len, q, ns)) (hh : h[a]? = some (.inr (c, fs))) (hc : c = q / 64) (hv : fs[q % 64]? = some v) (kk : xv_T P d m (pc + len) ls (v :: r) h Q) : xv_T P d m pc ls (.ref a :: r) h Q := by
  refine xv_hp he (st' := v :: r) (h1 := h) ?_ kk
  show xx_ob h a _ = _
  unfold xx_ob
  rw [hh]
  dsimp only
  rw [if_pos hc, hv]
  rfl
theorem xv_put {k a c : Nat} {fs : List Value} {v : Value} {ty : FieldType} (he : (P.1 m).1 pc = some (.putfield k, len, q, ns)) (hh : h[a]? = some (.inr (c, fs))) (hc : c = q / 64) (hk : q % 64 < fs.length) (hty : (P.2.1 c)[q % 64]? = some ty) (hf : xx_fit ty v = true) (kk : xv_T P d m (pc + len) ls r (h.set a (.inr (c, fs.set (q % 64) v))) Q) : xv_T P d m pc ls (v :: .ref a :: r) h Q := by
  refine xv_hp he (st' := r) ?_ kk
  show xx_ob h a _ = _
  unfold xx_ob
  rw [hh]
  dsimp only
  rw [if_pos ⟨hc, hk, by rw [hty]; exact hf⟩]
theorem xv_iald {a : Nat} {i x : Int32} {l : List Int32} (he : (P.1 m).1 pc = some (.iaload, len, q, ns)) (hh : h[a]? = some (.inl (0, .inl l))) (hi : xx_at l i = some x) (kk : xv_T P d m (pc + len) ls (.int x :: r) h Q) : xv_T P d m pc ls (.int i :: .ref a :: r) h Q := by
  refine xv_hp he (st' := .int x :: r) (h1 := h) ?_ kk
  show xx_ar h a _ = _
  unfold xx_ar
  rw [hh]
  show (xx_at l i).bind _ = _
  rw [hi]
  rfl
theorem xv_sald {i x : Int32} (he : (P.1 m).1 pc = some (.iaload, len, q, ns)) (hi : xx_at P.2.2 i = some x) (kk : xv_T P d m (pc + len) ls (.int x :: r) h Q) : xv_T P d m pc ls (.int i :: .retAddr 0 :: r) h Q := by
  refine xv_hp he (st' := .int x :: r) (h1 := h) ?_ kk
  show (xx_at P.2.2 i).bind _ = _
  rw [hi]
  rfl
theorem xv_bald {a t : Nat} {i x : Int32} {l : List Int32} (he : (P.1 m).1 pc = some (.baload, len, q, ns)) (hh : h[a]? = some (.inl (t, .inl l))) (ht : t = 1 ∨ t = 3) (hi : xx_at l i = some x) (kk : xv_T P d m (pc + len) ls (.int x :: r) h Q) : xv_T P d m pc ls (.int i :: .ref a :: r) h Q := by
  refine xv_hp he (st' := .int x :: r) (h1 := h) ?_ kk
  show xx_ar h a _ = _
  unfold xx_ar
  rw [hh]
  dsimp only
  rw [if_pos ht]
  show (xx_at l i).bind _ = _
  rw [hi]
  rfl
theorem xv_lald {a : Nat} {i : Int32} {x : Int64} {l : List Int64} (he : (P.1 m).1 pc = some (.laload, len, q, ns)) (hh : h[a]? = some (.inl (2, .inr (.inl l)))) (hi : xx_at l i = some x) (kk : xv_T P d m (pc + len) ls (.long x :: r) h Q) : xv_T P d m pc ls (.int i :: .ref a :: r) h Q := by
  refine xv_hp he (st' := .long x :: r) (h1 := h) ?_ kk
  show xx_ar h a _ = _
  unfold xx_ar
  rw [hh]
  show (xx_at l i).bind _ = _
  rw [hi]
  rfl
theorem xv_aald {a b : Nat} {i : Int32} {l : List (Option Nat)} (he : (P.1 m).1 pc = some (.aaload, len, q, ns)) (hh : h[a]? = some (.inl (4, .inr (.inr l)))) (hi : xx_at l i = some (some b)) (kk : xv_T P d m (pc + len) ls (.ref b :: r) h Q) : xv_T P d m pc ls (.int i :: .ref a :: r) h Q := by
  refine xv_hp he (st' := .ref b :: r) (h1 := h) ?_ kk
  show xx_ar h a _ = _
  unfold xx_ar
  rw [hh]
  show (xx_at l i).bind _ = _
  rw [hi]
  rfl
theorem xv_iast {a : Nat} {i x : Int32} {l l' : List Int32} (he : (P.1 m).1 pc = some (.iastore, len, q, ns)) (hh : h[a]? = some (.inl (0, .inl l))) (hi : xx_put l i x = some l') (kk : xv_T P d m (pc + len) ls r (h.set a (.inl (0, .inl l'))) Q) : xv_T P d m pc ls (.int x :: .int i :: .ref a :: r) h Q := by
  refine xv_hp he (st' := r) ?_ kk
  show xx_ar h a _ = _
  unfold xx_ar
  rw [hh]
  show (xx_put l i x).bind _ = _
  rw [hi]
  rfl
theorem xv_zast {a : Nat} {i x : Int32} {l l' : List Int32} (he : (P.1 m).1 pc = some (.bastore, len, q, ns)) (hh : h[a]? = some (.inl (1, .inl l))) (hi : xx_put l i (vp_nar .boolean x) = some l') (kk : xv_T P d m (pc + len) ls r (h.set a (.inl (1, .inl l'))) Q) : xv_T P d m pc ls (.int x :: .int i :: .ref a :: r) h Q := by
  refine xv_hp he (st' := r) ?_ kk
  show xx_ar h a _ = _
  unfold xx_ar
  rw [hh]
  show (xx_put l i (vp_nar .boolean x)).bind _ = _
  rw [hi]
  rfl
theorem xv_bast {a : Nat} {i x : Int32} {l l' : List Int32} (he : (P.1 m).1 pc = some (.bastore, len, q, ns)) (hh : h[a]? = some (.inl (3, .inl l))) (hi : xx_put l i (vp_nar .byte x) = some l') (kk : xv_T P d m (pc + len) ls r (h.set a (.inl (3, .inl l'))) Q) : xv_T P d m pc ls (.int x :: .int i :: .ref a :: r) h Q := by
  refine xv_hp he (st' := r) ?_ kk
  show xx_ar h a _ = _
  unfold xx_ar
  rw [hh]
  show (xx_put l i (vp_nar .byte x)).bind _ = _
  rw [hi]
  rfl
theorem xv_last {a : Nat} {i : Int32} {x : Int64} {l l' : List Int64} (he : (P.1 m).1 pc = some (.lastore, len, q, ns)) (hh : h[a]? = some (.inl (2, .inr (.inl l)))) (hi : xx_put l i x = some l') (kk : xv_T P d m (pc + len) ls r (h.set a (.inl (2, .inr (.inl l')))) Q) : xv_T P d m pc ls (.long x :: .int i :: .ref a :: r) h Q := by
  refine xv_hp he (st' := r) ?_ kk
  show xx_ar h a _ = _
  unfold xx_ar
  rw [hh]
  show (xx_put l i x).bind _ = _
  rw [hi]
  rfl
theorem xv_alen {a t : Nat} {c : xx_A} (he : (P.1 m).1 pc = some (.arraylength, len, q, ns)) (hh : h[a]? = some (.inl (t, c))) (ht : t < 5) (kk : xv_T P d m (pc + len) ls (.int (nI (xx_cl c)) :: r) h Q) : xv_T P d m pc ls (.ref a :: r) h Q := by
  refine xv_hp he (st' := .int (nI (xx_cl c)) :: r) (h1 := h) ?_ kk
  show xx_ar h a _ = _
  unfold xx_ar
  rw [hh]
  dsimp only
  rw [if_pos ht]
/-- a call on an object: the receiver, the arguments, what lies below them on the stack -/
theorem xv_cV {k a c : Nat} {as rest : List Value} {fs : List Value} {Q1 : Option Value → xx_H → Prop} (he : (P.1 m).1 pc = some (.invokevirtual k, len, q, ns)) (hst : st = as.reverse ++ .ref a :: rest) (hn : (P.1 q).2.2.1 = as.length + 1) (hq : 10 ≤ q) (h8 : (rest.map Value.category).sum ≤ 8) (hsc : as.any xx_sc = false) (hfl : (xx_flat (.ref a :: as)).length ≤ (P.1 q).2.1) (hh : h[a]? = some (.inr (c, fs))) (hc : (P.1 q).2.2.2.2 = c + 1)
    (k1 : xv_M P d q (.ref a :: as) h Q1) (kk : ∀ v h1, Q1 v h1 → xv_T P (d + 1) m (pc + len) ls (v.toList ++ rest) h1 Q) : xv_T P (d + 1) m pc ls st h Q := by
  have e1 : st.take (as.length + 1) = as.reverse ++ [.ref a] := by
    rw [hst, List.take_append, List.length_reverse, Nat.add_sub_cancel_left, List.take_of_length_le (by rw [List.length_reverse]; omega)]
    rfl
  have e2 : st.drop (as.length + 1) = rest := by
    rw [hst, List.drop_append, List.length_reverse, Nat.add_sub_cancel_left, List.drop_eq_nil_of_le (by rw [List.length_reverse]; omega)]
    rfl
  have e3 : st.length = as.length + 1 + rest.length := by
    rw [hst, List.length_append, List.length_reverse, List.length_cons]
    omega
  have fl : (xx_flat (as.reverse ++ [.ref a])).length = (xx_flat (.ref a :: as)).length := by
    have : as.reverse ++ [Value.ref a] = (.ref a :: as).reverse := by rw [List.reverse_cons]
    rw [this]
    unfold xx_flat
    rw [List.length_flatMap, List.length_flatMap, List.map_reverse, List.sum_reverse]
  refine xv_call he rfl (y := q) (as := .ref a :: as) (st' := rest) ?_ k1 kk
  unfold xx_call
  rw [hn, e1, e2, fl, if_neg (by
    rintro (z | z | z | z | z)
    · omega
    · omega
    · omega
    · rw [List.any_append, List.any_reverse, hsc] at z
      cases z
    · omega)]
  dsimp only
  rw [List.reverse_append, List.reverse_reverse]
  show xx_ob h a _ = _
  unfold xx_ob
  rw [hh]
  dsimp only
  rw [if_pos hc]
  rfl
theorem xv_cI {k a c : Nat} {as rest : List Value} {fs : List Value} {Q1 : Option Value → xx_H → Prop} (he : (P.1 m).1 pc = some (.invokespecial k, len, q, ns)) (hst : st = as.reverse ++ .ref a :: rest) (hn : (P.1 q).2.2.1 = as.length + 1) (hq : 10 ≤ q) (h8 : (rest.map Value.category).sum ≤ 8) (hsc : as.any xx_sc = false) (hfl : (xx_flat (.ref a :: as)).length ≤ (P.1 q).2.1) (hh : h[a]? = some (.inr (c, fs))) (hc : (P.1 q).2.2.2.2 ≠ 0)
    (k1 : xv_M P d q (.ref a :: as) h Q1) (kk : ∀ v h1, Q1 v h1 → xv_T P (d + 1) m (pc + len) ls (v.toList ++ rest) h1 Q) : xv_T P (d + 1) m pc ls st h Q := by
  have e1 : st.take (as.length + 1) = as.reverse ++ [.ref a] := by
    rw [hst, List.take_append, List.length_reverse, Nat.add_sub_cancel_left, List.take_of_length_le (by rw [List.length_reverse]; omega)]
    rfl
  have e2 : st.drop (as.length + 1) = rest := by
    rw [hst, List.drop_append, List.length_reverse, Nat.add_sub_cancel_left, List.drop_eq_nil_of_le (by rw [List.length_reverse]; omega)]
    rfl
  have e3 : st.length = as.length + 1 + rest.length := by
    rw [hst, List.length_append, List.length_reverse, List.length_cons]
    omega
  have fl : (xx_flat (as.reverse ++ [.ref a])).length = (xx_flat (.ref a :: as)).length := by
    have : as.reverse ++ [Value.ref a] = (.ref a :: as).reverse := by rw [List.reverse_cons]
    rw [this]
    unfold xx_flat
    rw [List.length_flatMap, List.length_flatMap, List.map_reverse, List.sum_reverse]
  refine xv_call he (if_neg (by omega)) (y := q) (as := .ref a :: as) (st' := rest) ?_ k1 kk
  unfold xx_call
  rw [hn, e1, e2, fl, if_neg (by
    rintro (z | z | z | z | z)
    · omega
    · omega
    · omega
    · rw [List.any_append, List.any_reverse, hsc] at z
      cases z
    · omega)]
  dsimp only
  rw [List.reverse_append, List.reverse_reverse]
  show xx_ob h a _ = _
  unfold xx_ob
  rw [hh]
  dsimp only
  rw [if_neg hc]
  rfl
theorem xv_cS {k : Nat} {as rest : List Value} {Q1 : Option Value → xx_H → Prop} (he : (P.1 m).1 pc = some (.invokestatic k, len, q, ns)) (hst : st = as.reverse ++ rest) (hn : (P.1 q).2.2.1 = as.length) (hq : 10 ≤ q) (h8 : (rest.map Value.category).sum ≤ 8) (hsc : as.any xx_sc = false) (hfl : (xx_flat as).length ≤ (P.1 q).2.1) (hc : (P.1 q).2.2.2.2 = 0)
    (k1 : xv_M P d q as h Q1) (kk : ∀ v h1, Q1 v h1 → xv_T P (d + 1) m (pc + len) ls (v.toList ++ rest) h1 Q) : xv_T P (d + 1) m pc ls st h Q := by
  have e1 : st.take as.length = as.reverse := by
    rw [hst, List.take_append_of_le_length (by rw [List.length_reverse]; omega), List.take_of_length_le (by rw [List.length_reverse]; omega)]
  have e2 : st.drop as.length = rest := by
    rw [hst, List.drop_append, List.length_reverse, Nat.sub_self, List.drop_eq_nil_of_le (by rw [List.length_reverse]; omega)]
    rfl
  have e3 : st.length = as.length + rest.length := by
    rw [hst, List.length_append, List.length_reverse]
  have fl : (xx_flat as.reverse).length = (xx_flat as).length := by
    unfold xx_flat
    rw [List.length_flatMap, List.length_flatMap, List.map_reverse, List.sum_reverse]
  refine xv_call he (if_neg (by omega)) (y := q) (as := as) (st' := rest) ?_ k1 kk
  unfold xx_call
  rw [hn, e1, e2, fl, if_neg (by
    rintro (z | z | z | z | z)
    · omega
    · omega
    · omega
    · rw [List.any_reverse, hsc] at z
      cases z
    · omega)]
  dsimp only
  rw [if_pos hc, List.reverse_reverse]
end XR
