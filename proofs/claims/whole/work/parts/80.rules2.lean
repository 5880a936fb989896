/-! ===== rules: bits of ints, arraycopy, new arrays, bytes ===== -/
def iB (x : Int32) (j : Nat) : Bool := x.toBitVec.getLsbD j
theorem iB_ext {x y : Int32} (h : ∀ j, j < 32 → iB x j = iB y j) : x = y := Int32.toBitVec_inj.mp (BitVec.eq_of_getLsbD_eq h)
theorem iB_one {y : Int32} {b : Bool} (h : ∀ i, i < 32 → iB y i = (b && decide (i = 0))) : y = iI (bI b) := by
  refine iB_ext (fun i hi => ?_)
  rw [h i hi]
  have e5 : ∀ i, i < 32 → iB (iI 1) i = decide (i = 0) := by decide
  have e6 : ∀ i, i < 32 → iB (iI 0) i = false := by decide
  cases b
  · exact (e6 i hi).symm
  · rw [Bool.true_and]
    exact (e5 i hi).symm
theorem i_ushr (x : Int32) {j : Nat} (hj : j < 32) : (x.toUInt32 >>> ((iI (j : Int)).toUInt32 &&& Int32.toUInt32 31)).toInt32 &&& iI 1 = iI (bI (iB x j)) := by
  have e : ∀ j : Nat, j < 32 → ((iI (j : Int)).toUInt32 &&& Int32.toUInt32 31) = UInt32.ofNat j := by decide +kernel
  have e2 : ∀ j, j < 32 → ((UInt32.ofNat j).toBitVec % 32).toNat = j := by decide +kernel
  rw [e j hj]
  refine iB_one (fun i hi => ?_)
  unfold iB
  rw [Int32.toBitVec_and, BitVec.getLsbD_and]
  have e3 : (iI 1).toBitVec = BitVec.ofNat 32 1 := rfl
  have e4 : (x.toUInt32 >>> UInt32.ofNat j).toInt32.toBitVec = x.toBitVec >>> ((UInt32.ofNat j).toBitVec % 32) := rfl
  rw [e3, e4, BitVec.ushiftRight_eq', e2 j hj, BitVec.getLsbD_ushiftRight, BitVec.getLsbD_ofNat]
  cases i with
  | zero => simp
  | succ i =>
    rw [Nat.testBit_succ]
    simp
theorem i_shr (x : Int32) {j : Nat} (hj : j < 32) : (x >>> (iI (j : Int) &&& 31)) &&& iI 1 = iI (bI (iB x j)) := by
  have e : ∀ k : Nat, k < 32 → ((iI (k : Int) &&& 31).toBitVec.smod 32).toNat = k := by decide +kernel
  refine iB_one (fun i hi => ?_)
  unfold iB
  rw [Int32.toBitVec_and, BitVec.getLsbD_and]
  have e3 : (iI 1).toBitVec = BitVec.ofNat 32 1 := rfl
  have e4 : (x >>> (iI (j : Int) &&& 31)).toBitVec = x.toBitVec.sshiftRight' ((iI (j : Int) &&& 31).toBitVec.smod 32) := rfl
  rw [e3, e4, BitVec.sshiftRight_eq', e j hj, BitVec.getLsbD_sshiftRight, BitVec.getLsbD_ofNat]
  cases i with
  | zero =>
    simp
    intro _
    omega
  | succ i =>
    rw [Nat.testBit_succ]
    simp

section S2
variable {X : List Int32} {d m pc p len q l1 l2 qa qb : Nat} {ns na nb : Bool} {ls : xx_L} {r : List Value} {S : ST} {K : Nat → xx_L → List Value → ST → Prop}
/-- x >>> j & 1, x >> j & 1 -/
theorem sMb {j : Nat} {x z : Int} {c : Int} (he : ((xt_P X).1 m).1 pc = some (.iushr, len, q, ns)) (he1 : ((xt_P X).1 m).1 (pc + len) = some (.iconst c, l1, qa, na)) (he2 : ((xt_P X).1 m).1 (pc + len + l1) = some (.iand, l2, qb, nb)) (hp : pc + len + l1 + l2 = p) (hc : c = 1) (hz : z = (j : Int)) (hj : j < 32) (kk : sT X d m p ls (.int (iI (bI (iB (iI x) j))) :: r) S K) : sT X d m pc ls (.int (iI z) :: .int (iI x) :: r) S K := by
  subst hp hz hc
  rw [← i_ushr (iI x) hj] at kk
  refine xv_loc he rfl (xv_loc he1 rfl (xv_loc he2 rfl ?_))
  exact kk
theorem sMs {j : Nat} {x z : Int} {c : Int} (he : ((xt_P X).1 m).1 pc = some (.ishr, len, q, ns)) (he1 : ((xt_P X).1 m).1 (pc + len) = some (.iconst c, l1, qa, na)) (he2 : ((xt_P X).1 m).1 (pc + len + l1) = some (.iand, l2, qb, nb)) (hp : pc + len + l1 + l2 = p) (hc : c = 1) (hz : z = (j : Int)) (hj : j < 32) (kk : sT X d m p ls (.int (iI (bI (iB (iI x) j))) :: r) S K) : sT X d m pc ls (.int (iI z) :: .int (iI x) :: r) S K := by
  subst hp hz hc
  rw [← i_shr (iI x) hj] at kk
  refine xv_loc he rfl (xv_loc he1 rfl (xv_loc he2 rfl ?_))
  exact kk
theorem iI_nn {n : Nat} (h : n < 2147483648) : ¬ iI (n : Int) < 0 := fun z => by
  have := (iI_lt (a := (n : Int)) (b := 0) ⟨by omega, by omega⟩ ⟨by omega, by omega⟩).mp z
  omega
theorem cpy_map {α : Type} {f g : Nat → α} {N0 N sp dp n : Nat} (h0 : sp + n ≤ N0) (h1 : dp + n ≤ N) : xx_cpy ((List.range N0).map f) ((List.range N).map g) sp dp n = (List.range N).map (fun k => if dp ≤ k ∧ k < dp + n then f (sp + (k - dp)) else g k) := by
  unfold xx_cpy
  refine List.ext_getElem? (fun k => ?_)
  have hl : (List.take dp ((List.range N).map g)).length = dp := by rw [List.length_take, List.length_map, List.length_range]; omega
  have hl2 : (List.take n (List.drop sp ((List.range N0).map f))).length = n := by rw [List.length_take, List.length_drop, List.length_map, List.length_range]; omega
  by_cases c1 : k < dp
  · rw [List.getElem?_append_left (by omega), List.getElem?_take, if_pos c1, List.getElem?_map, List.getElem?_map, List.getElem?_range (by omega)]
    simp only [Option.map_some]
    rw [if_neg (by omega)]
  · rw [List.getElem?_append_right (by omega), hl]
    by_cases c2 : k < dp + n
    · rw [List.getElem?_append_left (by omega), List.getElem?_take, if_pos (by omega), List.getElem?_drop, List.getElem?_map, List.getElem?_map, List.getElem?_range (by omega), List.getElem?_range (by omega)]
      simp only [Option.map_some]
      rw [if_pos (by omega)]
    · rw [List.getElem?_append_right (by omega), hl2, List.getElem?_drop, List.getElem?_map, List.getElem?_map, show dp + n + (k - dp - n) = k from by omega]
      by_cases c3 : k < N
      · rw [List.getElem?_range c3]
        simp only [Option.map_some]
        rw [if_neg (by omega)]
      · rw [List.getElem?_eq_none (by rw [List.length_range]; omega)]
        rfl
theorem xx_ac_l {a a0 N N0 sp dp n : Nat} (hk0 : kd S a0 = some (.inl (2, N0))) (hk : kd S a = some (.inl (2, N))) (h0 : sp + n ≤ N0) (h1 : dp + n ≤ N) (hN : N0 < 2147483648 ∧ N < 2147483648) (h8 : (r.map Value.category).sum ≤ 8) : xx_ac (.int (iI (n : Int)) :: .int (iI (dp : Int)) :: .ref a :: .int (iI (sp : Int)) :: .ref a0 :: r) (sH S) = some (r, sH (wLA S a (fun k => if dp ≤ k ∧ k < dp + n then SL S a0 (sp + (k - dp)) else SL S a k))) := by
  show (if iI (n : Int) < 0 ∨ iI (dp : Int) < 0 ∨ iI (sp : Int) < 0 ∨ 8 < (r.map Value.category).sum then none else _) = _
  rw [if_neg (fun z => by
    rcases z with z | z | z | z
    · exact iI_nn (by omega) z
    · exact iI_nn (by omega) z
    · exact iI_nn (by omega) z
    · omega)]
  unfold xx_ar
  rw [sh_al hk0, sh_al hk]
  dsimp only
  rw [if_neg (by decide), if_pos ⟨rfl, rfl⟩]
  unfold xx_lng
  dsimp only
  rw [iI_clamp (by omega), iI_clamp (by omega), iI_clamp (by omega), List.length_map, List.length_range, List.length_map, List.length_range, if_pos ⟨h0, h1⟩, cpy_map h0 h1]
  refine congrArg (fun h => some (r, h)) (sh_set hk rfl (fun b hb => rfl) (fun b hb => if_neg hb) (fun b hb => rfl) ?_)
  unfold sC
  dsimp only
  rw [if_pos rfl, SL_wLA, if_pos rfl]
theorem xx_ac_i {a a0 N N0 sp dp n : Nat} (hk0 : kd S a0 = some (.inl (0, N0))) (hk : kd S a = some (.inl (0, N))) (h0 : sp + n ≤ N0) (h1 : dp + n ≤ N) (hN : N0 < 2147483648 ∧ N < 2147483648) (h8 : (r.map Value.category).sum ≤ 8) : xx_ac (.int (iI (n : Int)) :: .int (iI (dp : Int)) :: .ref a :: .int (iI (sp : Int)) :: .ref a0 :: r) (sH S) = some (r, sH (wIA S a (fun k => if dp ≤ k ∧ k < dp + n then SI S a0 (sp + (k - dp)) else SI S a k))) := by
  show (if iI (n : Int) < 0 ∨ iI (dp : Int) < 0 ∨ iI (sp : Int) < 0 ∨ 8 < (r.map Value.category).sum then none else _) = _
  rw [if_neg (fun z => by
    rcases z with z | z | z | z
    · exact iI_nn (by omega) z
    · exact iI_nn (by omega) z
    · exact iI_nn (by omega) z
    · omega)]
  unfold xx_ar
  rw [sh_ai hk0 (by decide), sh_ai hk (by decide)]
  dsimp only
  rw [if_pos ⟨rfl, rfl⟩]
  unfold xx_int
  dsimp only
  rw [iI_clamp (by omega), iI_clamp (by omega), iI_clamp (by omega), List.length_map, List.length_range, List.length_map, List.length_range, if_pos ⟨h0, h1⟩, cpy_map h0 h1]
  refine congrArg (fun h => some (r, h)) (sh_set hk rfl (fun b hb => if_neg hb) (fun b hb => rfl) (fun b hb => rfl) ?_)
  unfold sC
  dsimp only
  rw [if_neg (by decide), SI_wIA, if_pos rfl]
  refine congrArg (fun l => Sum.inl (0, Sum.inl l)) (List.map_congr_left (fun k _ => ?_))
  by_cases c : dp ≤ k ∧ k < dp + n
  · rw [if_pos c, if_pos c]
  · rw [if_neg c, if_neg c]
theorem sAcL {k a a0 N N0 sp dp n : Nat} {x y z : Int} (he : ((xt_P X).1 m).1 pc = some (.invokestatic k, len, 1, ns)) (hp : pc + len = p) (hk0 : kd S a0 = some (.inl (2, N0))) (hk : kd S a = some (.inl (2, N))) (hx : x = (n : Int)) (hy : y = (dp : Int)) (hz : z = (sp : Int)) (h0 : sp + n ≤ N0) (h1 : dp + n ≤ N) (hN : N0 < 2147483648 ∧ N < 2147483648) (h8 : (r.map Value.category).sum ≤ 8) (kk : sT X (d + 1) m p ls r (wLA S a (fun k => if dp ≤ k ∧ k < dp + n then SL S a0 (sp + (k - dp)) else SL S a k)) K) : sT X (d + 1) m pc ls (.int (iI x) :: .int (iI y) :: .ref a :: .int (iI z) :: .ref a0 :: r) S K := by
  subst hp hx hy hz
  exact xv_prm he (xx_ac_l hk0 hk h0 h1 hN h8) kk
theorem sAcI {k a a0 N N0 sp dp n : Nat} {x y z : Int} (he : ((xt_P X).1 m).1 pc = some (.invokestatic k, len, 1, ns)) (hp : pc + len = p) (hk0 : kd S a0 = some (.inl (0, N0))) (hk : kd S a = some (.inl (0, N))) (hx : x = (n : Int)) (hy : y = (dp : Int)) (hz : z = (sp : Int)) (h0 : sp + n ≤ N0) (h1 : dp + n ≤ N) (hN : N0 < 2147483648 ∧ N < 2147483648) (h8 : (r.map Value.category).sum ≤ 8) (kk : sT X (d + 1) m p ls r (wIA S a (fun k => if dp ≤ k ∧ k < dp + n then SI S a0 (sp + (k - dp)) else SI S a k)) K) : sT X (d + 1) m pc ls (.int (iI x) :: .int (iI y) :: .ref a :: .int (iI z) :: .ref a0 :: r) S K := by
  subst hp hx hy hz
  exact xv_prm he (xx_ac_i hk0 hk h0 h1 hN h8) kk
/-- a new array of zeros -/
def nA (S : ST) (t n : Nat) : ST := (S.1 ++ [.inl (t, n)], ua (SI S) (203 + S.1.length) (fun _ => 0), ua (SL S) (203 + S.1.length) (fun _ => 0), SR S)
theorem kd_nA {t n a : Nat} (h : a < 203 + S.1.length) : kd (nA S t n) a = kd S a := by
  unfold kd nA
  rw [← List.append_assoc, List.getElem?_append_left (by rw [List.length_append]; exact h)]
theorem kd_nA_new (t n : Nat) : kd (nA S t n) (203 + S.1.length) = some (.inl (t, n)) := by
  unfold kd nA
  have hl : (K0 ++ S.1).length = 203 + S.1.length := by rw [List.length_append]; rfl
  rw [← List.append_assoc, List.getElem?_append_right (by omega), hl, Nat.sub_self]
  rfl
theorem kd_len {a : Nat} {k : KD} (h : kd S a = some k) : a < 203 + S.1.length := by
  have := kd_lt h
  rw [sh_len] at this
  exact this
theorem sh_nA (t n : Nat) : sH (nA S t n) = sH S ++ [sC (fun _ => 0) (fun _ => 0) (SR S (203 + S.1.length)) (.inl (t, n))] := by
  have hl : (K0 ++ S.1).length = 203 + S.1.length := by rw [List.length_append]; rfl
  refine List.ext_getElem? (fun b => ?_)
  rw [sh_get]
  by_cases hb : b < 203 + S.1.length
  · rw [kd_nA hb, List.getElem?_append_left (by rw [sh_len]; exact hb), sh_get]
    have e1 : SI (nA S t n) b = SI S b := ua_ne (by omega)
    have e2 : SL (nA S t n) b = SL S b := ua_ne (by omega)
    rw [e1, e2]
    rfl
  · by_cases hb2 : b = 203 + S.1.length
    · subst hb2
      rw [kd_nA_new, List.getElem?_append_right (by rw [sh_len]; omega), sh_len, Nat.sub_self]
      have e1 : SI (nA S t n) (203 + S.1.length) = fun _ => 0 := ua_eq
      have e2 : SL (nA S t n) (203 + S.1.length) = fun _ => 0 := ua_eq
      rw [e1, e2]
      rfl
    · rw [List.getElem?_append_right (by rw [sh_len]; omega), List.getElem?_eq_none (by rw [sh_len]; show 1 ≤ _; omega)]
      have : kd (nA S t n) b = none := by
        unfold kd nA
        refine List.getElem?_eq_none ?_
        rw [← List.append_assoc, List.length_append, hl]
        show _ + 1 ≤ _
        omega
      rw [this]
      rfl
theorem sNa {t : Nat} {ty : ArrayType} {n : Nat} {z : Int} (he : ((xt_P X).1 m).1 pc = some (.newarray ty, len, q, ns)) (hp : pc + len = p) (ht : (ty = .int ∧ t = 0) ∨ (ty = .byte ∧ t = 3)) (hz : z = (n : Int)) (hn : n ≤ 1000000) (kk : sT X d m p ls (.ref (203 + S.1.length) :: r) (nA S t n) K) : sT X d m pc ls (.int (iI z) :: r) S K := by
  subst hp hz
  have e0 : ∀ t, t ≠ 2 → sC (fun _ => 0) (fun _ => 0) (SR S (203 + S.1.length)) (.inl (t, n)) = .inl (t, .inl (List.replicate n 0)) := fun t ht => by
    unfold sC
    dsimp only
    rw [if_neg ht]
    refine congrArg (fun l => Sum.inl (t, Sum.inl l)) ?_
    rw [List.map_const', List.length_range]
    rfl
  refine xv_hp he (st' := .ref (203 + S.1.length) :: r) (h1 := sH (nA S t n)) ?_ kk
  show (if iI (n : Int) < 0 ∨ 1000000 < (iI (n : Int)).toNatClampNeg then none else (xx_new ty (iI (n : Int)).toNatClampNeg).bind fun c => some (.ref (sH S).length :: r, sH S ++ [c])) = _
  rw [iI_clamp (by omega), if_neg (fun z => by rcases z with z | z; exact iI_nn (by omega) z; omega), sh_nA, sh_len]
  rcases ht with ⟨rfl, rfl⟩ | ⟨rfl, rfl⟩
  · rw [e0 0 (by decide)]
    rfl
  · rw [e0 3 (by decide)]
    rfl
theorem nar_byte (z : Int) : vp_nar .byte (iI z) = (iI z).toInt8.toInt32 := rfl
/-- a byte is stored -/
theorem sWb {a n i : Nat} {z y w : Int} (he : ((xt_P X).1 m).1 pc = some (.bastore, len, q, ns)) (hp : pc + len = p) (hk : kd S a = some (.inl (3, n))) (hz : z = (i : Int)) (hi : i < n ∧ i < 2147483648) (hw : (iI y).toInt8.toInt32 = iI w) (kk : sT X d m p ls r (wI S a i w) K) : sT X d m pc ls (.int (iI y) :: .int (iI z) :: .ref a :: r) S K := by
  subst hp hz
  refine xv_bast he (sh_ai hk (by decide)) (xx_put_iI (by rw [List.length_map, List.length_range]; exact hi.1) hi.2) ?_
  rw [nar_byte, hw, sh_int hk (by decide)]
  exact kk
end S2
