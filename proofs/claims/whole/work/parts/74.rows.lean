/-! ===== rows of bits in memory ===== -/
def l01 (b : Bool) : Int64 := if b then lN 1 else lN 0
theorem l01_0 {b : Bool} : l01 b = lN 0 ↔ b = false := by cases b <;> decide
theorem l01_1 {b : Bool} : l01 b = lN 1 ↔ b = true := by cases b <;> decide
theorem l_ushr1 (x : Int64) {j : Nat} (hj : j < 64) : (x.toUInt64 >>> ((iI (j : Int)).toInt64.toUInt64 &&& Int64.toUInt64 63)).toInt64 &&& lN 1 = l01 (bL x j) := l_ushr x hj
section SMB
variable {X : List Int32} {d m pc p p2 len q len2 q2 : Nat} {ns ns2 : Bool} {ls : xx_L} {r : List Value} {S : ST} {K : Nat → xx_L → List Value → ST → Prop}
theorem sAn (k : Nat) {a b z : Int} (he : ((xt_P X).1 m).1 pc = some (.iand, len, q, ns)) (hp : pc + len = p) (hb : b = ((2 ^ k - 1 : Nat) : Int)) (hk : k ≤ 31) (hz : z = a % ((2 ^ k : Nat) : Int)) (kk : sT X d m p ls (.int (iI z) :: r) S K) : sT X d m pc ls (.int (iI b) :: .int (iI a) :: r) S K := by
  subst hp hb hz
  rw [← iI_and k hk] at kk
  exact xv_loc he rfl kk
theorem sSr (k : Nat) {a b z : Int} (he : ((xt_P X).1 m).1 pc = some (.ishr, len, q, ns)) (hp : pc + len = p) (ha : rg a) (hb : b = (k : Int)) (hk : k < 32) (hz : z = a / ((2 ^ k : Nat) : Int)) (kk : sT X d m p ls (.int (iI z) :: r) S K) : sT X d m pc ls (.int (iI b) :: .int (iI a) :: r) S K := by
  subst hp hb hz
  rw [← iI_shr ha k hk] at kk
  exact xv_loc he rfl kk
/-- the bit of a word: >>> then & 1 -/
theorem sBt {j : Nat} {x : Int64} {z : Int} {l1 l2 : Nat} {qa qb : Nat} {na nb : Bool} {c : Fin 2} (he : ((xt_P X).1 m).1 pc = some (.lushr, len, q, ns)) (he1 : ((xt_P X).1 m).1 (pc + len) = some (.lconst c, l1, qa, na)) (he2 : ((xt_P X).1 m).1 (pc + len + l1) = some (.land, l2, qb, nb)) (hp : pc + len + l1 + l2 = p) (hc : c.val = 1) (hz : z = (j : Int)) (hj : j < 64) (kk : sT X d m p ls (.long (l01 (bL x j)) :: r) S K) : sT X d m pc ls (.int (iI z) :: .long x :: r) S K := by
  subst hp hz
  rw [← l_ushr1 x hj] at kk
  refine xv_loc he rfl (xv_loc he1 rfl (xv_loc he2 rfl ?_))
  rw [hc]
  exact kk
/-- 1L << .. -/
theorem sTw {j : Nat} {z : Int} (he : ((xt_P X).1 m).1 pc = some (.lshl, len, q, ns)) (hp : pc + len = p) (hz : z = (j : Int)) (hj : j < 64) (kk : sT X d m p ls (.long (tw j) :: r) S K) : sT X d m pc ls (.int (iI z) :: .long (lN 1) :: r) S K := by
  subst hp hz
  rw [← l_shl hj] at kk
  exact xv_loc he rfl kk
theorem sI2l {z : Int} (he : ((xt_P X).1 m).1 pc = some (.i2l, len, q, ns)) (hp : pc + len = p) (hz : rg z) (kk : sT X d m p ls (.long (lI z) :: r) S K) : sT X d m pc ls (.int (iI z) :: r) S K := by
  subst hp
  rw [← lI_i hz] at kk
  exact xv_loc he rfl kk
theorem sKj {c : Fin 2} (he : ((xt_P X).1 m).1 pc = some (.lconst c, len, q, ns)) (hp : pc + len = p) (kk : sT X d m p ls (.long (lI (c.val : Nat)) :: r) S K) : sT X d m pc ls r S K := by
  subst hp
  rw [lI_lN] at kk
  exact xv_loc he rfl kk
theorem lc_eq (x y : Int64) : lg_cmp x y = 0 ↔ x = y := by
  unfold lg_cmp
  simp only [gt_iff_lt, Int64.lt_iff_toInt_lt, ← Int64.toInt_inj]
  repeat' split
  all_goals (constructor <;> intro hh <;> first | omega | rfl | (exact absurd hh (by decide)))
theorem sLq_lt {o : Int} {x y : Int64} (he : ((xt_P X).1 m).1 pc = some (.lcmp, len, q, ns)) (he2 : ((xt_P X).1 m).1 (pc + len) = some (.ifCond .lt o, len2, q2, ns2)) (hp : pc + len + len2 = p) (kt : x < y → sT X d m q2 ls r S K) (kf : y ≤ x → sT X d m p ls r S K) : sT X d m pc ls (.long y :: .long x :: r) S K := by
  subst hp
  refine xv_loc he rfl (xv_ifc he2 (fun c => kt ((lg_cmp_lt x y).mp (of_decide_eq_true c))) (fun c => kf ?_))
  have c := fun z => of_decide_eq_false c ((lg_cmp_lt x y).mpr z)
  exact Int64.not_lt.mp c
theorem sLf_lt {o a b : Int} (he : ((xt_P X).1 m).1 pc = some (.lcmp, len, q, ns)) (he2 : ((xt_P X).1 m).1 (pc + len) = some (.ifCond .lt o, len2, q2, ns2)) (hp : pc + len + len2 = p) (ha : rl a) (hb : rl b) (kt : a < b → sT X d m q2 ls r S K) (kf : b ≤ a → sT X d m p ls r S K) : sT X d m pc ls (.long (lI b) :: .long (lI a) :: r) S K := sLq_lt he he2 hp (fun c => kt ((lI_lt ha hb).mp c)) (fun c => kf ((lI_le hb ha).mp c))
theorem sLq_ge {o : Int} {x y : Int64} (he : ((xt_P X).1 m).1 pc = some (.lcmp, len, q, ns)) (he2 : ((xt_P X).1 m).1 (pc + len) = some (.ifCond .ge o, len2, q2, ns2)) (hp : pc + len + len2 = p) (kt : y ≤ x → sT X d m q2 ls r S K) (kf : x < y → sT X d m p ls r S K) : sT X d m pc ls (.long y :: .long x :: r) S K := by
  subst hp
  refine xv_loc he rfl (xv_ifc he2 (fun c => kt ((lg_cmp_ge x y).mp (of_decide_eq_true c))) (fun c => kf ?_))
  have c := fun z => of_decide_eq_false c ((lg_cmp_ge x y).mpr z)
  exact Int64.not_le.mp c
theorem sLf_ge {o a b : Int} (he : ((xt_P X).1 m).1 pc = some (.lcmp, len, q, ns)) (he2 : ((xt_P X).1 m).1 (pc + len) = some (.ifCond .ge o, len2, q2, ns2)) (hp : pc + len + len2 = p) (ha : rl a) (hb : rl b) (kt : b ≤ a → sT X d m q2 ls r S K) (kf : a < b → sT X d m p ls r S K) : sT X d m pc ls (.long (lI b) :: .long (lI a) :: r) S K := sLq_ge he he2 hp (fun c => kt ((lI_le hb ha).mp c)) (fun c => kf ((lI_lt ha hb).mp c))
theorem sLq_gt {o : Int} {x y : Int64} (he : ((xt_P X).1 m).1 pc = some (.lcmp, len, q, ns)) (he2 : ((xt_P X).1 m).1 (pc + len) = some (.ifCond .gt o, len2, q2, ns2)) (hp : pc + len + len2 = p) (kt : y < x → sT X d m q2 ls r S K) (kf : x ≤ y → sT X d m p ls r S K) : sT X d m pc ls (.long y :: .long x :: r) S K := by
  subst hp
  refine xv_loc he rfl (xv_ifc he2 (fun c => kt ((lg_cmp_gt x y).mp (of_decide_eq_true c))) (fun c => kf ?_))
  have c := fun z => of_decide_eq_false c ((lg_cmp_gt x y).mpr z)
  exact Int64.not_lt.mp c
theorem sLf_gt {o a b : Int} (he : ((xt_P X).1 m).1 pc = some (.lcmp, len, q, ns)) (he2 : ((xt_P X).1 m).1 (pc + len) = some (.ifCond .gt o, len2, q2, ns2)) (hp : pc + len + len2 = p) (ha : rl a) (hb : rl b) (kt : b < a → sT X d m q2 ls r S K) (kf : a ≤ b → sT X d m p ls r S K) : sT X d m pc ls (.long (lI b) :: .long (lI a) :: r) S K := sLq_gt he he2 hp (fun c => kt ((lI_lt hb ha).mp c)) (fun c => kf ((lI_le ha hb).mp c))
theorem sLq_le {o : Int} {x y : Int64} (he : ((xt_P X).1 m).1 pc = some (.lcmp, len, q, ns)) (he2 : ((xt_P X).1 m).1 (pc + len) = some (.ifCond .le o, len2, q2, ns2)) (hp : pc + len + len2 = p) (kt : x ≤ y → sT X d m q2 ls r S K) (kf : y < x → sT X d m p ls r S K) : sT X d m pc ls (.long y :: .long x :: r) S K := by
  subst hp
  refine xv_loc he rfl (xv_ifc he2 (fun c => kt ((lg_cmp_le x y).mp (of_decide_eq_true c))) (fun c => kf ?_))
  have c := fun z => of_decide_eq_false c ((lg_cmp_le x y).mpr z)
  exact Int64.not_le.mp c
theorem sLf_le {o a b : Int} (he : ((xt_P X).1 m).1 pc = some (.lcmp, len, q, ns)) (he2 : ((xt_P X).1 m).1 (pc + len) = some (.ifCond .le o, len2, q2, ns2)) (hp : pc + len + len2 = p) (ha : rl a) (hb : rl b) (kt : a ≤ b → sT X d m q2 ls r S K) (kf : b < a → sT X d m p ls r S K) : sT X d m pc ls (.long (lI b) :: .long (lI a) :: r) S K := sLq_le he he2 hp (fun c => kt ((lI_le ha hb).mp c)) (fun c => kf ((lI_lt hb ha).mp c))
theorem sLq_eq {o : Int} {x y : Int64} (he : ((xt_P X).1 m).1 pc = some (.lcmp, len, q, ns)) (he2 : ((xt_P X).1 m).1 (pc + len) = some (.ifCond .eq o, len2, q2, ns2)) (hp : pc + len + len2 = p) (kt : x = y → sT X d m q2 ls r S K) (kf : ¬ x = y → sT X d m p ls r S K) : sT X d m pc ls (.long y :: .long x :: r) S K := by
  subst hp
  refine xv_loc he rfl (xv_ifc he2 (fun c => kt ((lc_eq x y).mp (of_decide_eq_true c))) (fun c => kf ?_))
  have c := fun z => of_decide_eq_false c ((lc_eq x y).mpr z)
  exact c
theorem sLf_eq {o a b : Int} (he : ((xt_P X).1 m).1 pc = some (.lcmp, len, q, ns)) (he2 : ((xt_P X).1 m).1 (pc + len) = some (.ifCond .eq o, len2, q2, ns2)) (hp : pc + len + len2 = p) (ha : rl a) (hb : rl b) (kt : a = b → sT X d m q2 ls r S K) (kf : ¬ a = b → sT X d m p ls r S K) : sT X d m pc ls (.long (lI b) :: .long (lI a) :: r) S K := sLq_eq he he2 hp (fun c => kt ((lI_eq ha hb).mp c)) (fun c => kf ((not_congr (lI_eq ha hb)).mp c))
theorem sLq_ne {o : Int} {x y : Int64} (he : ((xt_P X).1 m).1 pc = some (.lcmp, len, q, ns)) (he2 : ((xt_P X).1 m).1 (pc + len) = some (.ifCond .ne o, len2, q2, ns2)) (hp : pc + len + len2 = p) (kt : ¬ x = y → sT X d m q2 ls r S K) (kf : x = y → sT X d m p ls r S K) : sT X d m pc ls (.long y :: .long x :: r) S K := by
  subst hp
  refine xv_loc he rfl (xv_ifc he2 (fun c => kt ((not_congr (lc_eq x y)).mp (of_decide_eq_true c))) (fun c => kf ?_))
  have c := fun z => of_decide_eq_false c ((not_congr (lc_eq x y)).mpr z)
  exact Classical.not_not.mp c
theorem sLf_ne {o a b : Int} (he : ((xt_P X).1 m).1 pc = some (.lcmp, len, q, ns)) (he2 : ((xt_P X).1 m).1 (pc + len) = some (.ifCond .ne o, len2, q2, ns2)) (hp : pc + len + len2 = p) (ha : rl a) (hb : rl b) (kt : ¬ a = b → sT X d m q2 ls r S K) (kf : a = b → sT X d m p ls r S K) : sT X d m pc ls (.long (lI b) :: .long (lI a) :: r) S K := sLq_ne he he2 hp (fun c => kt ((not_congr (lI_eq ha hb)).mp c)) (fun c => kf ((lI_eq ha hb).mp c))
end SMB
/-- a row of bits stands in a cell, from a place on -/
def rowS (S : ST) (a o : Nat) (f : Nat → Bool) : Prop := ∀ k, k < 16 → SL S a (o + k) = pkw f k
def wRw (S : ST) (a o : Nat) (f : Nat → Bool) : ST := wLA S a (fun k => if o ≤ k ∧ k < o + 16 then pkw f (k - o) else SL S a k)
theorem SI_wRw (S : ST) (a o : Nat) (f : Nat → Bool) : SI (wRw S a o f) = SI S := rfl
theorem SR_wRw (S : ST) (a o : Nat) (f : Nat → Bool) : SR (wRw S a o f) = SR S := rfl
theorem kd_wRw (S : ST) (a o : Nat) (f : Nat → Bool) (b : Nat) : kd (wRw S a o f) b = kd S b := rfl
theorem SL_wRw (S : ST) (a o : Nat) (f : Nat → Bool) (b k : Nat) : SL (wRw S a o f) b k = if b = a ∧ o ≤ k ∧ k < o + 16 then pkw f (k - o) else SL S b k := by
  unfold wRw
  rw [SL_wLA]
  by_cases h : b = a
  · subst h
    rw [if_pos rfl]
    simp
  · rw [if_neg h, if_neg (fun z => h z.1)]
theorem rowS_wRw (S : ST) (a o : Nat) (f : Nat → Bool) : rowS (wRw S a o f) a o f := fun k hk => by
  rw [SL_wRw, if_pos ⟨rfl, by omega, by omega⟩, Nat.add_sub_cancel_left]
theorem rowS_ne {S : ST} {a o b o2 : Nat} {f g : Nat → Bool} (h : b ≠ a ∨ o2 + 16 ≤ o ∨ o + 16 ≤ o2) (hg : rowS S b o2 g) : rowS (wRw S a o f) b o2 g := fun k hk => by
  rw [SL_wRw, if_neg (by omega)]
  exact hg k hk
theorem st_ext {S T : ST} (h1 : S.1 = T.1) (h2 : SI S = SI T) (h3 : SL S = SL T) (h4 : SR S = SR T) : S = T := by
  obtain ⟨a, b, c, d⟩ := S
  obtain ⟨a', b', c', d'⟩ := T
  cases h1
  cases h2
  cases h3
  cases h4
  rfl
theorem wRw_same {S : ST} {a o : Nat} {f : Nat → Bool} (h : rowS S a o f) : wRw S a o f = S := st_ext rfl rfl (funext fun b => funext fun k => by
  rw [SL_wRw]
  split
  · rename_i z
    obtain ⟨rfl, h1, h2⟩ := z
    have := h (k - o) (by omega)
    rw [Nat.add_sub_cancel' h1] at this
    exact this.symm
  · rfl) rfl
theorem wRw_wRw (S : ST) (a o : Nat) (f g : Nat → Bool) : wRw (wRw S a o f) a o g = wRw S a o g := st_ext rfl rfl (funext fun b => funext fun k => by
  rw [SL_wRw, SL_wRw, SL_wRw]
  split
  · rfl
  · rfl) rfl
theorem wRw_eq {S : ST} {a o : Nat} {f g : Nat → Bool} (h : ∀ r, r < 1024 → f r = g r) : wRw S a o f = wRw S a o g := by
  unfold wRw
  refine congrArg (wLA S a) (funext fun k => ?_)
  by_cases z : o ≤ k ∧ k < o + 16
  · rw [if_pos z, if_pos z]
    exact pkw_all h (by omega)
  · rw [if_neg z, if_neg z]
theorem rowS_eq {S : ST} {a o : Nat} {f g : Nat → Bool} (h : rowS S a o f) (hf : ∀ r, r < 1024 → f r = g r) : rowS S a o g := fun k hk => by rw [h k hk]; exact pkw_all hf hk
/-- one word of a row is written -/
theorem wL_row {S : ST} {a o i : Nat} {f g : Nat → Bool} (h : rowS S a o f) (hi : i < 16) (hg : ∀ k, k < 16 → k ≠ i → pkw g k = pkw f k) : wL S a (o + i) (pkw g i) = wRw S a o g := st_ext rfl rfl (funext fun b => funext fun k => by
  rw [SL_wL, SL_wRw]
  by_cases hb : b = a ∧ k = o + i
  · obtain ⟨rfl, rfl⟩ := hb
    rw [if_pos ⟨rfl, rfl⟩, if_pos ⟨rfl, by omega, by omega⟩, Nat.add_sub_cancel_left]
  · rw [if_neg hb]
    by_cases z : b = a ∧ o ≤ k ∧ k < o + 16
    · rw [if_pos z]
      obtain ⟨rfl, h1, h2⟩ := z
      rw [hg (k - o) (by omega) (fun e => hb ⟨rfl, by omega⟩)]
      have := h (k - o) (by omega)
      rw [Nat.add_sub_cancel' h1] at this
      exact this
    · rw [if_neg z]) rfl
section RW
variable {X : List Int32} {S : ST} {a : Nat} {f : Nat → Bool} {r : Nat}
theorem c_so (hk : kd S a = some (.inl (2, 16))) (hf : rowS S a 0 f) (hr : r < 1024) : sM X 0 54 [.ref a, .int (iI (r : Nat))] S (sV (some (.int (iI (bI (f r))))) S) := by
  have hw : SL S a (r / 64) = pkw f (r / 64) := by
    have := hf (r / 64) (by omega)
    rw [Nat.zero_add] at this
    exact this
  have hb : bL (pkw f (r / 64)) (r % 64) = f r := by
    rw [bL_pkw (by omega), Nat.div_add_mod]
  refine sL (pc' := 1) (i := .aload_n 0) rfl rfl ?_
  refine sL (pc' := 2) (i := .iload_n 1) rfl rfl ?_
  refine sKb (p := 4) rfl rfl ?_
  refine sSr 6 (p := 5) (z := ((r / 64 : Nat) : Int)) rfl rfl ⟨by omega, by omega⟩ rfl (by decide) (by omega) ?_
  refine sKb (p := 7) rfl rfl ?_
  refine sAn 4 (p := 8) (z := ((r / 64 : Nat) : Int)) rfl rfl rfl (by decide) (by omega) ?_
  refine sAl (p := 9) rfl rfl hk rfl ⟨by omega, by omega⟩ hw ?_
  refine sL (pc' := 10) (i := .iload_n 1) rfl rfl ?_
  refine sKb (p := 12) rfl rfl ?_
  refine sAn 6 (p := 13) (z := ((r % 64 : Nat) : Int)) rfl rfl rfl (by decide) (by omega) ?_
  refine sBt (p := 16) (j := r % 64) rfl rfl rfl rfl rfl rfl (by omega) ?_
  refine sL (pc' := 17) (i := .lconst 0) rfl rfl ?_
  refine sLq_eq (p := 21) rfl rfl rfl (fun c1 => ?_) (fun c1 => ?_)
  · have c1 := l01_0.mp c1
    rw [hb] at c1
    refine sKi (p := 26) rfl rfl ?_
    refine sEn (i := .ireturn) rfl rfl ?_
    rw [c1]
    exact ⟨rfl, rfl⟩
  · have c1 : f r = true := by
      rw [← hb]
      cases e : bL (pkw f (r / 64)) (r % 64) with
      | true => rfl
      | false => exact absurd (l01_0.mpr e) c1
    refine sKi (p := 22) rfl rfl ?_
    refine sL (i := .goto 4) rfl rfl ?_
    refine sEn (i := .ireturn) rfl rfl ?_
    rw [c1]
    exact ⟨rfl, rfl⟩
theorem c_mark (hk : kd S a = some (.inl (2, 16))) (hf : rowS S a 0 f) (hr : r < 1024) : sM X 0 55 [.ref a, .int (iI (r : Nat))] S (sV none (wRw S a 0 (fun s => f s || decide (s = r)))) := by
  have hw : SL S a (r / 64) = pkw f (r / 64) := by
    have := hf (r / 64) (by omega)
    rw [Nat.zero_add] at this
    exact this
  have hb : bL (pkw f (r / 64)) (r % 64) = f r := by
    rw [bL_pkw (by omega), Nat.div_add_mod]
  refine sL (pc' := 1) (i := .aload_n 0) rfl rfl ?_
  refine sL (pc' := 2) (i := .iload_n 1) rfl rfl ?_
  refine sKb (p := 4) rfl rfl ?_
  refine sSr 6 (p := 5) (z := ((r / 64 : Nat) : Int)) rfl rfl ⟨by omega, by omega⟩ rfl (by decide) (by omega) ?_
  refine sKb (p := 7) rfl rfl ?_
  refine sAn 4 (p := 8) (z := ((r / 64 : Nat) : Int)) rfl rfl rfl (by decide) (by omega) ?_
  refine sL (pc' := 9) (i := .dup2) rfl rfl ?_
  refine sAl (p := 10) rfl rfl hk rfl ⟨by omega, by omega⟩ hw ?_
  refine sL (pc' := 11) (i := .lconst 1) rfl rfl ?_
  refine sL (pc' := 12) (i := .iload_n 1) rfl rfl ?_
  refine sKb (p := 14) rfl rfl ?_
  refine sAn 6 (p := 15) (z := ((r % 64 : Nat) : Int)) rfl rfl rfl (by decide) (by omega) ?_
  refine sTw (p := 16) (j := r % 64) rfl rfl rfl (by omega) ?_
  refine sL (pc' := 17) (i := .lor) rfl rfl ?_
  refine sWl (p := 18) rfl rfl hk rfl ⟨by omega, by omega⟩ ?_
  refine sEn (i := .return_) rfl (rfl) ?_
  refine ⟨rfl, congrArg sH ?_⟩
  rw [pkw_set rfl, ← wL_row hf (i := r / 64) (by omega) (fun k _ hk => pkw_far hk), Nat.zero_add]
theorem c_unmark (hk : kd S a = some (.inl (2, 16))) (hf : rowS S a 0 f) (hr : r < 1024) : sM X 0 56 [.ref a, .int (iI (r : Nat))] S (sV none (wRw S a 0 (fun s => f s && !decide (s = r)))) := by
  have hw : SL S a (r / 64) = pkw f (r / 64) := by
    have := hf (r / 64) (by omega)
    rw [Nat.zero_add] at this
    exact this
  have hb : bL (pkw f (r / 64)) (r % 64) = f r := by
    rw [bL_pkw (by omega), Nat.div_add_mod]
  refine sL (pc' := 1) (i := .aload_n 0) rfl rfl ?_
  refine sL (pc' := 2) (i := .iload_n 1) rfl rfl ?_
  refine sKb (p := 4) rfl rfl ?_
  refine sSr 6 (p := 5) (z := ((r / 64 : Nat) : Int)) rfl rfl ⟨by omega, by omega⟩ rfl (by decide) (by omega) ?_
  refine sKb (p := 7) rfl rfl ?_
  refine sAn 4 (p := 8) (z := ((r / 64 : Nat) : Int)) rfl rfl rfl (by decide) (by omega) ?_
  refine sL (pc' := 9) (i := .dup2) rfl rfl ?_
  refine sAl (p := 10) rfl rfl hk rfl ⟨by omega, by omega⟩ hw ?_
  refine sL (pc' := 11) (i := .lconst 1) rfl rfl ?_
  refine sL (pc' := 12) (i := .iload_n 1) rfl rfl ?_
  refine sKb (p := 14) rfl rfl ?_
  refine sAn 6 (p := 15) (z := ((r % 64 : Nat) : Int)) rfl rfl rfl (by decide) (by omega) ?_
  refine sTw (p := 16) (j := r % 64) rfl rfl rfl (by omega) ?_
  refine sL (pc' := 19) (i := .ldc2_w 31) rfl rfl ?_
  refine sL (pc' := 20) (i := .lxor) rfl rfl ?_
  refine sL (pc' := 21) (i := .land) rfl rfl ?_
  refine sWl (p := 22) rfl rfl hk rfl ⟨by omega, by omega⟩ ?_
  refine sEn (i := .return_) rfl (rfl) ?_
  refine ⟨rfl, congrArg sH ?_⟩
  rw [pkw_clr rfl, ← wL_row hf (i := r / 64) (by omega) (fun k _ hk => pkw_far' hk), Nat.zero_add]
theorem c_get {o N : Nat} (hk : kd S a = some (.inl (2, N))) (hN : o + 16 ≤ N ∧ N < 1000000) (hf : rowS S a o f) (hr : r < 1024) : sM X 0 164 [.ref a, .int (iI (o : Nat)), .int (iI (r : Nat))] S (sV (some (.int (iI (bI (f r))))) S) := by
  have hw : SL S a (o + r / 64) = pkw f (r / 64) := hf (r / 64) (by omega)
  have hb : bL (pkw f (r / 64)) (r % 64) = f r := by
    rw [bL_pkw (by omega), Nat.div_add_mod]
  refine sL (pc' := 1) (i := .aload_n 0) rfl rfl ?_
  refine sL (pc' := 2) (i := .iload_n 1) rfl rfl ?_
  refine sL (pc' := 3) (i := .iload_n 2) rfl rfl ?_
  refine sKb (p := 5) rfl rfl ?_
  refine sSr 6 (p := 6) (z := ((r / 64 : Nat) : Int)) rfl rfl ⟨by omega, by omega⟩ rfl (by decide) (by omega) ?_
  refine sAd (p := 7) rfl rfl ?_
  refine sAl (p := 8) (i := o + r / 64) rfl rfl hk (by omega) ⟨by omega, by omega⟩ hw ?_
  refine sL (pc' := 9) (i := .iload_n 2) rfl rfl ?_
  refine sKb (p := 11) rfl rfl ?_
  refine sAn 6 (p := 12) (z := ((r % 64 : Nat) : Int)) rfl rfl rfl (by decide) (by omega) ?_
  refine sBt (p := 15) (j := r % 64) rfl rfl rfl rfl rfl rfl (by omega) ?_
  refine sL (pc' := 16) (i := .lconst 1) rfl rfl ?_
  refine sLq_ne (p := 20) rfl rfl rfl (fun c1 => ?_) (fun c1 => ?_)
  · have c1 : f r = false := by
      rw [← hb]
      cases e : bL (pkw f (r / 64)) (r % 64) with
      | false => rfl
      | true => exact absurd (l01_1.mpr e) c1
    refine sKi (p := 25) rfl rfl ?_
    refine sEn (i := .ireturn) rfl rfl ?_
    rw [c1]
    exact ⟨rfl, rfl⟩
  · have c1 := l01_1.mp c1
    rw [hb] at c1
    refine sKi (p := 21) rfl rfl ?_
    refine sL (i := .goto 4) rfl rfl ?_
    refine sEn (i := .ireturn) rfl rfl ?_
    rw [c1]
    exact ⟨rfl, rfl⟩
theorem c_set {o N : Nat} (hk : kd S a = some (.inl (2, N))) (hN : o + 16 ≤ N ∧ N < 1000000) (hf : rowS S a o f) (hr : r < 1024) : sM X 0 165 [.ref a, .int (iI (o : Nat)), .int (iI (r : Nat))] S (sV none (wRw S a o (fun s => f s || decide (s = r)))) := by
  have hw : SL S a (o + r / 64) = pkw f (r / 64) := hf (r / 64) (by omega)
  have hb : bL (pkw f (r / 64)) (r % 64) = f r := by
    rw [bL_pkw (by omega), Nat.div_add_mod]
  refine sL (pc' := 1) (i := .aload_n 0) rfl rfl ?_
  refine sL (pc' := 2) (i := .iload_n 1) rfl rfl ?_
  refine sL (pc' := 3) (i := .iload_n 2) rfl rfl ?_
  refine sKb (p := 5) rfl rfl ?_
  refine sSr 6 (p := 6) (z := ((r / 64 : Nat) : Int)) rfl rfl ⟨by omega, by omega⟩ rfl (by decide) (by omega) ?_
  refine sAd (p := 7) rfl rfl ?_
  refine sL (pc' := 8) (i := .dup2) rfl rfl ?_
  refine sAl (p := 9) (i := o + r / 64) rfl rfl hk (by omega) ⟨by omega, by omega⟩ hw ?_
  refine sL (pc' := 10) (i := .lconst 1) rfl rfl ?_
  refine sL (pc' := 11) (i := .iload_n 2) rfl rfl ?_
  refine sKb (p := 13) rfl rfl ?_
  refine sAn 6 (p := 14) (z := ((r % 64 : Nat) : Int)) rfl rfl rfl (by decide) (by omega) ?_
  refine sTw (p := 15) (j := r % 64) rfl rfl rfl (by omega) ?_
  refine sL (pc' := 16) (i := .lor) rfl rfl ?_
  refine sWl (p := 17) (i := o + r / 64) rfl rfl hk (by omega) ⟨by omega, by omega⟩ ?_
  refine sEn (i := .return_) rfl (rfl) ?_
  refine ⟨rfl, congrArg sH ?_⟩
  rw [pkw_set rfl, ← wL_row hf (i := r / 64) (by omega) (fun k _ hk => pkw_far hk)]
end RW
