/-! ===== rows of bits: words of 64 ===== -/
def lI (z : Int) : Int64 := Int64.ofInt z
theorem lI_lN (n : Nat) : lI (n : Int) = lN n := Int64.ofInt_eq_ofNat
def rl (z : Int) : Prop := -9223372036854775808 ≤ z ∧ z < 9223372036854775808
theorem lI_toInt {z : Int} (h : rl z) : (lI z).toInt = z := Int64.toInt_ofInt_of_le h.1 h.2
theorem lI_lt {a b : Int} (ha : rl a) (hb : rl b) : lI a < lI b ↔ a < b := by rw [Int64.lt_iff_toInt_lt, lI_toInt ha, lI_toInt hb]
theorem lI_le {a b : Int} (ha : rl a) (hb : rl b) : lI a ≤ lI b ↔ a ≤ b := by rw [Int64.le_iff_toInt_le, lI_toInt ha, lI_toInt hb]
theorem lI_eq {a b : Int} (ha : rl a) (hb : rl b) : lI a = lI b ↔ a = b := by rw [← Int64.toInt_inj, lI_toInt ha, lI_toInt hb]
theorem lI_add (a b : Int) : lI a + lI b = lI (a + b) := (Int64.ofInt_add a b).symm
theorem lI_sub (a b : Int) : lI a - lI b = lI (a - b) := (Int64.ofInt_sub a b).symm
theorem lI_mul (a b : Int) : lI a * lI b = lI (a * b) := (Int64.ofInt_mul a b).symm
theorem lI_neg (a : Int) : - lI a = lI (- a) := (Int64.ofInt_neg a).symm
theorem lI_i {z : Int} (h : rg z) : (iI z).toInt64 = lI z := by
  rw [← Int64.toInt_inj, Int32.toInt_toInt64, iI_toInt h, lI_toInt ⟨by have := h.1; omega, by have := h.2; omega⟩]
theorem lI_of (x : Int64) : lI x.toInt = x := Int64.ofInt_toInt x
theorem lI_div {a b : Int} (ha : 0 ≤ a) (ha2 : a < 9223372036854775808) (hb : 0 < b) (hb2 : b < 9223372036854775808) : lI a / lI b = lI (a / b) := by
  have h1 : 0 ≤ a / b := Int.ediv_nonneg ha (by omega)
  have h2 : a / b ≤ a := Int.ediv_le_self b ha
  rw [← Int64.toInt_inj, Int64.toInt_div, lI_toInt ⟨by omega, ha2⟩, lI_toInt ⟨by omega, hb2⟩, lI_toInt ⟨by omega, by omega⟩, Int.tdiv_eq_ediv_of_nonneg ha]
  exact Int.bmod_eq_of_le (by omega) (by omega)
/-- & with 2^k - 1 -/
theorem iI_and {a : Int} (k : Nat) (hk : k ≤ 31) : iI a &&& iI ((2 ^ k - 1 : Nat) : Int) = iI (a % ((2 ^ k : Nat) : Int)) := by
  have h2 : 2 ^ k ≤ 2 ^ 31 := Nat.pow_le_pow_right (by omega) hk
  have hp : 0 < 2 ^ k := Nat.two_pow_pos k
  have hd : ((2 ^ k : Nat) : Int) ∣ ((2 ^ 32 : Nat) : Int) := Int.natCast_dvd_natCast.mpr (Nat.pow_dvd_pow 2 (by omega))
  rw [← Int32.toBitVec_inj, Int32.toBitVec_and]
  refine BitVec.eq_of_toNat_eq ?_
  rw [BitVec.toNat_and]
  show (BitVec.ofInt 32 a).toNat &&& (BitVec.ofInt 32 ((2 ^ k - 1 : Nat) : Int)).toNat = (BitVec.ofInt 32 _).toNat
  rw [BitVec.toNat_ofInt, BitVec.toNat_ofInt, BitVec.toNat_ofInt]
  have e1 : (((2 ^ k - 1 : Nat) : Int) % ((2 ^ 32 : Nat) : Int)).toNat = 2 ^ k - 1 := by
    rw [Int.emod_eq_of_lt (by omega) (by omega)]
    omega
  have h0 : 0 ≤ a % ((2 ^ k : Nat) : Int) := Int.emod_nonneg _ (by omega)
  have h1 : a % ((2 ^ k : Nat) : Int) < ((2 ^ k : Nat) : Int) := Int.emod_lt_of_pos _ (by omega)
  rw [e1, Nat.and_two_pow_sub_one_eq_mod, Int.emod_eq_of_lt (a := a % _) h0 (by omega)]
  have h3 : 0 ≤ a % ((2 ^ 32 : Nat) : Int) := Int.emod_nonneg _ (by omega)
  have e2 : (a % ((2 ^ 32 : Nat) : Int)).toNat % 2 ^ k = ((a % ((2 ^ 32 : Nat) : Int)) % ((2 ^ k : Nat) : Int)).toNat := by
    rw [Int.toNat_emod h3 (by omega)]
    rfl
  rw [e2, Int.emod_emod_of_dvd _ hd]
theorem iI_shr {a : Int} (h : rg a) (k : Nat) (hk : k < 32) : iI a >>> (iI (k : Int) &&& 31) = iI (a / ((2 ^ k : Nat) : Int)) := by
  have e : ∀ k : Nat, k < 32 → ((iI (k : Int) &&& 31).toBitVec.smod 32).toNat = k := by decide +kernel
  have h1 : a / ((2 ^ k : Nat) : Int) ≤ 2147483647 := Int.ediv_le_of_le_mul (by have := Nat.two_pow_pos k; omega) (by
    have := Nat.two_pow_pos k
    have h2 : (1 : Int) ≤ ((2 ^ k : Nat) : Int) := by omega
    have := h.2
    have : 2147483647 * 1 ≤ 2147483647 * ((2 ^ k : Nat) : Int) := Int.mul_le_mul_of_nonneg_left h2 (by omega)
    omega)
  have h2 : -2147483648 ≤ a / ((2 ^ k : Nat) : Int) := Int.le_ediv_of_mul_le (by have := Nat.two_pow_pos k; omega) (by
    have := Nat.two_pow_pos k
    have h2 : (1 : Int) ≤ ((2 ^ k : Nat) : Int) := by omega
    have := h.1
    have : 2147483648 * 1 ≤ 2147483648 * ((2 ^ k : Nat) : Int) := Int.mul_le_mul_of_nonneg_left h2 (by omega)
    omega)
  rw [← Int32.toInt_inj, iI_toInt ⟨h2, by omega⟩, ← Int32.toInt_toBitVec, Int32.toBitVec_shiftRight, BitVec.toInt_sshiftRight', e k hk, Int32.toInt_toBitVec, iI_toInt h, Int.shiftRight_eq_div_pow]
/-- the bit of a word -/
def bL (x : Int64) (j : Nat) : Bool := x.toBitVec.getLsbD j
theorem bL_ext {x y : Int64} (h : ∀ j, j < 64 → bL x j = bL y j) : x = y := Int64.toBitVec_inj.mp (BitVec.eq_of_getLsbD_eq h)
def bw (f : Nat → Bool) : Nat → Nat
  | 0 => 0
  | i + 1 => (if f i then 2 ^ i else 0) + bw f i
theorem bw_lt (f : Nat → Bool) : ∀ n, bw f n < 2 ^ n
  | 0 => Nat.one_pos
  | n + 1 => by
    have := bw_lt f n
    have h2 : 2 ^ (n + 1) = 2 ^ n + 2 ^ n := by rw [Nat.pow_succ]; omega
    unfold bw
    split <;> omega
theorem bw_bit (f : Nat → Bool) : ∀ n i, i < n → (bw f n).testBit i = f i
  | 0, i, h => by omega
  | n + 1, i, h => by
    unfold bw
    by_cases e : i = n
    · subst e
      have h0 := Nat.testBit_lt_two_pow (bw_lt f i)
      cases hf : f i with
      | true => rw [if_pos rfl, Nat.testBit_two_pow_add_eq, h0]; rfl
      | false => rw [if_neg (by decide), Nat.zero_add, h0]
    · have ih := bw_bit f n i (by omega)
      cases hf : f n with
      | true => rw [if_pos rfl, Nat.testBit_two_pow_add_gt (by omega), ih]
      | false => rw [if_neg (by decide), Nat.zero_add, ih]
/-- the k-th word of a row of bits -/
def pkw (f : Nat → Bool) (k : Nat) : Int64 := Int64.ofBitVec (BitVec.ofNat 64 (bw (fun i => f (64 * k + i)) 64))
theorem bL_pkw {f : Nat → Bool} {k j : Nat} (hj : j < 64) : bL (pkw f k) j = f (64 * k + j) := by
  show (BitVec.ofNat 64 _).getLsbD j = _
  rw [BitVec.getLsbD_ofNat, bw_bit _ _ _ hj, decide_eq_true hj]
  rfl
theorem pkw_ext {f g : Nat → Bool} {k : Nat} (h : ∀ j, j < 64 → f (64 * k + j) = g (64 * k + j)) : pkw f k = pkw g k := bL_ext (fun j hj => by rw [bL_pkw hj, bL_pkw hj, h j hj])
theorem pkw_inj {f g : Nat → Bool} {k j : Nat} (h : pkw f k = pkw g k) (hj : j < 64) : f (64 * k + j) = g (64 * k + j) := by rw [← bL_pkw (f := f) hj, h, bL_pkw hj]
theorem pkw_all {f g : Nat → Bool} (h : ∀ r, r < 1024 → f r = g r) {k : Nat} (hk : k < 16) : pkw f k = pkw g k := pkw_ext (fun j hj => h _ (by omega))
theorem pkw_and (f g : Nat → Bool) (k : Nat) : pkw f k &&& pkw g k = pkw (fun r => f r && g r) k := bL_ext (fun j hj => by
  rw [bL_pkw hj, ← bL_pkw (f := f) hj, ← bL_pkw (f := g) hj]
  unfold bL
  rw [Int64.toBitVec_and, BitVec.getLsbD_and])
theorem pkw_or (f g : Nat → Bool) (k : Nat) : pkw f k ||| pkw g k = pkw (fun r => f r || g r) k := bL_ext (fun j hj => by
  rw [bL_pkw hj, ← bL_pkw (f := f) hj, ← bL_pkw (f := g) hj]
  unfold bL
  rw [Int64.toBitVec_or, BitVec.getLsbD_or])
theorem pkw_xor (f g : Nat → Bool) (k : Nat) : pkw f k ^^^ pkw g k = pkw (fun r => f r ^^ g r) k := bL_ext (fun j hj => by
  rw [bL_pkw hj, ← bL_pkw (f := f) hj, ← bL_pkw (f := g) hj]
  unfold bL
  rw [Int64.toBitVec_xor, BitVec.getLsbD_xor])
theorem l_ones : lN 18446744073709551615 = Int64.ofBitVec (BitVec.allOnes 64) := by decide
theorem pkw_not (f : Nat → Bool) (k : Nat) : pkw f k ^^^ lN 18446744073709551615 = pkw (fun r => !f r) k := bL_ext (fun j hj => by
  rw [bL_pkw hj, ← bL_pkw (f := f) hj, l_ones]
  unfold bL
  rw [Int64.toBitVec_xor, BitVec.getLsbD_xor]
  show ((pkw f k).toBitVec.getLsbD j ^^ (BitVec.allOnes 64).getLsbD j) = _
  rw [BitVec.getLsbD_allOnes, decide_eq_true hj, Bool.xor_true])
theorem pkw_0 (k : Nat) : pkw (fun _ => false) k = 0 := bL_ext (fun j hj => by
  rw [bL_pkw hj]
  show _ = (BitVec.ofNat 64 0).getLsbD j
  rw [BitVec.getLsbD_ofNat, Nat.zero_testBit, Bool.and_false])
theorem pkw_1 (k : Nat) : pkw (fun _ => true) k = -1 := bL_ext (fun j hj => by
  rw [bL_pkw hj]
  show _ = (-1 : Int64).toBitVec.getLsbD j
  have e : (-1 : Int64).toBitVec = BitVec.allOnes 64 := by decide
  rw [e, BitVec.getLsbD_allOnes, decide_eq_true hj])
/-- one bit -/
def tw (j : Nat) : Int64 := Int64.ofBitVec (BitVec.twoPow 64 j)
theorem l_shl {j : Nat} (hj : j < 64) : (1 : Int64) <<< ((iI (j : Int)).toInt64 &&& 63) = tw j := by
  have e : ∀ j : Nat, j < 64 → (1 : Int64) <<< ((iI (j : Int)).toInt64 &&& 63) = tw j := by decide +kernel
  exact e j hj
theorem bL_tw {i j : Nat} (hi : i < 64) : bL (tw i) j = decide (i = j) := by
  show (BitVec.twoPow 64 i).getLsbD j = _
  rw [BitVec.getLsbD_twoPow, decide_eq_true hi, Bool.true_and]
theorem l_ushr (x : Int64) {j : Nat} (hj : j < 64) : (x.toUInt64 >>> ((iI (j : Int)).toInt64.toUInt64 &&& Int64.toUInt64 63)).toInt64 &&& 1 = if bL x j then 1 else 0 := by
  have e : ∀ j : Nat, j < 64 → ((iI (j : Int)).toInt64.toUInt64 &&& Int64.toUInt64 63) = UInt64.ofNat j := by decide +kernel
  have e2 : ∀ j, j < 64 → ((UInt64.ofNat j).toBitVec % 64).toNat = j := by decide +kernel
  rw [e j hj]
  have h1 : ∀ i, bL ((x.toUInt64 >>> UInt64.ofNat j).toInt64 &&& 1) i = (bL x (j + i) && decide (i = 0)) := fun i => by
    unfold bL
    rw [Int64.toBitVec_and, BitVec.getLsbD_and]
    have e3 : (1 : Int64).toBitVec = BitVec.ofNat 64 1 := rfl
    have e4 : (x.toUInt64 >>> UInt64.ofNat j).toInt64.toBitVec = x.toBitVec >>> ((UInt64.ofNat j).toBitVec % 64) := rfl
    rw [e3, e4, BitVec.ushiftRight_eq', e2 j hj, BitVec.getLsbD_ushiftRight, BitVec.getLsbD_ofNat]
    cases i with
    | zero => simp
    | succ i =>
      rw [Nat.testBit_succ]
      simp
  refine bL_ext (fun i _ => ?_)
  rw [h1]
  by_cases hi : i = 0
  · subst hi
    rw [Nat.add_zero]
    cases bL x j <;> decide
  · rw [decide_eq_false hi, Bool.and_false]
    have e5 : ∀ i, i < 64 → i ≠ 0 → bL 1 i = false := by decide
    have e6 : ∀ i, i < 64 → bL 0 i = false := by decide
    cases bL x j
    · exact (e6 i ‹_›).symm
    · exact (e5 i ‹_› hi).symm
theorem pkw_set {f : Nat → Bool} {r k : Nat} (hk : k = r / 64) : pkw f k ||| tw (r % 64) = pkw (fun s => f s || decide (s = r)) k := bL_ext (fun j hj => by
  rw [bL_pkw hj, ← bL_pkw (f := f) hj]
  unfold bL
  rw [Int64.toBitVec_or, BitVec.getLsbD_or]
  show (_ || bL (tw _) j) = _
  rw [bL_tw (by omega)]
  congr 1
  exact decide_eq_decide.mpr (by omega))
theorem pkw_clr {f : Nat → Bool} {r k : Nat} (hk : k = r / 64) : pkw f k &&& (tw (r % 64) ^^^ lN 18446744073709551615) = pkw (fun s => f s && !decide (s = r)) k := bL_ext (fun j hj => by
  rw [bL_pkw hj, ← bL_pkw (f := f) hj, l_ones]
  unfold bL
  rw [Int64.toBitVec_and, BitVec.getLsbD_and, Int64.toBitVec_xor, BitVec.getLsbD_xor]
  show (_ && (bL (tw _) j ^^ (BitVec.allOnes 64).getLsbD j)) = _
  rw [bL_tw (by omega), BitVec.getLsbD_allOnes, decide_eq_true hj, Bool.xor_true]
  congr 2
  exact decide_eq_decide.mpr (by omega))
theorem pkw_far {f : Nat → Bool} {r k : Nat} (hk : k ≠ r / 64) : pkw (fun s => f s || decide (s = r)) k = pkw f k := pkw_ext (fun j hj => by
  rw [decide_eq_false (by omega), Bool.or_false])
theorem pkw_far' {f : Nat → Bool} {r k : Nat} (hk : k ≠ r / 64) : pkw (fun s => f s && !decide (s = r)) k = pkw f k := pkw_ext (fun j hj => by
  rw [decide_eq_false (by omega), Bool.not_false, Bool.and_true])
