/-! ===== bits counted ===== -/
/-- how many bits a number has -/
def pcN (x : Nat) : Nat := if h : x = 0 then 0 else x % 2 + pcN (x / 2)
termination_by x
decreasing_by exact Nat.div_lt_self (by omega) (by decide)
theorem pcN_0 : pcN 0 = 0 := by
  unfold pcN
  rfl
theorem pcN_s (x : Nat) : pcN x = x % 2 + pcN (x / 2) := by
  by_cases h : x = 0
  · subst h
    rw [pcN_0]

  · rw [pcN]
    exact dif_neg h
theorem cntB_shift (p : Nat → Bool) : ∀ n, cntB p (n + 1) = (if p 0 then 1 else 0) + cntB (fun i => p (i + 1)) n
  | 0 => by
    show 0 + (if p 0 then 1 else 0) = (if p 0 then 1 else 0) + 0
    omega
  | n + 1 => by
    show cntB p (n + 1) + (if p (n + 1) then 1 else 0) = _ + (cntB (fun i => p (i + 1)) n + (if p (n + 1) then 1 else 0))
    rw [cntB_shift p n]
    omega
theorem cntB_pc : ∀ n x, x < 2 ^ n → cntB (fun i => x.testBit i) n = pcN x
  | 0, x, h => by
    obtain rfl : x = 0 := by omega
    rw [pcN_0]
    rfl
  | n + 1, x, h => by
    rw [cntB_shift, pcN_s]
    have e : (fun i => x.testBit (i + 1)) = fun i => (x / 2).testBit i := funext fun i => Nat.testBit_succ x i
    rw [e, cntB_pc n (x / 2) (by rw [Nat.pow_succ] at h; omega), Nat.testBit_zero]
    by_cases c : x % 2 = 1
    · rw [decide_eq_true c, c]
      rfl
    · rw [decide_eq_false c, show x % 2 = 0 from by omega]
      rfl
theorem pcN_pos {x : Nat} (h : x ≠ 0) : 0 < pcN x := by
  induction x using Nat.strongRecOn with
  | _ x ih =>
    rw [pcN_s]
    by_cases c : x % 2 = 1
    · omega
    · have := ih (x / 2) (by omega) (by omega)
      omega
theorem pcN_clr (x : Nat) (h : x ≠ 0) : pcN (x &&& (x - 1)) + 1 = pcN x := by
  induction x using Nat.strongRecOn with
  | _ x ih =>
    rw [pcN_s x, pcN_s (x &&& (x - 1))]
    have e1 : (x &&& (x - 1)) / 2 = x / 2 &&& (x - 1) / 2 := Nat.and_div_two
    have e2 : (x &&& (x - 1)) % 2 = 0 := by
      have h2 : (x &&& (x - 1)).testBit 0 = false := by
        rw [Nat.testBit_and, Nat.testBit_zero, Nat.testBit_zero]
        by_cases c : x % 2 = 1
        · rw [decide_eq_false (show ¬ (x - 1) % 2 = 1 by omega), Bool.and_false]
        · rw [decide_eq_false c, Bool.false_and]
      rw [Nat.testBit_zero] at h2
      have := of_decide_eq_false h2
      omega
    rw [e1, e2]
    by_cases c : x % 2 = 1
    · rw [show (x - 1) / 2 = x / 2 from by omega, Nat.and_self, c]
      omega
    · have := ih (x / 2) (by omega) (by omega)
      rw [show (x - 1) / 2 = x / 2 - 1 from by omega]
      omega
/-- the bits of a long -/
def pcL (x : Int64) : Nat := pcN x.toBitVec.toNat
theorem pcL_cnt (x : Int64) : cntB (bL x) 64 = pcL x := by
  unfold pcL
  rw [← cntB_pc 64 _ x.toBitVec.isLt]
  rfl
theorem pcL_0 {x : Int64} : pcL x = 0 ↔ x = 0 := by
  constructor
  · intro h
    have h2 : x.toBitVec.toNat = 0 := Classical.byContradiction fun c => by
      have := pcN_pos c
      unfold pcL at h
      omega
    exact Int64.toBitVec_inj.mp (BitVec.eq_of_toNat_eq h2)
  · rintro rfl
    exact pcN_0
theorem pcL_clr {x : Int64} (h : x ≠ 0) : pcL (x &&& (x - 1)) + 1 = pcL x := by
  unfold pcL
  have h2 : x.toBitVec.toNat ≠ 0 := fun z => h (Int64.toBitVec_inj.mp (BitVec.eq_of_toNat_eq z))
  have e : (x &&& (x - 1)).toBitVec.toNat = x.toBitVec.toNat &&& (x.toBitVec.toNat - 1) := by
    rw [Int64.toBitVec_and, BitVec.toNat_and, Int64.toBitVec_sub, BitVec.toNat_sub]
    have e1 : (1 : Int64).toBitVec.toNat = 1 := rfl
    rw [e1]
    have := x.toBitVec.isLt
    congr 1
    omega
  rw [e]
  exact pcN_clr _ h2
theorem pcL_le (x : Int64) : pcL x ≤ 64 := by
  rw [← pcL_cnt]
  have : ∀ n, cntB (bL x) n ≤ n := by
    intro n
    induction n with
    | zero => exact Nat.le_refl _
    | succ n ih =>
      show cntB (bL x) n + (if bL x n then 1 else 0) ≤ n + 1
      split <;> omega
  exact this 64

/-! Long.bitCount's way -/
def Mk (c : Nat) : Nat → Nat
  | 0 => 0
  | k + 1 => c + 256 * Mk c k
theorem land_b {a b c d : Nat} (ha : a < 256) (hc : c < 256) : (a + 256 * b) &&& (c + 256 * d) = (a &&& c) + 256 * (b &&& d) := by
  have h1 : ((a + 256 * b) &&& (c + 256 * d)) % 2 ^ 8 = (a &&& c) := by
    rw [Nat.and_mod_two_pow, show (a + 256 * b) % 2 ^ 8 = a from by omega, show (c + 256 * d) % 2 ^ 8 = c from by omega]
  have h2 : ((a + 256 * b) &&& (c + 256 * d)) / 2 ^ 8 = b &&& d := by
    rw [Nat.and_div_two_pow, show (a + 256 * b) / 2 ^ 8 = b from by omega, show (c + 256 * d) / 2 ^ 8 = d from by omega]
  omega
def sZ (k x : Nat) : Nat := x - ((x / 2) &&& Mk 85 k)
def sY (k z : Nat) : Nat := (z &&& Mk 51 k) + ((z / 4) &&& Mk 51 k)
def sW (k y : Nat) : Nat := (y + y / 16) &&& Mk 15 k
theorem dc1 : ∀ b, b < 256 → ∀ t, t < 2 → (b / 2 + 128 * t) &&& 85 = (b / 2) &&& 85 := by decide +kernel
theorem dc2 : ∀ c, c < 256 → ∀ t, t < 4 → (c / 4 + 64 * t) &&& 51 = (c / 4) &&& 51 := by decide +kernel
def p8 (b : Nat) : Nat := b % 2 + b / 2 % 2 + b / 4 % 2 + b / 8 % 2 + b / 16 % 2 + b / 32 % 2 + b / 64 % 2 + b / 128 % 2
def z8 (b : Nat) : Nat := b - ((b / 2) &&& 85)
def y8 (b : Nat) : Nat := (z8 b &&& 51) + ((z8 b / 4) &&& 51)
theorem dc3 : ∀ b, b < 256 → z8 b < 256 ∧ y8 b % 16 ≤ 4 ∧ y8 b / 16 ≤ 4 ∧ (y8 b + y8 b / 16) % 16 = p8 b := by decide +kernel
theorem sZ_s {k b X : Nat} (hb : b < 256) : sZ (k + 1) (b + 256 * X) = z8 b + 256 * sZ k X := by
  unfold sZ z8
  have e : (b + 256 * X) / 2 = (b / 2 + 128 * (X % 2)) + 256 * (X / 2) := by omega
  have h1 : (b / 2) &&& 85 ≤ b / 2 := Nat.and_le_left
  have h2 : (X / 2) &&& Mk 85 k ≤ X / 2 := Nat.and_le_left
  rw [e, show Mk 85 (k + 1) = 85 + 256 * Mk 85 k from rfl, land_b (by omega) (by omega), dc1 b hb _ (by omega)]
  omega
theorem sY_s {k c C : Nat} (hc : c < 256) : sY (k + 1) (c + 256 * C) = ((c &&& 51) + ((c / 4) &&& 51)) + 256 * sY k C := by
  unfold sY
  have e : (c + 256 * C) / 4 = (c / 4 + 64 * (C % 4)) + 256 * (C / 4) := by omega
  rw [e, show Mk 51 (k + 1) = 51 + 256 * Mk 51 k from rfl, land_b (by omega) (by omega), land_b (by omega) (by omega), dc2 c hc _ (by omega)]
  omega
theorem sW_s {k c C : Nat} (h1 : c % 16 ≤ 4) (h2 : c / 16 ≤ 4) (h3 : C % 16 ≤ 4) : sW (k + 1) (c + 256 * C) = (c + c / 16) % 16 + 256 * sW k C := by
  unfold sW
  have e : c + 256 * C + (c + 256 * C) / 16 = (c + c / 16 + 16 * (C % 16)) + 256 * (C + C / 16) := by omega
  rw [e, show Mk 15 (k + 1) = 15 + 256 * Mk 15 k from rfl, land_b (by omega) (by omega)]
  have : (c + c / 16 + 16 * (C % 16)) &&& 15 = (c + c / 16) % 16 := by
    rw [show (15 : Nat) = 2 ^ 4 - 1 from rfl, Nat.and_two_pow_sub_one_eq_mod]
    omega
  rw [this]
def dgs : Nat → Nat → Nat
  | 0, _ => 0
  | k + 1, x => p8 (x % 256) + 256 * dgs k (x / 256)
theorem sYZ : ∀ k x, x < 256 ^ k → sY k (sZ k x) % 16 ≤ 4 ∧ sW k (sY k (sZ k x)) = dgs k x
  | 0, x, _ => by
    have h1 : sY 0 (sZ 0 x) = 0 := by
      unfold sY
      rw [show Mk 51 0 = 0 from rfl, Nat.and_zero, Nat.and_zero]
    rw [h1]
    exact ⟨by omega, by unfold sW; rw [show Mk 15 0 = 0 from rfl, Nat.and_zero]; rfl⟩
  | k + 1, x, h => by
    have ih := sYZ k (x / 256) (by rw [Nat.pow_succ] at h; omega)
    have hb : x % 256 < 256 := Nat.mod_lt _ (by decide)
    have hd := dc3 (x % 256) hb
    have e : x = x % 256 + 256 * (x / 256) := by omega
    have e1 : sZ (k + 1) x = z8 (x % 256) + 256 * sZ k (x / 256) := by
      rw [← sZ_s hb, ← e]
    have e2 : sY (k + 1) (sZ (k + 1) x) = y8 (x % 256) + 256 * sY k (sZ k (x / 256)) := by
      rw [e1, sY_s hd.1]
      rfl
    rw [e2]
    refine ⟨by rw [show ∀ c, 256 * c = 16 * (16 * c) from fun c => by omega, Nat.add_mul_mod_self_left]; exact hd.2.1, ?_⟩
    rw [sW_s hd.2.1 hd.2.2.1 ih.1, hd.2.2.2, ih.2]
    rfl
theorem pc8 (x : Nat) : pcN x = p8 (x % 256) + pcN (x / 256) := by
  rw [pcN_s x, pcN_s (x / 2), Nat.div_div_eq_div_mul, pcN_s (x / (2 * 2)), Nat.div_div_eq_div_mul, pcN_s (x / (2 * 2 * 2)), Nat.div_div_eq_div_mul, pcN_s (x / (2 * 2 * 2 * 2)), Nat.div_div_eq_div_mul, pcN_s (x / (2 * 2 * 2 * 2 * 2)), Nat.div_div_eq_div_mul, pcN_s (x / (2 * 2 * 2 * 2 * 2 * 2)), Nat.div_div_eq_div_mul, pcN_s (x / (2 * 2 * 2 * 2 * 2 * 2 * 2)), Nat.div_div_eq_div_mul]
  unfold p8
  have e : x / (2 * 2 * 2 * 2 * 2 * 2 * 2 * 2) = x / 256 := rfl
  rw [e]
  omega
def bcF (w : Nat) : Nat := (w + w / 256 + (w + w / 256) / 65536 + (w + w / 256 + (w + w / 256) / 65536) / 4294967296) % 128
def bcN (x : Nat) : Nat := bcF (sW 8 (sY 8 (sZ 8 x)))
theorem p8_le (b : Nat) : p8 b ≤ 8 := by
  unfold p8
  omega
theorem bcF_8 {a0 a1 a2 a3 a4 a5 a6 a7 w : Nat} (h0 : a0 ≤ 8) (h1 : a1 ≤ 8) (h2 : a2 ≤ 8) (h3 : a3 ≤ 8) (h4 : a4 ≤ 8) (h5 : a5 ≤ 8) (h6 : a6 ≤ 8) (h7 : a7 ≤ 8) (hw : w = a0 + 256 * a1 + 65536 * a2 + 16777216 * a3 + 4294967296 * a4 + 1099511627776 * a5 + 281474976710656 * a6 + 72057594037927936 * a7) : bcF w = a0 + a1 + a2 + a3 + a4 + a5 + a6 + a7 := by
  unfold bcF
  have e1 : w / 256 = a1 + 256 * a2 + 65536 * a3 + 16777216 * a4 + 4294967296 * a5 + 1099511627776 * a6 + 281474976710656 * a7 := by omega
  rw [e1]
  generalize hA : w + (a1 + 256 * a2 + 65536 * a3 + 16777216 * a4 + 4294967296 * a5 + 1099511627776 * a6 + 281474976710656 * a7) = A
  have hA2 : A = (a0 + a1) + 65536 * ((a2 + a3) + 256 * (a3 + a4) + 65536 * (a4 + a5) + 16777216 * (a5 + a6) + 4294967296 * (a6 + a7) + 1099511627776 * a7) + 256 * (a1 + a2) := by omega
  have e2 : A / 65536 = (a2 + a3) + 256 * (a3 + a4) + 65536 * (a4 + a5) + 16777216 * (a5 + a6) + 4294967296 * (a6 + a7) + 1099511627776 * a7 := by omega
  rw [e2]
  clear e1 hA hw
  generalize hB : A + ((a2 + a3) + 256 * (a3 + a4) + 65536 * (a4 + a5) + 16777216 * (a5 + a6) + 4294967296 * (a6 + a7) + 1099511627776 * a7) = B
  have hB2 : B = (a0 + a1 + a2 + a3) + 256 * ((a1 + a2 + a3 + a4) + 256 * (a2 + a3 + a4 + a5) + 65536 * (a3 + a4 + a5 + a6)) + 4294967296 * ((a4 + a5 + a6 + a7) + 256 * (a5 + a6 + a7) + 65536 * (a6 + a7) + 16777216 * a7) := by omega
  clear hB e2 hA2
  have e3 : B / 4294967296 = (a4 + a5 + a6 + a7) + 256 * (a5 + a6 + a7) + 65536 * (a6 + a7) + 16777216 * a7 := by omega
  rw [e3]
  clear e3
  omega
theorem dgs_8 (x : Nat) : dgs 8 x = p8 (x % 256) + 256 * (p8 (x / 256 % 256) + 256 * (p8 (x / 256 / 256 % 256) + 256 * (p8 (x / 256 / 256 / 256 % 256) + 256 * (p8 (x / 256 / 256 / 256 / 256 % 256) + 256 * (p8 (x / 256 / 256 / 256 / 256 / 256 % 256) + 256 * (p8 (x / 256 / 256 / 256 / 256 / 256 / 256 % 256) + 256 * (p8 (x / 256 / 256 / 256 / 256 / 256 / 256 / 256 % 256) + 256 * 0))))))) := by
  simp only [dgs]
theorem bcN_pc {x : Nat} (h : x < 2 ^ 64) : bcN x = pcN x := by
  unfold bcN
  rw [(sYZ 8 x h).2, dgs_8]
  have e7 : x / 256 / 256 / 256 / 256 / 256 / 256 / 256 / 256 = 0 := by omega
  rw [pc8 x, pc8 (x / 256), pc8 (x / 256 / 256), pc8 (x / 256 / 256 / 256), pc8 (x / 256 / 256 / 256 / 256), pc8 (x / 256 / 256 / 256 / 256 / 256), pc8 (x / 256 / 256 / 256 / 256 / 256 / 256), pc8 (x / 256 / 256 / 256 / 256 / 256 / 256 / 256), e7, pcN_0]
  rw [bcF_8 (a0 := p8 (x % 256)) (a1 := p8 (x / 256 % 256)) (a2 := p8 (x / 256 / 256 % 256)) (a3 := p8 (x / 256 / 256 / 256 % 256)) (a4 := p8 (x / 256 / 256 / 256 / 256 % 256)) (a5 := p8 (x / 256 / 256 / 256 / 256 / 256 % 256)) (a6 := p8 (x / 256 / 256 / 256 / 256 / 256 / 256 % 256)) (a7 := p8 (x / 256 / 256 / 256 / 256 / 256 / 256 / 256 % 256)) (p8_le _) (p8_le _) (p8_le _) (p8_le _) (p8_le _) (p8_le _) (p8_le _) (p8_le _) (by omega)]
  omega

theorem lN_nat {n : Nat} (h : n < 2 ^ 64) : (lN n).toBitVec.toNat = n := by
  show (Int64.ofNat n).toBitVec.toNat = n
  rw [Int64.toBitVec_ofNat', BitVec.toNat_ofNat, Nat.mod_eq_of_lt h]
theorem lN_ext {x : Int64} {n : Nat} (h : n < 2 ^ 64) (e : x.toBitVec.toNat = n) : x = lN n := Int64.toBitVec_inj.mp (BitVec.eq_of_toNat_eq (by rw [e, lN_nat h]))
theorem lN_of (x : Int64) : x = lN x.toBitVec.toNat := lN_ext x.toBitVec.isLt rfl
theorem lN_and {a b : Nat} (ha : a < 2 ^ 64) (hb : b < 2 ^ 64) : lN a &&& lN b = lN (a &&& b) := lN_ext (Nat.and_lt_two_pow _ hb) (by rw [Int64.toBitVec_and, BitVec.toNat_and, lN_nat ha, lN_nat hb])
theorem lN_adN {a b : Nat} (h : a + b < 2 ^ 64) : lN a + lN b = lN (a + b) := lN_ext h (by rw [Int64.toBitVec_add, BitVec.toNat_add, lN_nat (by omega), lN_nat (by omega), Nat.mod_eq_of_lt h])
theorem lN_sbN {a b : Nat} (ha : a < 2 ^ 64) (h : b ≤ a) : lN a - lN b = lN (a - b) := lN_ext (by omega) (by
  rw [Int64.toBitVec_sub, BitVec.toNat_sub, lN_nat (by omega), lN_nat (by omega)]
  omega)
theorem lN_shr {a j : Nat} (ha : a < 2 ^ 64) (hj : j < 64) : ((lN a).toUInt64 >>> ((iI (j : Int)).toInt64.toUInt64 &&& Int64.toUInt64 63)).toInt64 = lN (a / 2 ^ j) := by
  have e : ∀ j : Nat, j < 64 → ((iI (j : Int)).toInt64.toUInt64 &&& Int64.toUInt64 63) = UInt64.ofNat j := by decide +kernel
  have e2 : ∀ j, j < 64 → ((UInt64.ofNat j).toBitVec % 64).toNat = j := by decide +kernel
  rw [e j hj]
  refine lN_ext (Nat.lt_of_le_of_lt (Nat.div_le_self _ _) ha) ?_
  have e4 : ((lN a).toUInt64 >>> UInt64.ofNat j).toInt64.toBitVec = (lN a).toBitVec >>> ((UInt64.ofNat j).toBitVec % 64) := rfl
  rw [e4, BitVec.ushiftRight_eq', e2 j hj, BitVec.toNat_ushiftRight, lN_nat ha, Nat.shiftRight_eq_div_pow]
theorem lN_i127 {a : Nat} (ha : a < 2 ^ 64) : (lN a).toInt32 &&& iI 127 = iI ((a % 128 : Nat) : Int) := by
  have h := iI_and (a := (a : Int)) 7 (by decide)
  have e : (lN a).toInt32 = iI (a : Int) := by
    show (Int64.ofNat a).toInt32 = Int32.ofInt (a : Int)
    rw [Int32.ofInt_eq_ofNat]
    exact Int64.toInt32_ofNat
  rw [e]
  exact h
section BC
variable {X : List Int32} {S : ST}
theorem c_bitCount (x : Int64) : sM X 0 269 [.long x] S (sV (some (.int (iI ((pcL x : Nat) : Int)))) S) := by
  have ha : x.toBitVec.toNat < 2 ^ 64 := x.toBitVec.isLt
  have hx := lN_of x
  have hp : pcL x = bcN x.toBitVec.toNat := (bcN_pc ha).symm
  rw [hp]
  generalize x.toBitVec.toNat = a at *
  subst hx
  clear hp
  have h1 : a / 2 ^ 1 &&& 6148914691236517205 ≤ a := Nat.le_trans Nat.and_le_left (Nat.div_le_self _ _)
  have hZ : sZ 8 a ≤ a := Nat.sub_le _ _
  have hY1 : sZ 8 a &&& 3689348814741910323 ≤ 3689348814741910323 := Nat.and_le_right
  have hY2 : sZ 8 a / 2 ^ 2 &&& 3689348814741910323 ≤ 3689348814741910323 := Nat.and_le_right
  have hY : sY 8 (sZ 8 a) ≤ 3689348814741910323 + 3689348814741910323 := Nat.add_le_add Nat.and_le_right Nat.and_le_right
  have hW : sW 8 (sY 8 (sZ 8 a)) ≤ 1085102592571150095 := Nat.and_le_right
  refine sIni (ls := [some (.long (lN a)), none]) rfl ?_
  refine sL (pc' := 1) (i := .lload_n 0) rfl rfl ?_
  refine sL (pc' := 2) (i := .lload_n 0) rfl rfl ?_
  refine sKi (p := 3) rfl rfl ?_
  refine sL (pc' := 4) (i := .lushr) rfl rfl ?_
  rw [show iI 1 = iI ((1 : Nat) : Int) from rfl, lN_shr (a := a) (by omega) (by decide)]
  refine sL (pc' := 7) (i := .ldc2_w 314) rfl rfl ?_
  refine sL (pc' := 8) (i := .land) rfl rfl ?_
  rw [lN_and (a := a / 2 ^ 1) (b := 6148914691236517205) (by omega) (by omega)]
  refine sL (pc' := 9) (i := .lsub) rfl rfl ?_
  rw [lN_sbN (a := a) (b := a / 2 ^ 1 &&& 6148914691236517205) ha h1, show a - (a / 2 ^ 1 &&& 6148914691236517205) = sZ 8 a from rfl]
  refine sL (pc' := 10) (i := .lstore_n 0) (ls' := [some (.long (lN (sZ 8 a))), none]) rfl rfl ?_
  refine sL (pc' := 11) (i := .lload_n 0) rfl rfl ?_
  refine sL (pc' := 14) (i := .ldc2_w 316) rfl rfl ?_
  refine sL (pc' := 15) (i := .land) rfl rfl ?_
  rw [lN_and (a := sZ 8 a) (b := 3689348814741910323) (by omega) (by omega)]
  refine sL (pc' := 16) (i := .lload_n 0) rfl rfl ?_
  refine sKi (p := 17) rfl rfl ?_
  refine sL (pc' := 18) (i := .lushr) rfl rfl ?_
  rw [show iI 2 = iI ((2 : Nat) : Int) from rfl, lN_shr (a := sZ 8 a) (by omega) (by decide)]
  refine sL (pc' := 21) (i := .ldc2_w 316) rfl rfl ?_
  refine sL (pc' := 22) (i := .land) rfl rfl ?_
  rw [lN_and (a := sZ 8 a / 2 ^ 2) (b := 3689348814741910323) (by omega) (by omega)]
  refine sL (pc' := 23) (i := .ladd) rfl rfl ?_
  rw [lN_adN (a := sZ 8 a &&& 3689348814741910323) (b := sZ 8 a / 2 ^ 2 &&& 3689348814741910323) (by omega), show (sZ 8 a &&& 3689348814741910323) + (sZ 8 a / 2 ^ 2 &&& 3689348814741910323) = sY 8 (sZ 8 a) from rfl]
  refine sL (pc' := 24) (i := .lstore_n 0) (ls' := [some (.long (lN (sY 8 (sZ 8 a)))), none]) rfl rfl ?_
  refine sL (pc' := 25) (i := .lload_n 0) rfl rfl ?_
  refine sL (pc' := 26) (i := .lload_n 0) rfl rfl ?_
  refine sKi (p := 27) rfl rfl ?_
  refine sL (pc' := 28) (i := .lushr) rfl rfl ?_
  rw [show iI 4 = iI ((4 : Nat) : Int) from rfl, lN_shr (a := sY 8 (sZ 8 a)) (by omega) (by decide)]
  refine sL (pc' := 29) (i := .ladd) rfl rfl ?_
  rw [lN_adN (a := sY 8 (sZ 8 a)) (b := sY 8 (sZ 8 a) / 2 ^ 4) (by omega)]
  refine sL (pc' := 32) (i := .ldc2_w 318) rfl rfl ?_
  refine sL (pc' := 33) (i := .land) rfl rfl ?_
  rw [lN_and (a := sY 8 (sZ 8 a) + sY 8 (sZ 8 a) / 2 ^ 4) (b := 1085102592571150095) (by omega) (by omega), show (sY 8 (sZ 8 a) + sY 8 (sZ 8 a) / 2 ^ 4 &&& 1085102592571150095) = sW 8 (sY 8 (sZ 8 a)) from rfl]
  refine sL (pc' := 34) (i := .lstore_n 0) (ls' := [some (.long (lN (sW 8 (sY 8 (sZ 8 a))))), none]) rfl rfl ?_
  refine sL (pc' := 35) (i := .lload_n 0) rfl rfl ?_
  refine sL (pc' := 36) (i := .lload_n 0) rfl rfl ?_
  refine sKb (p := 38) rfl rfl ?_
  refine sL (pc' := 39) (i := .lushr) rfl rfl ?_
  rw [show iI 8 = iI ((8 : Nat) : Int) from rfl, lN_shr (a := sW 8 (sY 8 (sZ 8 a))) (by omega) (by decide)]
  refine sL (pc' := 40) (i := .ladd) rfl rfl ?_
  rw [lN_adN (a := sW 8 (sY 8 (sZ 8 a))) (b := sW 8 (sY 8 (sZ 8 a)) / 2 ^ 8) (by omega)]
  refine sL (pc' := 41) (i := .lstore_n 0) (ls' := [some (.long (lN (sW 8 (sY 8 (sZ 8 a)) + sW 8 (sY 8 (sZ 8 a)) / 2 ^ 8))), none]) rfl rfl ?_
  refine sL (pc' := 42) (i := .lload_n 0) rfl rfl ?_
  refine sL (pc' := 43) (i := .lload_n 0) rfl rfl ?_
  refine sKb (p := 45) rfl rfl ?_
  refine sL (pc' := 46) (i := .lushr) rfl rfl ?_
  rw [show iI 16 = iI ((16 : Nat) : Int) from rfl, lN_shr (a := sW 8 (sY 8 (sZ 8 a)) + sW 8 (sY 8 (sZ 8 a)) / 2 ^ 8) (by omega) (by decide)]
  refine sL (pc' := 47) (i := .ladd) rfl rfl ?_
  rw [lN_adN (a := sW 8 (sY 8 (sZ 8 a)) + sW 8 (sY 8 (sZ 8 a)) / 2 ^ 8) (b := (sW 8 (sY 8 (sZ 8 a)) + sW 8 (sY 8 (sZ 8 a)) / 2 ^ 8) / 2 ^ 16) (by omega)]
  refine sL (pc' := 48) (i := .lstore_n 0) (ls' := [some (.long (lN (sW 8 (sY 8 (sZ 8 a)) + sW 8 (sY 8 (sZ 8 a)) / 2 ^ 8 + (sW 8 (sY 8 (sZ 8 a)) + sW 8 (sY 8 (sZ 8 a)) / 2 ^ 8) / 2 ^ 16))), none]) rfl rfl ?_
  refine sL (pc' := 49) (i := .lload_n 0) rfl rfl ?_
  refine sL (pc' := 50) (i := .lload_n 0) rfl rfl ?_
  refine sKb (p := 52) rfl rfl ?_
  refine sL (pc' := 53) (i := .lushr) rfl rfl ?_
  rw [show iI 32 = iI ((32 : Nat) : Int) from rfl, lN_shr (a := sW 8 (sY 8 (sZ 8 a)) + sW 8 (sY 8 (sZ 8 a)) / 2 ^ 8 + (sW 8 (sY 8 (sZ 8 a)) + sW 8 (sY 8 (sZ 8 a)) / 2 ^ 8) / 2 ^ 16) (by omega) (by decide)]
  refine sL (pc' := 54) (i := .ladd) rfl rfl ?_
  rw [lN_adN (a := sW 8 (sY 8 (sZ 8 a)) + sW 8 (sY 8 (sZ 8 a)) / 2 ^ 8 + (sW 8 (sY 8 (sZ 8 a)) + sW 8 (sY 8 (sZ 8 a)) / 2 ^ 8) / 2 ^ 16) (b := (sW 8 (sY 8 (sZ 8 a)) + sW 8 (sY 8 (sZ 8 a)) / 2 ^ 8 + (sW 8 (sY 8 (sZ 8 a)) + sW 8 (sY 8 (sZ 8 a)) / 2 ^ 8) / 2 ^ 16) / 2 ^ 32) (by omega)]
  refine sL (pc' := 55) (i := .lstore_n 0) (ls' := [some (.long (lN (sW 8 (sY 8 (sZ 8 a)) + sW 8 (sY 8 (sZ 8 a)) / 2 ^ 8 + (sW 8 (sY 8 (sZ 8 a)) + sW 8 (sY 8 (sZ 8 a)) / 2 ^ 8) / 2 ^ 16 + (sW 8 (sY 8 (sZ 8 a)) + sW 8 (sY 8 (sZ 8 a)) / 2 ^ 8 + (sW 8 (sY 8 (sZ 8 a)) + sW 8 (sY 8 (sZ 8 a)) / 2 ^ 8) / 2 ^ 16) / 2 ^ 32))), none]) rfl rfl ?_
  refine sL (pc' := 56) (i := .lload_n 0) rfl rfl ?_
  refine sL (pc' := 57) (i := .l2i) rfl rfl ?_
  refine sKb (p := 59) rfl rfl ?_
  refine sL (pc' := 60) (i := .iand) rfl rfl ?_
  rw [lN_i127 (a := sW 8 (sY 8 (sZ 8 a)) + sW 8 (sY 8 (sZ 8 a)) / 2 ^ 8 + (sW 8 (sY 8 (sZ 8 a)) + sW 8 (sY 8 (sZ 8 a)) / 2 ^ 8) / 2 ^ 16 + (sW 8 (sY 8 (sZ 8 a)) + sW 8 (sY 8 (sZ 8 a)) / 2 ^ 8 + (sW 8 (sY 8 (sZ 8 a)) + sW 8 (sY 8 (sZ 8 a)) / 2 ^ 8) / 2 ^ 16) / 2 ^ 32) (by omega)]
  refine sEn (i := .ireturn) rfl (rfl) ?_
  exact ⟨rfl, rfl⟩
def clr (x : Int64) : Nat → Int64
  | 0 => x
  | i + 1 => clr x i &&& (clr x i - lI 1)
theorem clr_pc (x : Int64) : ∀ {i : Nat}, i ≤ pcL x → pcL (clr x i) = pcL x - i
  | 0, _ => rfl
  | i + 1, h => by
    have ih := clr_pc x (i := i) (by omega)
    have h0 : clr x i ≠ 0 := fun z => by
      rw [pcL_0.mpr z] at ih
      omega
    have := pcL_clr h0
    show pcL (clr x i &&& (clr x i - lI 1)) = _
    rw [show lI 1 = (1 : Int64) from rfl]
    omega
theorem m_bits (x : Int64) : sM X 0 163 [.long x] S (sV (some (.int (iI ((pcL x : Nat) : Int)))) S) := by
  have h64 := pcL_le x
  refine sIni (ls := [some (.long x), none, none, none, none]) rfl ?_
  refine sKi (p := 1) rfl rfl ?_
  refine sL (pc' := 2) (i := .istore_n 2) (ls' := [some (.long x), none, some (.int (iI 0)), none, none]) rfl rfl ?_
  refine sL (pc' := 3) (i := .lload_n 0) rfl rfl ?_
  refine sL (pc' := 4) (i := .lstore_n 3) (ls' := [some (.long x), none, some (.int (iI 0)), some (.long x), none]) rfl rfl ?_
  refine sIt (A := fun i => [some (.long x), none, some (.int (iI ((i : Nat) : Int))), some (.long (clr x i)), none]) (B := fun _ => S) (fun _ => True) (pcL x) True.intro (fun i hi4 hI4 ih4 => ?_) (fun hI4 => ?_)
  · have hi4 := hi4
    have hc := clr_pc x (i := i) (by omega)
    refine sL (pc' := 5) (i := .lload_n 3) rfl rfl ?_
    refine sKj0 (p := 6) rfl rfl rfl ?_
    refine sLq_eq (p := 10) rfl rfl rfl (fun c1 => ?_) (fun c1 => ?_)
    · exfalso; have hz := pcL_0.mpr c1; omega
    · have c1 := c1
      refine sInX (z := ((i : Nat) : Int)) (ls' := [some (.long x), none, some (.int (iI (((i : Nat) : Int) + 1))), some (.long (clr x i)), none]) (p := 13) rfl rfl (Nat.le_of_ble_eq_true rfl) rfl rfl ?_
      refine sL (pc' := 14) (i := .lload_n 3) rfl rfl ?_
      refine sL (pc' := 15) (i := .lload_n 3) rfl rfl ?_
      refine sKj1 (p := 16) rfl rfl rfl ?_
      refine sL (pc' := 17) (i := .lsub) rfl rfl ?_
      refine sL (pc' := 18) (i := .land) rfl rfl ?_
      refine sL (pc' := 19) (i := .lstore_n 3) (ls' := [some (.long x), none, some (.int (iI (((i : Nat) : Int) + 1))), some (.long ((clr x i) &&& ((clr x i) - (lI 1)))), none]) rfl rfl ?_
      refine sL (i := .goto (-15)) rfl rfl ?_
      refine sRo (ls := [some (.long x), none, some (.int (iI ((i + 1 : Nat) : Int))), some (.long (clr x (i + 1))), none]) (T := _) (And.intro rfl (And.intro rfl (And.intro rfl (True.intro)))) (rfl) (ih4 ?_)
      exact True.intro
  · have hI4 := hI4
    have hc := clr_pc x (i := pcL x) (Nat.le_refl _)
    refine sL (pc' := 5) (i := .lload_n 3) rfl rfl ?_
    refine sKj0 (p := 6) rfl rfl rfl ?_
    refine sLq_eq (p := 10) rfl rfl rfl (fun c2 => ?_) (fun c2 => ?_)
    · have c2 := c2
      refine sL (pc' := 23) (i := .iload_n 2) rfl rfl ?_
      refine sEn (i := .ireturn) rfl (rfl) ?_
      exact ⟨rfl, rfl⟩
    · exfalso; exact c2 (pcL_0.mp (by omega))
end BC
