/-! ===== the heap as a memory of numbers: kinds of cells, what ints, longs and references they hold ===== -/
def iI (z : Int) : Int32 := Int32.ofInt z
theorem iI_nI (n : Nat) : iI (n : Int) = nI n := by
  first
    | rfl
    | (unfold iI nI; rfl)
    | (unfold iI nI; exact Int32.ofInt_eq_ofNat)
theorem iI_add (a b : Int) : iI a + iI b = iI (a + b) := (Int32.ofInt_add a b).symm
theorem iI_sub (a b : Int) : iI a - iI b = iI (a - b) := (Int32.ofInt_sub a b).symm
theorem iI_mul (a b : Int) : iI a * iI b = iI (a * b) := (Int32.ofInt_mul a b).symm
theorem iI_neg (a : Int) : - iI a = iI (- a) := (Int32.ofInt_neg a).symm
theorem iI_of (x : Int32) : iI x.toInt = x := Int32.ofInt_toInt x
def rg (z : Int) : Prop := -2147483648 ≤ z ∧ z < 2147483648
theorem iI_toInt {z : Int} (h : rg z) : (iI z).toInt = z := Int32.toInt_ofInt_of_le h.1 h.2
theorem rg_of (x : Int32) : rg x.toInt := ⟨Int32.le_toInt x, Int32.toInt_lt x⟩
theorem iI_lt {a b : Int} (ha : rg a) (hb : rg b) : iI a < iI b ↔ a < b := by rw [Int32.lt_iff_toInt_lt, iI_toInt ha, iI_toInt hb]
theorem iI_le {a b : Int} (ha : rg a) (hb : rg b) : iI a ≤ iI b ↔ a ≤ b := by rw [Int32.le_iff_toInt_le, iI_toInt ha, iI_toInt hb]
theorem iI_eq {a b : Int} (ha : rg a) (hb : rg b) : iI a = iI b ↔ a = b := by rw [← Int32.toInt_inj, iI_toInt ha, iI_toInt hb]
theorem iI_0 : iI 0 = 0 := rfl
theorem xk_eq (n : Int) : xx_k n = iI n := by
  unfold xx_k
  split
  · rfl
  · rename_i h
    rw [← iI_nI, Int.toNat_of_nonneg (by omega)]
theorem iI_clamp {n : Nat} (h : n < 2147483648) : (iI (n : Int)).toNatClampNeg = n := by rw [iI_nI]; exact nI_clamp h
theorem xx_at_iI {α : Type} {l : List α} {j : Nat} (hj : j < 2147483648) : xx_at l (iI (j : Int)) = l[j]? := by rw [iI_nI]; exact xx_at_nI hj
theorem xx_put_iI {α : Type} {l : List α} {j : Nat} {x : α} (hj : j < l.length) (hl : j < 2147483648) : xx_put l (iI (j : Int)) x = some (l.set j x) := by rw [iI_nI]; exact xx_put_nI hj hl
theorem iI_div {a b : Int} (ha : 0 ≤ a) (ha2 : a < 2147483648) (hb : 0 < b) (hb2 : b < 2147483648) : iI a / iI b = iI (a / b) := by
  have h1 : 0 ≤ a / b := Int.ediv_nonneg ha (by omega)
  have h2 : a / b ≤ a := Int.ediv_le_self b ha
  rw [← Int32.toInt_inj, Int32.toInt_div, iI_toInt ⟨by omega, ha2⟩, iI_toInt ⟨by omega, hb2⟩, iI_toInt ⟨by omega, by omega⟩, Int.tdiv_eq_ediv_of_nonneg ha]
  exact Int.bmod_eq_of_le (by omega) (by omega)
/-- kinds: an array (0 int, 1 boolean, 2 long, 3 byte) and its length; an array of references; an object, its fields (0 int, 1 long, 2 a reference that changes, n + 3 the reference n) -/
abbrev KD : Type := (Nat × Nat) ⊕ (List (Option Nat) ⊕ (Nat × List Nat))
/-- a memory: the kinds of the cells behind the fixed ones; ints, longs, references by cell and place -/
abbrev ST : Type := List KD × (Nat → Nat → Int) × (Nat → Nat → Int64) × (Nat → Nat → Nat)
def K0 : List KD := [.inr (.inr (7, [4, 10, 55, 67, 72, 180, 0, 0, 0, 1, 1])), .inr (.inr (2, [5, 6, 7, 8, 9, 0, 0, 0])), .inl (0, 10), .inl (0, 10), .inl (0, 60), .inl (1, 60), .inl (2, 1024), .inr (.inr (4, [4, 11, 52, 53, 54, 0, 0])), .inr (.inl ((List.range 40).map fun j => some (9 + j))), .inl (2, 16), .inl (2, 16), .inl (2, 16), .inl (2, 16), .inl (2, 16), .inl (2, 16), .inl (2, 16), .inl (2, 16), .inl (2, 16), .inl (2, 16), .inl (2, 16), .inl (2, 16), .inl (2, 16), .inl (2, 16), .inl (2, 16), .inl (2, 16), .inl (2, 16), .inl (2, 16), .inl (2, 16), .inl (2, 16), .inl (2, 16), .inl (2, 16), .inl (2, 16), .inl (2, 16), .inl (2, 16), .inl (2, 16), .inl (2, 16), .inl (2, 16), .inl (2, 16), .inl (2, 16), .inl (2, 16), .inl (2, 16), .inl (2, 16), .inl (2, 16), .inl (2, 16), .inl (2, 16), .inl (2, 16), .inl (2, 16), .inl (2, 16), .inl (2, 16), .inl (2, 40), .inl (0, 40), .inl (2, 16), .inr (.inr (3, [4, 56, 57, 58, 59, 60, 2, 2, 2, 2, 2, 2, 0, 0, 0])), .inl (0, 10), .inl (0, 10), .inl (0, 640), .inl (0, 60), .inl (0, 6), .inl (0, 64), .inl (0, 64), .inl (0, 64), .inl (0, 64), .inl (0, 64), .inl (0, 384), .inr (.inr (6, [68, 69, 70, 71, 0, 0, 0])), .inl (0, 400), .inl (0, 401), .inl (0, 401), .inl (2, 401), .inr (.inr (5, [67, 4, 10, 73, 0, 0, 0, 0])), .inr (.inl ((List.range 106).map fun j => some (71 + j))), .inl (2, 16), .inl (2, 16), .inl (2, 16), .inl (2, 16), .inl (2, 16), .inl (2, 16), .inl (2, 16), .inl (2, 16), .inl (2, 16), .inl (2, 16), .inl (2, 16), .inl (2, 16), .inl (2, 16), .inl (2, 16), .inl (2, 16), .inl (2, 16), .inl (2, 16), .inl (2, 16), .inl (2, 16), .inl (2, 16), .inl (2, 16), .inl (2, 16), .inl (2, 16), .inl (2, 16), .inl (2, 16), .inl (2, 16), .inl (2, 16), .inl (2, 16), .inl (2, 16), .inl (2, 16), .inl (2, 16), .inl (2, 16), .inl (2, 16), .inl (2, 16), .inl (2, 16), .inl (2, 16), .inl (2, 16), .inl (2, 16), .inl (2, 16), .inl (2, 16), .inl (2, 16), .inl (2, 16), .inl (2, 16), .inl (2, 16), .inl (2, 16), .inl (2, 16), .inl (2, 16), .inl (2, 16), .inl (2, 16), .inl (2, 16), .inl (2, 16), .inl (2, 16), .inl (2, 16), .inl (2, 16), .inl (2, 16), .inl (2, 16), .inl (2, 16), .inl (2, 16), .inl (2, 16), .inl (2, 16), .inl (2, 16), .inl (2, 16), .inl (2, 16), .inl (2, 16), .inl (2, 16), .inl (2, 16), .inl (2, 16), .inl (2, 16), .inl (2, 16), .inl (2, 16), .inl (2, 16), .inl (2, 16), .inl (2, 16), .inl (2, 16), .inl (2, 16), .inl (2, 16), .inl (2, 16), .inl (2, 16), .inl (2, 16), .inl (2, 16), .inl (2, 16), .inl (2, 16), .inl (2, 16), .inl (2, 16), .inl (2, 16), .inl (2, 16), .inl (2, 16), .inl (2, 16), .inl (2, 16), .inl (2, 16), .inl (2, 16), .inl (2, 16), .inl (2, 16), .inl (2, 16), .inl (2, 16), .inl (2, 16), .inl (2, 16), .inl (2, 16), .inl (2, 16), .inl (2, 16), .inl (2, 16), .inl (2, 16), .inl (2, 16), .inl (2, 16), .inl (2, 16), .inl (2, 16), .inr (.inr (1, [181, 0])), .inl (0, 8192), .inr (.inr (8, [0, 0, 183, 184, 0, 185, 186, 187, 188, 0, 189, 190, 191, 0, 0, 192, 193, 0, 194, 0, 1, 1, 0, 0, 0, 0, 1, 0, 0, 195, 0, 196, 197, 0, 0, 198, 199, 200, 0, 201, 202, 203, 0, 204, 0])), .inl (0, 10), .inl (0, 10), .inl (0, 60), .inl (1, 60), .inl (0, 10), .inl (2, 640), .inl (2, 16), .inl (2, 16), .inl (3, 400), .inl (2, 40), .inl (0, 40), .inl (0, 10), .inl (2, 3520), .inl (0, 420), .inl (0, 420), .inl (2, 192016), .inl (0, 12001), .inl (0, 72006), .inl (0, 32768), .inl (0, 12001), .inl (2, 16), .inl (3, 20000), .inl (2, 1)]
def SI (S : ST) : Nat → Nat → Int := S.2.1
def SL (S : ST) : Nat → Nat → Int64 := S.2.2.1
def SR (S : ST) : Nat → Nat → Nat := S.2.2.2
def kd (S : ST) (a : Nat) : Option KD := (K0 ++ S.1)[a]?
def sF (I : Nat → Int) (L : Nat → Int64) (R : Nat → Nat) (i c : Nat) : Value := match c with
  | 0 => .int (iI (I i))
  | 1 => .long (L i)
  | 2 => .ref (R i)
  | n + 3 => .ref n
def sC (I : Nat → Int) (L : Nat → Int64) (R : Nat → Nat) (k : KD) : xx_E := match k with
  | .inl (t, n) => if t = 2 then .inl (2, .inr (.inl ((List.range n).map L))) else .inl (t, .inl ((List.range n).map fun i => iI (I i)))
  | .inr (.inl l) => .inl (4, .inr (.inr l))
  | .inr (.inr (c, fs)) => .inr (c, fs.mapIdx fun i f => sF I L R i f)
def sH (S : ST) : xx_H := (K0 ++ S.1).mapIdx fun a k => sC (SI S a) (SL S a) (SR S a) k
def u2 {α : Type} (f : Nat → Nat → α) (a i : Nat) (x : α) : Nat → Nat → α := fun b j => if b = a ∧ j = i then x else f b j
def ua {α : Type} (f : Nat → Nat → α) (a : Nat) (g : Nat → α) : Nat → Nat → α := fun b => if b = a then g else f b
/-- writes: an int, a long, a reference; a whole row of ints, of longs -/
def wI (S : ST) (a i : Nat) (z : Int) : ST := (S.1, u2 (SI S) a i z, SL S, SR S)
def wL (S : ST) (a i : Nat) (z : Int64) : ST := (S.1, SI S, u2 (SL S) a i z, SR S)
def wR (S : ST) (a i : Nat) (z : Nat) : ST := (S.1, SI S, SL S, u2 (SR S) a i z)
def wIA (S : ST) (a : Nat) (f : Nat → Int) : ST := (S.1, ua (SI S) a f, SL S, SR S)
def wLA (S : ST) (a : Nat) (f : Nat → Int64) : ST := (S.1, SI S, ua (SL S) a f, SR S)
theorem sh_get (S : ST) (a : Nat) : (sH S)[a]? = (kd S a).map (fun k => sC (SI S a) (SL S a) (SR S a) k) := List.getElem?_mapIdx
theorem sh_len (S : ST) : (sH S).length = 203 + S.1.length := by
  unfold sH
  rw [List.length_mapIdx, List.length_append]
  rfl
theorem kd_lt {S : ST} {a : Nat} {k : KD} (h : kd S a = some k) : a < (sH S).length := by
  have : a < (K0 ++ S.1).length := (List.getElem?_eq_some_iff.mp h).1
  unfold sH
  rw [List.length_mapIdx]
  exact this
/-- one cell differs -/
theorem sh_set {S T : ST} {a : Nat} {k : KD} {e : xx_E} (hk : kd S a = some k) (h1 : T.1 = S.1) (hI : ∀ b, b ≠ a → SI T b = SI S b) (hL : ∀ b, b ≠ a → SL T b = SL S b) (hR : ∀ b, b ≠ a → SR T b = SR S b) (he : e = sC (SI T a) (SL T a) (SR T a) k) : (sH S).set a e = sH T := by
  have hkT : ∀ b, kd T b = kd S b := fun b => by unfold kd; rw [h1]
  refine List.ext_getElem? (fun b => ?_)
  rw [sh_get, hkT, List.getElem?_set]
  by_cases hb : a = b
  · subst hb
    rw [if_pos rfl, if_pos (kd_lt hk), hk, he]
    rfl
  · rw [if_neg hb, sh_get, hI b (Ne.symm hb), hL b (Ne.symm hb), hR b (Ne.symm hb)]
/-- two memories that agree where it matters are one heap -/
theorem sh_ext {S T : ST} (h1 : T.1 = S.1) (hc : ∀ a k, kd S a = some k → sC (SI T a) (SL T a) (SR T a) k = sC (SI S a) (SL S a) (SR S a) k) : sH T = sH S := by
  have hkT : ∀ b, kd T b = kd S b := fun b => by unfold kd; rw [h1]
  refine List.ext_getElem? (fun b => ?_)
  rw [sh_get, sh_get, hkT]
  cases hk : kd S b with
  | none => rfl
  | some k => exact congrArg some (hc b k hk)
theorem u2_ne {α : Type} {f : Nat → Nat → α} {a i b : Nat} {x : α} (h : b ≠ a) : u2 f a i x b = f b := funext fun _ => if_neg fun e => h e.1
theorem u2_eq {α : Type} {f : Nat → Nat → α} {a i : Nat} {x : α} : u2 f a i x a = fun j => if j = i then x else f a j := funext fun j => by
  unfold u2
  by_cases h : j = i
  · rw [if_pos h, if_pos ⟨rfl, h⟩]
  · rw [if_neg h, if_neg (fun e => h e.2)]
theorem ua_ne {α : Type} {f : Nat → Nat → α} {a b : Nat} {g : Nat → α} (h : b ≠ a) : ua f a g b = f b := if_neg h
theorem ua_eq {α : Type} {f : Nat → Nat → α} {a : Nat} {g : Nat → α} : ua f a g a = g := if_pos rfl
theorem SI_wI (S : ST) (a i : Nat) (z : Int) (b j : Nat) : SI (wI S a i z) b j = if b = a ∧ j = i then z else SI S b j := rfl
theorem SL_wI (S : ST) (a i : Nat) (z : Int) : SL (wI S a i z) = SL S := rfl
theorem SR_wI (S : ST) (a i : Nat) (z : Int) : SR (wI S a i z) = SR S := rfl
theorem SI_wL (S : ST) (a i : Nat) (z : Int64) : SI (wL S a i z) = SI S := rfl
theorem SL_wL (S : ST) (a i : Nat) (z : Int64) (b j : Nat) : SL (wL S a i z) b j = if b = a ∧ j = i then z else SL S b j := rfl
theorem SR_wL (S : ST) (a i : Nat) (z : Int64) : SR (wL S a i z) = SR S := rfl
theorem SI_wR (S : ST) (a i : Nat) (z : Nat) : SI (wR S a i z) = SI S := rfl
theorem SL_wR (S : ST) (a i : Nat) (z : Nat) : SL (wR S a i z) = SL S := rfl
theorem SR_wR (S : ST) (a i : Nat) (z : Nat) (b j : Nat) : SR (wR S a i z) b j = if b = a ∧ j = i then z else SR S b j := rfl
theorem SI_wIA (S : ST) (a : Nat) (f : Nat → Int) (b : Nat) : SI (wIA S a f) b = if b = a then f else SI S b := rfl
theorem SL_wIA (S : ST) (a : Nat) (f : Nat → Int) : SL (wIA S a f) = SL S := rfl
theorem SR_wIA (S : ST) (a : Nat) (f : Nat → Int) : SR (wIA S a f) = SR S := rfl
theorem SI_wLA (S : ST) (a : Nat) (f : Nat → Int64) : SI (wLA S a f) = SI S := rfl
theorem SL_wLA (S : ST) (a : Nat) (f : Nat → Int64) (b : Nat) : SL (wLA S a f) b = if b = a then f else SL S b := rfl
theorem SR_wLA (S : ST) (a : Nat) (f : Nat → Int64) : SR (wLA S a f) = SR S := rfl
theorem kd_wI (S : ST) (a i : Nat) (z : Int) (b : Nat) : kd (wI S a i z) b = kd S b := rfl
theorem kd_wL (S : ST) (a i : Nat) (z : Int64) (b : Nat) : kd (wL S a i z) b = kd S b := rfl
theorem kd_wR (S : ST) (a i : Nat) (z : Nat) (b : Nat) : kd (wR S a i z) b = kd S b := rfl
theorem kd_wIA (S : ST) (a : Nat) (f : Nat → Int) (b : Nat) : kd (wIA S a f) b = kd S b := rfl
theorem kd_wLA (S : ST) (a : Nat) (f : Nat → Int64) (b : Nat) : kd (wLA S a f) b = kd S b := rfl
theorem sh_int {S : ST} {a t n i : Nat} {z : Int} (hk : kd S a = some (.inl (t, n))) (ht : t ≠ 2) : (sH S).set a (.inl (t, .inl (((List.range n).map fun i => iI (SI S a i)).set i (iI z)))) = sH (wI S a i z) := by
  refine sh_set hk rfl (fun b hb => u2_ne hb) (fun b hb => rfl) (fun b hb => rfl) ?_
  show _ = sC (u2 (SI S) a i z a) _ _ _
  rw [u2_eq]
  unfold sC
  dsimp only
  rw [if_neg ht]
  refine congrArg (fun l => Sum.inl (t, Sum.inl l)) (List.ext_getElem? (fun j => ?_))
  rw [List.getElem?_set]
  by_cases hj : i = j
  · subst hj
    by_cases hi : i < n
    · rw [if_pos rfl, if_pos (by rw [List.length_map, List.length_range]; exact hi), List.getElem?_map, List.getElem?_range hi]
      simp
    · rw [if_pos rfl, if_neg (by rw [List.length_map, List.length_range]; exact hi), List.getElem?_eq_none (by rw [List.length_map, List.length_range]; omega)]
  · rw [if_neg hj, List.getElem?_map, List.getElem?_map]
    by_cases hi : j < n
    · rw [List.getElem?_range hi]
      simp [Ne.symm hj]
    · rw [List.getElem?_eq_none (by rw [List.length_range]; omega)]
      rfl
theorem sh_long {S : ST} {a n i : Nat} {z : Int64} (hk : kd S a = some (.inl (2, n))) : (sH S).set a (.inl (2, .inr (.inl (((List.range n).map (SL S a)).set i z)))) = sH (wL S a i z) := by
  refine sh_set hk rfl (fun b hb => rfl) (fun b hb => u2_ne hb) (fun b hb => rfl) ?_
  show _ = sC _ (u2 (SL S) a i z a) _ _
  rw [u2_eq]
  unfold sC
  dsimp only
  rw [if_pos rfl]
  refine congrArg (fun l => Sum.inl (2, Sum.inr (Sum.inl l))) (List.ext_getElem? (fun j => ?_))
  rw [List.getElem?_set]
  by_cases hj : i = j
  · subst hj
    by_cases hi : i < n
    · rw [if_pos rfl, if_pos (by rw [List.length_map, List.length_range]; exact hi), List.getElem?_map, List.getElem?_range hi]
      simp
    · rw [if_pos rfl, if_neg (by rw [List.length_map, List.length_range]; exact hi), List.getElem?_eq_none (by rw [List.length_map, List.length_range]; omega)]
  · rw [if_neg hj, List.getElem?_map, List.getElem?_map]
    by_cases hi : j < n
    · rw [List.getElem?_range hi]
      simp [Ne.symm hj]
    · rw [List.getElem?_eq_none (by rw [List.length_range]; omega)]
      rfl
/-- a field is written -/
theorem sh_fld {S T : ST} {a c f : Nat} {fs : List Nat} {v : Value} (hk : kd S a = some (.inr (.inr (c, fs)))) (h1 : T.1 = S.1) (hI : ∀ b, b ≠ a → SI T b = SI S b) (hL : ∀ b, b ≠ a → SL T b = SL S b) (hR : ∀ b, b ≠ a → SR T b = SR S b) (hf : f < fs.length) (hv : ∀ g, fs[f]? = some g → v = sF (SI T a) (SL T a) (SR T a) f g) (ho : ∀ j g, j ≠ f → sF (SI T a) (SL T a) (SR T a) j g = sF (SI S a) (SL S a) (SR S a) j g) : (sH S).set a (.inr (c, (fs.mapIdx fun i f => sF (SI S a) (SL S a) (SR S a) i f).set f v)) = sH T := by
  refine sh_set hk h1 hI hL hR ?_
  unfold sC
  dsimp only
  refine congrArg (fun l => Sum.inr (c, l)) (List.ext_getElem? (fun j => ?_))
  rw [List.getElem?_set, List.length_mapIdx, List.getElem?_mapIdx, List.getElem?_mapIdx]
  by_cases hj : f = j
  · subst hj
    rw [if_pos rfl, if_pos hf, List.getElem?_eq_getElem hf]
    exact congrArg some (hv _ (List.getElem?_eq_getElem hf))
  · rw [if_neg hj]
    cases fs[j]? with
    | none => rfl
    | some g => exact congrArg some (ho j g (Ne.symm hj)).symm
theorem sk_0 (S : ST) : kd S 0 = some (.inr (.inr (7, [4, 10, 55, 67, 72, 180, 0, 0, 0, 1, 1]))) := rfl
theorem sk_1 (S : ST) : kd S 1 = some (.inr (.inr (2, [5, 6, 7, 8, 9, 0, 0, 0]))) := rfl
theorem sk_2 (S : ST) : kd S 2 = some (.inl (0, 10)) := rfl
theorem sk_3 (S : ST) : kd S 3 = some (.inl (0, 10)) := rfl
theorem sk_4 (S : ST) : kd S 4 = some (.inl (0, 60)) := rfl
theorem sk_5 (S : ST) : kd S 5 = some (.inl (1, 60)) := rfl
theorem sk_6 (S : ST) : kd S 6 = some (.inl (2, 1024)) := rfl
theorem sk_7 (S : ST) : kd S 7 = some (.inr (.inr (4, [4, 11, 52, 53, 54, 0, 0]))) := rfl
theorem sk_8 (S : ST) : kd S 8 = some (.inr (.inl ((List.range 40).map fun j => some (9 + j)))) := rfl
theorem sk_49 (S : ST) : kd S 49 = some (.inl (2, 40)) := rfl
theorem sk_50 (S : ST) : kd S 50 = some (.inl (0, 40)) := rfl
theorem sk_51 (S : ST) : kd S 51 = some (.inl (2, 16)) := rfl
theorem sk_52 (S : ST) : kd S 52 = some (.inr (.inr (3, [4, 56, 57, 58, 59, 60, 2, 2, 2, 2, 2, 2, 0, 0, 0]))) := rfl
theorem sk_53 (S : ST) : kd S 53 = some (.inl (0, 10)) := rfl
theorem sk_54 (S : ST) : kd S 54 = some (.inl (0, 10)) := rfl
theorem sk_55 (S : ST) : kd S 55 = some (.inl (0, 640)) := rfl
theorem sk_56 (S : ST) : kd S 56 = some (.inl (0, 60)) := rfl
theorem sk_57 (S : ST) : kd S 57 = some (.inl (0, 6)) := rfl
theorem sk_58 (S : ST) : kd S 58 = some (.inl (0, 64)) := rfl
theorem sk_59 (S : ST) : kd S 59 = some (.inl (0, 64)) := rfl
theorem sk_60 (S : ST) : kd S 60 = some (.inl (0, 64)) := rfl
theorem sk_61 (S : ST) : kd S 61 = some (.inl (0, 64)) := rfl
theorem sk_62 (S : ST) : kd S 62 = some (.inl (0, 64)) := rfl
theorem sk_63 (S : ST) : kd S 63 = some (.inl (0, 384)) := rfl
theorem sk_64 (S : ST) : kd S 64 = some (.inr (.inr (6, [68, 69, 70, 71, 0, 0, 0]))) := rfl
theorem sk_65 (S : ST) : kd S 65 = some (.inl (0, 400)) := rfl
theorem sk_66 (S : ST) : kd S 66 = some (.inl (0, 401)) := rfl
theorem sk_67 (S : ST) : kd S 67 = some (.inl (0, 401)) := rfl
theorem sk_68 (S : ST) : kd S 68 = some (.inl (2, 401)) := rfl
theorem sk_69 (S : ST) : kd S 69 = some (.inr (.inr (5, [67, 4, 10, 73, 0, 0, 0, 0]))) := rfl
theorem sk_70 (S : ST) : kd S 70 = some (.inr (.inl ((List.range 106).map fun j => some (71 + j)))) := rfl
theorem sk_177 (S : ST) : kd S 177 = some (.inr (.inr (1, [181, 0]))) := rfl
theorem sk_178 (S : ST) : kd S 178 = some (.inl (0, 8192)) := rfl
theorem sk_179 (S : ST) : kd S 179 = some (.inr (.inr (8, [0, 0, 183, 184, 0, 185, 186, 187, 188, 0, 189, 190, 191, 0, 0, 192, 193, 0, 194, 0, 1, 1, 0, 0, 0, 0, 1, 0, 0, 195, 0, 196, 197, 0, 0, 198, 199, 200, 0, 201, 202, 203, 0, 204, 0]))) := rfl
theorem sk_180 (S : ST) : kd S 180 = some (.inl (0, 10)) := rfl
theorem sk_181 (S : ST) : kd S 181 = some (.inl (0, 10)) := rfl
theorem sk_182 (S : ST) : kd S 182 = some (.inl (0, 60)) := rfl
theorem sk_183 (S : ST) : kd S 183 = some (.inl (1, 60)) := rfl
theorem sk_184 (S : ST) : kd S 184 = some (.inl (0, 10)) := rfl
theorem sk_185 (S : ST) : kd S 185 = some (.inl (2, 640)) := rfl
theorem sk_186 (S : ST) : kd S 186 = some (.inl (2, 16)) := rfl
theorem sk_187 (S : ST) : kd S 187 = some (.inl (2, 16)) := rfl
theorem sk_188 (S : ST) : kd S 188 = some (.inl (3, 400)) := rfl
theorem sk_189 (S : ST) : kd S 189 = some (.inl (2, 40)) := rfl
theorem sk_190 (S : ST) : kd S 190 = some (.inl (0, 40)) := rfl
theorem sk_191 (S : ST) : kd S 191 = some (.inl (0, 10)) := rfl
theorem sk_192 (S : ST) : kd S 192 = some (.inl (2, 3520)) := rfl
theorem sk_193 (S : ST) : kd S 193 = some (.inl (0, 420)) := rfl
theorem sk_194 (S : ST) : kd S 194 = some (.inl (0, 420)) := rfl
theorem sk_195 (S : ST) : kd S 195 = some (.inl (2, 192016)) := rfl
theorem sk_196 (S : ST) : kd S 196 = some (.inl (0, 12001)) := rfl
theorem sk_197 (S : ST) : kd S 197 = some (.inl (0, 72006)) := rfl
theorem sk_198 (S : ST) : kd S 198 = some (.inl (0, 32768)) := rfl
theorem sk_199 (S : ST) : kd S 199 = some (.inl (0, 12001)) := rfl
theorem sk_200 (S : ST) : kd S 200 = some (.inl (2, 16)) := rfl
theorem sk_201 (S : ST) : kd S 201 = some (.inl (3, 20000)) := rfl
theorem sk_202 (S : ST) : kd S 202 = some (.inl (2, 1)) := rfl
theorem sk_rows (S : ST) {i : Nat} (hi : i < 40) : kd S (9 + i) = some (.inl (2, 16)) := by
  unfold kd
  rw [List.getElem?_append_left (by show 9 + i < 203; omega)]
  have e1 : (K0.drop 9).take 40 = List.replicate 40 (.inl (2, 16)) := rfl
  have e2 : ((K0.drop 9).take 40)[i]? = some (.inl (2, 16)) := by rw [e1, List.getElem?_replicate, if_pos hi]
  rw [List.getElem?_take, if_pos hi, List.getElem?_drop] at e2
  exact e2
theorem sk_slots (S : ST) {i : Nat} (hi : i < 106) : kd S (71 + i) = some (.inl (2, 16)) := by
  unfold kd
  rw [List.getElem?_append_left (by show 71 + i < 203; omega)]
  have e1 : (K0.drop 71).take 106 = List.replicate 106 (.inl (2, 16)) := rfl
  have e2 : ((K0.drop 71).take 106)[i]? = some (.inl (2, 16)) := by rw [e1, List.getElem?_replicate, if_pos hi]
  rw [List.getElem?_take, if_pos hi, List.getElem?_drop] at e2
  exact e2
theorem kd_tail (S : ST) (a : Nat) : kd S (203 + a) = S.1[a]? := by
  unfold kd
  rw [List.getElem?_append_right (by show 203 ≤ 203 + a; omega)]
  show S.1[203 + a - 203]? = _
  rw [Nat.add_sub_cancel_left]
