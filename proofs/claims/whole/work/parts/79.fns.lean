/-! ===== Functions: the rest ===== -/
def anyB (p : Nat → Bool) : Nat → Bool
  | 0 => false
  | n + 1 => anyB p n || p n
def allB (p : Nat → Bool) : Nat → Bool
  | 0 => true
  | n + 1 => allB p n && p n
def cntB (p : Nat → Bool) : Nat → Nat
  | 0 => 0
  | n + 1 => cntB p n + (if p n then 1 else 0)
theorem anyB_iff {p : Nat → Bool} : ∀ {n : Nat}, anyB p n = true ↔ ∃ i, i < n ∧ p i = true
  | 0 => ⟨fun h => absurd h Bool.false_ne_true, fun ⟨i, h, _⟩ => absurd h (by omega)⟩
  | n + 1 => by
    have ih := anyB_iff (p := p) (n := n)
    show (anyB p n || p n) = true ↔ _
    rw [Bool.or_eq_true, ih]
    constructor
    · rintro (⟨i, h1, h2⟩ | h)
      · exact ⟨i, by omega, h2⟩
      · exact ⟨n, by omega, h⟩
    · rintro ⟨i, h1, h2⟩
      by_cases c : i = n
      · subst c
        exact Or.inr h2
      · exact Or.inl ⟨i, by omega, h2⟩
theorem allB_iff {p : Nat → Bool} : ∀ {n : Nat}, allB p n = true ↔ ∀ i, i < n → p i = true
  | 0 => ⟨fun _ i h => absurd h (by omega), fun _ => rfl⟩
  | n + 1 => by
    have ih := allB_iff (p := p) (n := n)
    show (allB p n && p n) = true ↔ _
    rw [Bool.and_eq_true, ih]
    constructor
    · rintro ⟨h1, h2⟩ i hi
      by_cases c : i = n
      · subst c
        exact h2
      · exact h1 i (by omega)
    · exact fun h => ⟨fun i hi => h i (by omega), h n (by omega)⟩
theorem cntB_le (p : Nat → Bool) : ∀ n, cntB p n ≤ n
  | 0 => Nat.le_refl _
  | n + 1 => by
    have := cntB_le p n
    show cntB p n + (if p n then 1 else 0) ≤ n + 1
    split <;> omega
theorem cntB_all (p : Nat → Bool) : ∀ n, cntB p n = n ↔ allB p n = true
  | 0 => ⟨fun _ => rfl, fun _ => rfl⟩
  | n + 1 => by
    have ih := cntB_all p n
    have hl := cntB_le p n
    show cntB p n + (if p n then 1 else 0) = n + 1 ↔ (allB p n && p n) = true
    rw [Bool.and_eq_true, ← ih]
    cases p n <;> simp <;> omega
theorem cntB_any (p : Nat → Bool) : ∀ n, 0 < cntB p n ↔ anyB p n = true
  | 0 => ⟨fun h => absurd h (Nat.lt_irrefl 0), fun h => absurd h Bool.false_ne_true⟩
  | n + 1 => by
    have ih := cntB_any p n
    show 0 < cntB p n + (if p n then 1 else 0) ↔ (anyB p n || p n) = true
    rw [Bool.or_eq_true, ← ih]
    cases p n <;> simp
/-- the first place of a word from i on, k places being looked at -/
def fnd (nm : Nat → Int64) (x : Int64) : Nat → Nat → Int
  | 0, _ => -1
  | k + 1, i => if nm i = x then i else fnd nm x k (i + 1)
theorem rows_at {f : Nat} (hf : f < 40) : ((List.range 40).map fun j => some (9 + j))[f]? = some (some (9 + f)) := by
  rw [List.getElem?_map, List.getElem?_range hf]
  rfl
theorem slots_at {f : Nat} (hf : f < 106) : ((List.range 106).map fun j => some (71 + j))[f]? = some (some (71 + f)) := by
  rw [List.getElem?_map, List.getElem?_range hf]
  rfl
section FN
variable {X : List Int32} {S : ST} {n : Nat} {sz : Nat → Nat} {fn : Nat} {a b c : Nat} {f g h : Nat → Bool} {wt : Nat → Int} {ro : Nat → Bool}

theorem c_fhas (hfn : SI S 7 5 = (fn : Nat)) (h40 : fn ≤ 40) {x : Int} (hx : rg x) : sM X 0 57 [.ref 7, .int (iI x)] S (sV (some (.int (iI (bI (decide (0 ≤ x ∧ x < fn)))))) S) := by
  have x1 := hx.1
  have x2 := hx.2
  refine sIni (ls := [some (.ref 7), some (.int (iI x))]) rfl ?_
  refine sL (pc' := 1) (i := .iload_n 1) rfl rfl ?_
  refine sIf_lt (p := 4) rfl rfl ⟨by omega, by omega⟩ (fun c1 => ?_) (fun c1 => ?_)
  · have c1 := c1
    refine sKi (p := 17) rfl rfl ?_
    refine sEn (i := .ireturn) rfl (rfl) ?_
    exact sV_f (by omega) rfl
  · have c1 := c1
    refine sL (pc' := 5) (i := .iload_n 1) rfl rfl ?_
    refine sL (pc' := 6) (i := .aload_n 0) rfl rfl ?_
    refine sGi (p := 9) rfl rfl (sk_7 _) rfl rfl rfl hfn ?_
    refine sIc_ge (p := 12) rfl rfl ⟨by omega, by omega⟩ ⟨by omega, by omega⟩ (fun c2 => ?_) (fun c2 => ?_)
    · have c2 := c2
      refine sKi (p := 17) rfl rfl ?_
      refine sEn (i := .ireturn) rfl (rfl) ?_
      exact sV_f (by omega) rfl
    · have c2 := c2
      refine sKi (p := 13) rfl rfl ?_
      refine sL (i := .goto 4) rfl rfl ?_
      refine sEn (i := .ireturn) rfl (rfl) ?_
      exact sV_t (by omega) rfl
theorem c_isFull {dr : Nat} (hfn : SI S 7 5 = (fn : Nat)) (hdr : SI S 7 6 = (dr : Nat)) (h40 : fn + dr ≤ 40) : sM X 0 58 [.ref 7] S (sV (some (.int (iI (bI (decide (fn + dr = 40)))))) S) := by
  refine sIni (ls := [some (.ref 7)]) rfl ?_
  refine sL (pc' := 1) (i := .aload_n 0) rfl rfl ?_
  refine sGi (p := 4) rfl rfl (sk_7 _) rfl rfl rfl hfn ?_
  refine sL (pc' := 5) (i := .aload_n 0) rfl rfl ?_
  refine sGi (p := 8) rfl rfl (sk_7 _) rfl rfl rfl hdr ?_
  refine sAd (p := 9) rfl rfl ?_
  refine sKb (p := 11) rfl rfl ?_
  refine sIc_lt (p := 14) rfl rfl ⟨by omega, by omega⟩ ⟨by omega, by omega⟩ (fun c1 => ?_) (fun c1 => ?_)
  · have c1 := c1
    refine sKi (p := 19) rfl rfl ?_
    refine sEn (i := .ireturn) rfl (rfl) ?_
    exact sV_f (by omega) rfl
  · have c1 := c1
    refine sKi (p := 15) rfl rfl ?_
    refine sL (i := .goto 4) rfl rfl ?_
    refine sEn (i := .ireturn) rfl (rfl) ?_
    exact sV_t (by omega) rfl
theorem c_row {i : Nat} (hi : i < 40) : sM X 0 59 [.ref 7, .int (iI (i : Nat))] S (sV (some (.ref (9 + i))) S) := by
  refine sIni (ls := [some (.ref 7), some (.int (iI ((i : Nat) : Int)))]) rfl ?_
  refine sL (pc' := 1) (i := .iload_n 1) rfl rfl ?_
  refine sIf_lt (p := 4) rfl rfl ⟨by omega, by omega⟩ (fun c1 => ?_) (fun c1 => ?_)
  · exfalso; omega
  · have c1 := c1
    refine sL (pc' := 5) (i := .iload_n 1) rfl rfl ?_
    refine sKb (p := 7) rfl rfl ?_
    refine sIc_ge (p := 10) rfl rfl ⟨by omega, by omega⟩ ⟨by omega, by omega⟩ (fun c2 => ?_) (fun c2 => ?_)
    · exfalso; omega
    · have c2 := c2
      refine sL (pc' := 11) (i := .aload_n 0) rfl rfl ?_
      refine sGc (p := 14) rfl rfl (sk_7 _) rfl rfl rfl ?_
      refine sL (pc' := 15) (i := .iload_n 1) rfl rfl ?_
      refine sAa (p := 16) (i := i) rfl rfl (sk_8 _) (by omega) (by omega) (rows_at hi) ?_
      refine sL (i := .goto 7) rfl rfl ?_
      refine sEn (i := .areturn) rfl (rfl) ?_
      exact ⟨rfl, rfl⟩
theorem c_rootOf {i : Nat} {rt : Nat → Int} (hfn : SI S 7 5 = (fn : Nat)) (h40 : fn ≤ 40) (hi : i < fn) (hrt : SI S 50 i = rt i) : sM X 1 60 [.ref 7, .int (iI (i : Nat))] S (sV (some (.int (iI (rt i)))) S) := by
  refine sIni (ls := [some (.ref 7), some (.int (iI ((i : Nat) : Int)))]) rfl ?_
  refine sL (pc' := 1) (i := .aload_n 0) rfl rfl ?_
  refine sL (pc' := 2) (i := .iload_n 1) rfl rfl ?_
  refine sCv (p := 5) (as := [_]) rfl rfl rfl rfl (by decide) (Nat.le_of_ble_eq_true rfl) rfl (Nat.le_of_ble_eq_true rfl) (sk_7 _) rfl (by omega) (c_fhas hfn h40 (x := (i : Int)) ⟨by omega, by omega⟩) ?_
  refine sBe (p := 8) rfl rfl (fun c1 => ?_) (fun c1 => ?_)
  · have c1 := c1
    have c1 := of_decide_eq_false c1
    exact absurd (show 0 ≤ (i : Int) ∧ (i : Int) < fn by omega) c1
  · have c1 := c1
    have c1 := of_decide_eq_true c1
    refine sL (pc' := 9) (i := .aload_n 0) rfl rfl ?_
    refine sGc (p := 12) rfl rfl (sk_7 _) rfl rfl rfl ?_
    refine sL (pc' := 13) (i := .iload_n 1) rfl rfl ?_
    refine sAi (p := 14) (i := i) rfl rfl (sk_50 _) (by omega) ⟨by omega, by omega⟩ hrt ?_
    refine sL (i := .goto 4) rfl rfl ?_
    refine sEn (i := .ireturn) rfl (rfl) ?_
    exact ⟨rfl, rfl⟩
theorem c_fill0 (hk : kd S a = some (.inl (2, 16))) : sM X 0 321 [.ref a, .long (lI 0)] S (sV none (wRw S a 0 (fun _ => false))) := by
  refine sIni (ls := [some (.ref a), some (.long (lI 0)), none, none, none]) rfl ?_
  refine sKi (p := 1) rfl rfl ?_
  refine sL (pc' := 2) (i := .istore_n 3) (ls' := [some (.ref a), some (.long (lI 0)), none, some (.int (iI 0)), none]) rfl rfl ?_
  refine sL (pc' := 3) (i := .aload_n 0) rfl rfl ?_
  refine sLn (p := 4) rfl rfl hk (by decide) ?_
  refine sL (pc' := 6) (i := .istore 4) (ls' := [some (.ref a), some (.long (lI 0)), none, some (.int (iI 0)), some (.int (iI 16))]) rfl rfl ?_
  refine sSh (T := wKw S a 0 0 (fun _ => false)) (congrArg sH (wKw_0 _ _ _ _).symm) ?_
  refine sIt (A := fun i => [some (.ref a), some (.long (lI 0)), none, some (.int (iI ((i : Nat) : Int))), some (.int (iI 16))]) (B := fun i => wKw S a 0 i (fun _ => false)) (fun _ => True) 16 True.intro (fun i hi6 hI6 ih6 => ?_) (fun hI6 => ?_)
  · have hi6 := hi6
    refine sL (pc' := 7) (i := .iload_n 3) rfl rfl ?_
    refine sL (pc' := 9) (i := .iload 4) rfl rfl ?_
    refine sIc_ge (p := 12) rfl rfl ⟨by omega, by omega⟩ ⟨by omega, by omega⟩ (fun c1 => ?_) (fun c1 => ?_)
    · exfalso; omega
    · have c1 := c1
      refine sL (pc' := 13) (i := .aload_n 0) rfl rfl ?_
      refine sL (pc' := 14) (i := .iload_n 3) rfl rfl ?_
      refine sL (pc' := 15) (i := .lload_n 1) rfl rfl ?_
      refine sWl (p := 16) (i := i) rfl rfl hk (by omega) ⟨by omega, by omega⟩ ?_
      refine sInX (z := ((i : Nat) : Int)) (ls' := [some (.ref a), some (.long (lI 0)), none, some (.int (iI (((i : Nat) : Int) + 1))), some (.int (iI 16))]) (p := 19) rfl rfl (Nat.le_of_ble_eq_true rfl) rfl rfl ?_
      refine sL (i := .goto (-13)) rfl rfl ?_
      refine sRo (ls := [some (.ref a), some (.long (lI 0)), none, some (.int (iI ((i + 1 : Nat) : Int))), some (.int (iI 16))]) (T := wKw S a 0 (i + 1) (fun _ => false)) (And.intro rfl (And.intro rfl (And.intro rfl (And.intro rfl (True.intro))))) (congrArg sH (wKw_s (by omega) (by rw [pkw_0]; rfl))) (ih6 ?_)
      exact True.intro
  · have hI6 := hI6
    refine sL (pc' := 7) (i := .iload_n 3) rfl rfl ?_
    refine sL (pc' := 9) (i := .iload 4) rfl rfl ?_
    refine sIc_ge (p := 12) rfl rfl ⟨by omega, by omega⟩ ⟨by omega, by omega⟩ (fun c2 => ?_) (fun c2 => ?_)
    · have c2 := c2
      refine sEn (i := .return_) rfl (rfl) ?_
      exact ⟨rfl, congrArg sH (wKw_16 _ _ _ _)⟩
    · exact absurd c2 (by decide)
theorem c_blank (hfn : SI S 7 5 = (fn : Nat)) (h40 : fn < 40) : sM X 1 61 [.ref 7] S (sV (some (.ref (9 + fn))) (wL (wRw S (9 + fn) 0 (fun _ => false)) 49 fn (lI 0))) := by
  refine sIni (ls := [some (.ref 7), none]) rfl ?_
  refine sL (pc' := 1) (i := .aload_n 0) rfl rfl ?_
  refine sL (pc' := 2) (i := .aload_n 0) rfl rfl ?_
  refine sGi (p := 5) rfl rfl (sk_7 _) rfl rfl rfl hfn ?_
  refine sCv (p := 8) (as := [_]) rfl rfl rfl rfl (by decide) (Nat.le_of_ble_eq_true rfl) rfl (Nat.le_of_ble_eq_true rfl) (sk_7 _) rfl (by omega) (c_row h40) ?_
  refine sL (pc' := 9) (i := .astore_n 1) (ls' := [some (.ref 7), some (.ref (9 + fn))]) rfl rfl ?_
  refine sL (pc' := 10) (i := .aload_n 1) rfl rfl ?_
  refine sKj0 (p := 11) rfl rfl rfl ?_
  refine sCs (p := 14) (as := [_, _]) rfl rfl rfl rfl (by decide) (Nat.le_of_ble_eq_true rfl) rfl (Nat.le_of_ble_eq_true rfl) rfl (by omega) (c_fill0 (sk_rows _ h40)) ?_
  refine sL (pc' := 15) (i := .aload_n 0) rfl rfl ?_
  refine sGi (p := 18) rfl rfl (sk_7 _) rfl rfl rfl hfn ?_
  refine sKb (p := 20) rfl rfl ?_
  refine sIc_ge (p := 23) rfl rfl ⟨by omega, by omega⟩ ⟨by omega, by omega⟩ (fun c1 => ?_) (fun c1 => ?_)
  · exfalso; omega
  · have c1 := c1
    refine sL (pc' := 24) (i := .aload_n 0) rfl rfl ?_
    refine sGc (p := 27) rfl rfl (sk_7 _) rfl rfl rfl ?_
    refine sL (pc' := 28) (i := .aload_n 0) rfl rfl ?_
    refine sGi (p := 31) rfl rfl (sk_7 _) rfl rfl rfl hfn ?_
    refine sKj0 (p := 32) rfl rfl rfl ?_
    refine sWl (p := 33) (i := fn) rfl rfl (sk_49 _) (by omega) ⟨by omega, by omega⟩ ?_
    refine sL (pc' := 34) (i := .aload_n 1) rfl rfl ?_
    refine sEn (i := .areturn) rfl (rfl) ?_
    exact ⟨rfl, rfl⟩
theorem c_max {x y : Int} (hx : rg x) (hy : rg y) : sM X 0 335 [.int (iI x), .int (iI y)] S (sV (some (.int (iI (if x < y then y else x)))) S) := by
  have x1 := hx.1
  have x2 := hx.2
  have y1 := hy.1
  have y2 := hy.2
  refine sIni (ls := [some (.int (iI x)), some (.int (iI y))]) rfl ?_
  refine sL (pc' := 1) (i := .iload_n 0) rfl rfl ?_
  refine sL (pc' := 2) (i := .iload_n 1) rfl rfl ?_
  refine sIc_lt (p := 5) rfl rfl ⟨by omega, by omega⟩ ⟨by omega, by omega⟩ (fun c1 => ?_) (fun c1 => ?_)
  · have c1 := c1
    refine sL (pc' := 10) (i := .iload_n 1) rfl rfl ?_
    refine sEn (i := .ireturn) rfl (rfl) ?_
    exact ⟨by rw [if_pos (by omega)], rfl⟩
  · have c1 := c1
    refine sL (pc' := 6) (i := .iload_n 0) rfl rfl ?_
    refine sL (i := .goto 4) rfl rfl ?_
    refine sEn (i := .ireturn) rfl (rfl) ?_
    exact ⟨by rw [if_neg (by omega)], rfl⟩
theorem c_min {x y : Int} (hx : rg x) (hy : rg y) : sM X 0 336 [.int (iI x), .int (iI y)] S (sV (some (.int (iI (if y < x then y else x)))) S) := by
  have x1 := hx.1
  have x2 := hx.2
  have y1 := hy.1
  have y2 := hy.2
  refine sIni (ls := [some (.int (iI x)), some (.int (iI y))]) rfl ?_
  refine sL (pc' := 1) (i := .iload_n 0) rfl rfl ?_
  refine sL (pc' := 2) (i := .iload_n 1) rfl rfl ?_
  refine sIc_gt (p := 5) rfl rfl ⟨by omega, by omega⟩ ⟨by omega, by omega⟩ (fun c1 => ?_) (fun c1 => ?_)
  · have c1 := c1
    refine sL (pc' := 10) (i := .iload_n 1) rfl rfl ?_
    refine sEn (i := .ireturn) rfl (rfl) ?_
    exact ⟨by rw [if_pos (by omega)], rfl⟩
  · have c1 := c1
    refine sL (pc' := 6) (i := .iload_n 0) rfl rfl ?_
    refine sL (i := .goto 4) rfl rfl ?_
    refine sEn (i := .ireturn) rfl (rfl) ?_
    exact ⟨by rw [if_neg (by omega)], rfl⟩
theorem c_keep {dr : Nat} {rt : Int} (hfn : SI S 7 5 = (fn : Nat)) (hdr : SI S 7 6 = (dr : Nat)) (hd : dr ≤ 40) (h40 : fn < 40) : sM X 1 62 [.ref 7, .int (iI rt)] S (sV none (wI (wI (wI S 50 fn rt) 7 5 ((fn + 1 : Nat) : Int)) 7 6 ((dr - 1 : Nat) : Int))) := by
  refine sIni (ls := [some (.ref 7), some (.int (iI rt))]) rfl ?_
  refine sL (pc' := 1) (i := .aload_n 0) rfl rfl ?_
  refine sGi (p := 4) rfl rfl (sk_7 _) rfl rfl rfl hfn ?_
  refine sKb (p := 6) rfl rfl ?_
  refine sIc_lt (p := 9) rfl rfl ⟨by omega, by omega⟩ ⟨by omega, by omega⟩ (fun c1 => ?_) (fun c1 => ?_)
  · have c1 := c1
    refine sL (pc' := 11) (i := .aload_n 0) rfl rfl ?_
    refine sGc (p := 14) rfl rfl (sk_7 _) rfl rfl rfl ?_
    refine sL (pc' := 15) (i := .aload_n 0) rfl rfl ?_
    refine sGi (p := 18) rfl rfl (sk_7 _) rfl rfl rfl hfn ?_
    refine sL (pc' := 19) (i := .iload_n 1) rfl rfl ?_
    refine sWi (p := 20) (i := fn) rfl rfl (sk_50 _) (by omega) ⟨by omega, by omega⟩ ?_
    refine sL (pc' := 21) (i := .aload_n 0) rfl rfl ?_
    refine sL (pc' := 22) (i := .dup) rfl rfl ?_
    refine sGi (p := 25) rfl rfl (sk_7 _) rfl rfl rfl hfn ?_
    refine sKi (p := 26) rfl rfl ?_
    refine sAd (p := 27) rfl rfl ?_
    refine sPi (z := (((fn : Nat) : Int) + 1)) (p := 30) rfl rfl (sk_7 _) rfl rfl rfl rfl ?_
    refine sL (pc' := 31) (i := .aload_n 0) rfl rfl ?_
    refine sKi (p := 32) rfl rfl ?_
    refine sL (pc' := 33) (i := .aload_n 0) rfl rfl ?_
    refine sGi (p := 36) rfl rfl (sk_7 _) rfl rfl rfl hdr ?_
    refine sKi (p := 37) rfl rfl ?_
    refine sSb (p := 38) rfl rfl ?_
    refine sCs (p := 41) (as := [_, _]) rfl rfl rfl rfl (by decide) (Nat.le_of_ble_eq_true rfl) rfl (Nat.le_of_ble_eq_true rfl) rfl (by omega) (c_max (x := 0) (y := ((dr : Nat) : Int) - 1) ⟨by omega, by omega⟩ ⟨by omega, by omega⟩) ?_
    rw [show (if (0 : Int) < ((dr : Nat) : Int) - 1 then ((dr : Nat) : Int) - 1 else 0) = ((dr - 1 : Nat) : Int) from by split <;> omega]
    refine sPi (z := ((dr - 1 : Nat) : Int)) (p := 44) rfl rfl (sk_7 _) rfl rfl rfl rfl ?_
    refine sEn (i := .return_) rfl (rfl) ?_
    exact ⟨rfl, rfl⟩
  · exfalso; omega
theorem c_findName {dr : Nat} {nm : Nat → Int64} {x : Int64} (hfn : SI S 7 5 = (fn : Nat)) (hdr : SI S 7 6 = (dr : Nat)) (h40 : fn + dr ≤ 40) (hnm : ∀ i, i < fn + dr → SL S 49 i = nm i) : sM X 0 64 [.ref 7, .long x] S (sV (some (.int (iI (fnd nm x (fn + dr) 0)))) S) := by
  refine sIni (ls := [some (.ref 7), some (.long x), none, none]) rfl ?_
  refine sKi (p := 1) rfl rfl ?_
  refine sL (pc' := 2) (i := .istore_n 3) (ls' := [some (.ref 7), some (.long x), none, some (.int (iI 0))]) rfl rfl ?_
  refine sIt (A := fun i => [some (.ref 7), some (.long x), none, some (.int (iI ((i : Nat) : Int)))]) (B := fun _ => S) (fun i => fnd nm x (fn + dr) 0 = fnd nm x (fn + dr - i) i) (fn + dr) (by rw [Nat.sub_zero]) (fun i hi2 hI2 ih2 => ?_) (fun hI2 => ?_)
  · have hi2 := hi2
    refine sL (pc' := 3) (i := .iload_n 3) rfl rfl ?_
    refine sL (pc' := 4) (i := .aload_n 0) rfl rfl ?_
    refine sGi (p := 7) rfl rfl (sk_7 _) rfl rfl rfl hfn ?_
    refine sL (pc' := 8) (i := .aload_n 0) rfl rfl ?_
    refine sGi (p := 11) rfl rfl (sk_7 _) rfl rfl rfl hdr ?_
    refine sAd (p := 12) rfl rfl ?_
    refine sIc_ge (p := 15) rfl rfl ⟨by omega, by omega⟩ ⟨by omega, by omega⟩ (fun c1 => ?_) (fun c1 => ?_)
    · exfalso; omega
    · have c1 := c1
      refine sL (pc' := 16) (i := .iload_n 3) rfl rfl ?_
      refine sKb (p := 18) rfl rfl ?_
      refine sIc_ge (p := 21) rfl rfl ⟨by omega, by omega⟩ ⟨by omega, by omega⟩ (fun c2 => ?_) (fun c2 => ?_)
      · exfalso; omega
      · have c2 := c2
        refine sL (pc' := 22) (i := .aload_n 0) rfl rfl ?_
        refine sGc (p := 25) rfl rfl (sk_7 _) rfl rfl rfl ?_
        refine sL (pc' := 26) (i := .iload_n 3) rfl rfl ?_
        refine sAl (p := 27) (i := i) rfl rfl (sk_49 _) (by omega) ⟨by omega, by omega⟩ (hnm _ (by omega)) ?_
        refine sL (pc' := 28) (i := .lload_n 1) rfl rfl ?_
        refine sLq_ne (p := 32) rfl rfl rfl (fun c3 => ?_) (fun c3 => ?_)
        · have c3 := c3
          refine sInX (z := ((i : Nat) : Int)) (ls' := [some (.ref 7), some (.long x), none, some (.int (iI (((i : Nat) : Int) + 1)))]) (p := 37) rfl rfl (Nat.le_of_ble_eq_true rfl) rfl rfl ?_
          refine sL (i := .goto (-35)) rfl rfl ?_
          refine sRo (ls := [some (.ref 7), some (.long x), none, some (.int (iI ((i + 1 : Nat) : Int)))]) (T := _) (And.intro rfl (And.intro rfl (And.intro rfl (True.intro)))) (rfl) (ih2 ?_)
          rw [hI2, show fn + dr - i = (fn + dr - (i + 1)) + 1 from by omega]
          show (if nm i = x then (i : Int) else _) = _
          rw [if_neg (by assumption)]
        · have c3 := c3
          refine sL (pc' := 33) (i := .iload_n 3) rfl rfl ?_
          refine sEn (i := .ireturn) rfl (rfl) ?_
          exact ⟨by rw [hI2, show fn + dr - i = (fn + dr - (i + 1)) + 1 from by omega]; show _ = some (Value.int (iI (if nm i = x then (i : Int) else _))); rw [if_pos (by assumption)], rfl⟩
  · have hI2 := hI2
    refine sL (pc' := 3) (i := .iload_n 3) rfl rfl ?_
    refine sL (pc' := 4) (i := .aload_n 0) rfl rfl ?_
    refine sGi (p := 7) rfl rfl (sk_7 _) rfl rfl rfl hfn ?_
    refine sL (pc' := 8) (i := .aload_n 0) rfl rfl ?_
    refine sGi (p := 11) rfl rfl (sk_7 _) rfl rfl rfl hdr ?_
    refine sAd (p := 12) rfl rfl ?_
    refine sIc_ge (p := 15) rfl rfl ⟨by omega, by omega⟩ ⟨by omega, by omega⟩ (fun c4 => ?_) (fun c4 => ?_)
    · have c4 := c4
      refine sKi (p := 41) rfl rfl ?_
      refine sEn (i := .ireturn) rfl (rfl) ?_
      exact ⟨by rw [hI2, Nat.sub_self]; rfl, rfl⟩
    · exfalso; omega
theorem rp_t {T0 i : Nat} (hT0 : 0 < T0) (c2 : (decide (i < T0 + i) && f (i % T0)) = true) : wRw (wRw S a 0 (fun r => decide (r < T0 + i) && f (r % T0))) a 0 (fun s => (decide (s < T0 + i) && f (s % T0)) || decide (s = T0 + i)) = wRw S a 0 (fun r => decide (r < T0 + (i + 1)) && f (r % T0)) := by
  have em : (T0 + i) % T0 = i % T0 := Nat.add_mod_left _ _
  rw [wRw_wRw]
  refine wRw_eq (fun r _ => ?_)
  by_cases c : r = T0 + i
  · subst c
    rw [em, decide_eq_true (show T0 + i < T0 + (i + 1) by omega), decide_eq_true (show T0 + i = T0 + i from rfl), (Bool.and_eq_true_iff.mp c2).2, Bool.or_true]
    rfl
  · rw [decide_eq_false c, Bool.or_false, show decide (r < T0 + i) = decide (r < T0 + (i + 1)) from decide_eq_decide.mpr ⟨fun _ => by omega, fun _ => by omega⟩]
theorem rp_f {T0 i : Nat} (hT0 : 0 < T0) (c2 : (decide (i < T0 + i) && f (i % T0)) = false) : wRw S a 0 (fun r => decide (r < T0 + i) && f (r % T0)) = wRw S a 0 (fun r => decide (r < T0 + (i + 1)) && f (r % T0)) := by
  have em : (T0 + i) % T0 = i % T0 := Nat.add_mod_left _ _
  refine wRw_eq (fun r _ => ?_)
  by_cases c : r = T0 + i
  · subst c
    rw [decide_eq_true (show i < T0 + i by omega), Bool.true_and] at c2
    rw [em, c2, Bool.and_false, Bool.and_false]
  · rw [show decide (r < T0 + i) = decide (r < T0 + (i + 1)) from decide_eq_decide.mpr ⟨fun _ => by omega, fun _ => by omega⟩]
theorem c_repeat {T0 T1 : Nat} (hT : SI S 1 7 = (T1 : Nat)) (hT0 : 0 < T0) (h01 : T0 ≤ T1) (h1 : T1 ≤ 1024) (hk : kd S a = some (.inl (2, 16))) (hf : rowS S a 0 f) (hz : ∀ r, T0 ≤ r → f r = false) : sM X 1 66 [.ref 7, .ref a, .int (iI (T0 : Nat))] S (sV none (wRw S a 0 (fun r => decide (r < T1) && f (r % T0)))) := by
  have e0 : ∀ r, r < 1024 → f r = (decide (r < T0 + 0) && f (r % T0)) := fun r _ => by
    by_cases c : r < T0
    · rw [Nat.mod_eq_of_lt c, decide_eq_true (by omega)]
      rfl
    · rw [hz r (by omega), decide_eq_false (by omega)]
      rfl
  have es : ∀ i r, r ≠ T0 + i → (decide (r < T0 + i) && f (r % T0)) = (decide (r < T0 + (i + 1)) && f (r % T0)) := fun i r c => by
    rw [show decide (r < T0 + i) = decide (r < T0 + (i + 1)) from decide_eq_decide.mpr ⟨fun _ => by omega, fun _ => by omega⟩]
  refine sIni (ls := [some (.ref 7), some (.ref a), some (.int (iI ((T0 : Nat) : Int))), none]) rfl ?_
  refine sL (pc' := 1) (i := .iload_n 2) rfl rfl ?_
  refine sL (pc' := 2) (i := .istore_n 3) (ls' := [some (.ref 7), some (.ref a), some (.int (iI ((T0 : Nat) : Int))), some (.int (iI ((T0 : Nat) : Int)))]) rfl rfl ?_
  refine sFg (ls := [some (.ref 7), some (.ref a), some (.int (iI ((T0 : Nat) : Int))), some (.int (iI (((T0 : Nat) : Int) + ((0 : Nat) : Int))))]) (xx_ll_le (And.intro rfl (And.intro rfl (And.intro rfl (And.intro (congrArg (fun z => some (Value.int (iI z))) (by omega)) True.intro))))) ?_
  refine sSh (T := wRw S a 0 (fun r => decide (r < T0 + 0) && f (r % T0))) (congrArg sH ((wRw_same hf).symm.trans (wRw_eq e0))) ?_
  refine sIt (A := fun i => [some (.ref 7), some (.ref a), some (.int (iI ((T0 : Nat) : Int))), some (.int (iI (((T0 : Nat) : Int) + ((i : Nat) : Int))))]) (B := fun i => wRw S a 0 (fun r => decide (r < T0 + i) && f (r % T0))) (fun _ => True) (T1 - T0) True.intro (fun i hi2 hI2 ih2 => ?_) (fun hI2 => ?_)
  · have hi2 := hi2
    have em : (T0 + i) % T0 = i % T0 := Nat.add_mod_left _ _
    refine sL (pc' := 3) (i := .iload_n 3) rfl rfl ?_
    refine sL (pc' := 4) (i := .aload_n 0) rfl rfl ?_
    refine sGc (p := 7) rfl rfl (sk_7 _) rfl rfl rfl ?_
    refine sGi (p := 10) rfl rfl (sk_1 _) rfl rfl rfl hT ?_
    refine sIc_ge (p := 13) rfl rfl ⟨by omega, by omega⟩ ⟨by omega, by omega⟩ (fun c1 => ?_) (fun c1 => ?_)
    · exfalso; omega
    · have c1 := c1
      refine sL (pc' := 14) (i := .aload_n 1) rfl rfl ?_
      refine sL (pc' := 15) (i := .iload_n 3) rfl rfl ?_
      refine sL (pc' := 16) (i := .iload_n 2) rfl rfl ?_
      refine sSb (p := 17) rfl rfl ?_
      rw [show ((T0 : Nat) : Int) + ((i : Nat) : Int) - ((T0 : Nat) : Int) = ((i : Nat) : Int) from by omega]
      refine sCs (p := 20) (as := [_, _]) rfl rfl rfl rfl (by decide) (Nat.le_of_ble_eq_true rfl) rfl (Nat.le_of_ble_eq_true rfl) rfl (by omega) (c_so (S := wRw S a 0 (fun r => decide (r < T0 + i) && f (r % T0))) (r := i) hk (rowS_wRw _ _ _ _) (by omega)) ?_
      refine sBe (p := 23) rfl rfl (fun c2 => ?_) (fun c2 => ?_)
      · have c2 := c2
        refine sInX (z := (((T0 : Nat) : Int) + ((i : Nat) : Int))) (ls' := [some (.ref 7), some (.ref a), some (.int (iI ((T0 : Nat) : Int))), some (.int (iI ((((T0 : Nat) : Int) + ((i : Nat) : Int)) + (1))))]) (p := 31) rfl rfl (Nat.le_of_ble_eq_true rfl) rfl rfl ?_
        refine sL (i := .goto (-29)) rfl rfl ?_
        refine sRo (ls := [some (.ref 7), some (.ref a), some (.int (iI ((T0 : Nat) : Int))), some (.int (iI (((T0 : Nat) : Int) + ((i + 1 : Nat) : Int))))]) (T := wRw S a 0 (fun r => decide (r < T0 + (i + 1)) && f (r % T0))) (And.intro rfl (And.intro rfl (And.intro rfl (And.intro (congrArg (fun z => some (Value.int (iI z))) (by omega)) (True.intro))))) (congrArg sH (rp_f hT0 c2)) (ih2 ?_)
        exact True.intro
      · have c2 := c2
        refine sL (pc' := 24) (i := .aload_n 1) rfl rfl ?_
        refine sL (pc' := 25) (i := .iload_n 3) rfl rfl ?_
        refine sCs (p := 28) (as := [_, _]) rfl rfl rfl rfl (by decide) (Nat.le_of_ble_eq_true rfl) rfl (Nat.le_of_ble_eq_true rfl) rfl (by omega) (c_mark (S := wRw S a 0 (fun r => decide (r < T0 + i) && f (r % T0))) (r := T0 + i) hk (rowS_wRw _ _ _ _) (by omega)) ?_
        refine sInX (z := (((T0 : Nat) : Int) + ((i : Nat) : Int))) (ls' := [some (.ref 7), some (.ref a), some (.int (iI ((T0 : Nat) : Int))), some (.int (iI ((((T0 : Nat) : Int) + ((i : Nat) : Int)) + (1))))]) (p := 31) rfl rfl (Nat.le_of_ble_eq_true rfl) rfl rfl ?_
        refine sL (i := .goto (-29)) rfl rfl ?_
        refine sRo (ls := [some (.ref 7), some (.ref a), some (.int (iI ((T0 : Nat) : Int))), some (.int (iI (((T0 : Nat) : Int) + ((i + 1 : Nat) : Int))))]) (T := wRw S a 0 (fun r => decide (r < T0 + (i + 1)) && f (r % T0))) (And.intro rfl (And.intro rfl (And.intro rfl (And.intro (congrArg (fun z => some (Value.int (iI z))) (by omega)) (True.intro))))) (congrArg sH (rp_t hT0 c2)) (ih2 ?_)
        exact True.intro
  · have hI2 := hI2
    refine sL (pc' := 3) (i := .iload_n 3) rfl rfl ?_
    refine sL (pc' := 4) (i := .aload_n 0) rfl rfl ?_
    refine sGc (p := 7) rfl rfl (sk_7 _) rfl rfl rfl ?_
    refine sGi (p := 10) rfl rfl (sk_1 _) rfl rfl rfl hT ?_
    refine sIc_ge (p := 13) rfl rfl ⟨by omega, by omega⟩ ⟨by omega, by omega⟩ (fun c3 => ?_) (fun c3 => ?_)
    · have c3 := c3
      refine sEn (i := .return_) rfl (rfl) ?_
      exact ⟨rfl, congrArg sH (wRw_eq (fun r _ => by rw [show T0 + (T1 - T0) = T1 from by omega]))⟩
    · exfalso; omega
end FN
