/-! ===== texts: tokens; the class's tape ===== -/
def isB (c : Nat) : Bool := decide (c = 32 ∨ c = 10)
def isL (c : Nat) : Bool := decide (97 ≤ c ∧ c ≤ 122)
def isD (c : Nat) : Bool := decide (48 ≤ c ∧ c ≤ 57)
def isY (c : Nat) : Bool := decide (c = 35 ∨ c = 38 ∨ c = 124 ∨ c = 94 ∨ c = 33 ∨ c = 40 ∨ c = 41 ∨ c = 61 ∨ c = 58 ∨ c = 59 ∨ c = 46 ∨ c = 44)
/-- where a run of bytes ends -/
def rE (p : Nat → Bool) (y : Nat → Nat) (s a : Nat) : Nat := fbF (fun j => ! (p (y j))) (s - a) a
theorem rE_ok {p : Nat → Bool} {y : Nat → Nat} {s a : Nat} (h : a ≤ s) : (a ≤ rE p y s a ∧ rE p y s a ≤ s) ∧ (∀ j, a ≤ j → j < rE p y s a → p (y j) = true) ∧ (rE p y s a < s → p (y (rE p y s a)) = false) := by
  have h1 := fbF_ok (fun j => ! (p (y j))) (s - a) a
  rw [show a + (s - a) = s from by omega] at h1
  refine ⟨h1.1, fun j h2 h3 => ?_, fun h2 => ?_⟩
  · have h4 := h1.2.1 j h2 h3
    cases h5 : p (y j) with
    | true => rfl
    | false =>
      have h4 : (! (p (y j))) = false := h4
      rw [h5] at h4
      cases h4
  · have h4 : (! (p (y (rE p y s a)))) = true := h1.2.2 h2
    cases h5 : p (y (rE p y s a)) with
    | false => rfl
    | true =>
      rw [h5] at h4
      cases h4
def isW (c : Nat) : Bool := isL c || isD c
def wv (y : Nat → Nat) (a : Nat) : Nat → Int64
  | 0 => lI 0
  | k + 1 => (wv y a k <<< ((iI 8).toInt64 &&& 63)) ||| lI ((y (a + k) : Nat) : Int)
def nv (y : Nat → Nat) (a : Nat) : Nat → Int
  | 0 => 0
  | k + 1 => nv y a k * 10 + ((y (a + k) : Nat) : Int) - 48
def bA (y : Nat → Nat) (s p : Nat) : Int := if p < s then ((y p : Nat) : Int) else -1
def wK (l : Nat) (w : Int64) : Nat := if 6 < l then 265 else if w = lI 1953658213 then 260 else if w = lI 439721161573 then 261 else if w = lI 1936682341 then 262 else if w = lI 6384748 then 263 else 258
/-- the kind of the token that starts at a -/
def tK (y : Nat → Nat) (s a : Nat) : Nat :=
  if ¬ a < s then 264 else if isL (y a) then wK (rE isW y s a - a) (wv y a (rE isW y s a - a))
  else if isD (y a) then (if rE isD y s a - a ≤ 3 ∧ ¬ (rE isD y s a < s ∧ isL (y (rE isD y s a)) = true) then 259 else 265)
  else if y a = 61 ∧ bA y s (a + 1) = 62 then 256 else if y a = 60 ∧ bA y s (a + 1) = 61 ∧ bA y s (a + 2) = 62 then 257 else if isY (y a) then y a else 265
/-- where it ends -/
def tE (y : Nat → Nat) (s a : Nat) : Nat :=
  if ¬ a < s then a else if isL (y a) then rE isW y s a else if isD (y a) then rE isD y s a
  else if y a = 61 ∧ bA y s (a + 1) = 62 then a + 2 else if y a = 60 ∧ bA y s (a + 1) = 61 ∧ bA y s (a + 2) = 62 then a + 3 else a + 1
/-- what it holds -/
def tC (y : Nat → Nat) (s a : Nat) : Int64 := if isL (y a) then wv y a (rE isW y s a - a) else (iI (nv y a (rE isD y s a - a))).toInt64
theorem wI_wI {S : ST} {a i : Nat} {x z : Int} : wI (wI S a i x) a i z = wI S a i z := st_ext rfl (funext fun b => funext fun k => by
  rw [SI_wI, SI_wI, SI_wI]
  split <;> rfl) rfl rfl
def tp (S : ST) (y : Nat → Nat) (s : Nat) : Prop := s ≤ 400 ∧ (∀ j, y j < 256) ∧ SI S 64 4 = ((s : Nat) : Int) ∧ ∀ j, j < s → SI S 65 j = ((y j : Nat) : Int)
theorem tp_w {S : ST} {y : Nat → Nat} {s c k : Nat} {z : Int} (h : tp S y s) (hc : c ≠ 65 ∧ (c ≠ 64 ∨ k ≠ 4)) : tp (wI S c k z) y s := by
  refine ⟨h.1, h.2.1, ?_, fun j hj => (rI_ne (fun q => hc.1 q.symm) _).trans (h.2.2.2 j hj)⟩
  rw [SI_wI, if_neg (by omega)]
  exact h.2.2.1
section TP
variable {X : List Int32} {S : ST} {y : Nat → Nat} {s a : Nat}
theorem c_isBlank {c : Nat} (hc : c < 256) : sM X 0 116 [.int (iI ((c : Nat) : Int))] S (sV (some (.int (iI (bI (isB c))))) S) := by
  refine sIni (ls := [some (.int (iI ((c : Nat) : Int)))]) rfl ?_
  refine sL (pc' := 1) (i := .iload_n 0) rfl rfl ?_
  refine sKb (p := 3) rfl rfl ?_
  refine sIc_eq (p := 6) rfl rfl ⟨by omega, by omega⟩ ⟨by omega, by omega⟩ (fun c1 => ?_) (fun c1 => ?_)
  · have c1 := c1
    refine sKi (p := 13) rfl rfl ?_
    refine sL (i := .goto 4) rfl rfl ?_
    refine sEn (i := .ireturn) rfl (rfl) ?_
    exact ⟨by rw [show isB c = true from decide_eq_true (by omega)]; rfl, rfl⟩
  · have c1 := c1
    refine sL (pc' := 7) (i := .iload_n 0) rfl rfl ?_
    refine sKb (p := 9) rfl rfl ?_
    refine sIc_ne (p := 12) rfl rfl ⟨by omega, by omega⟩ ⟨by omega, by omega⟩ (fun c2 => ?_) (fun c2 => ?_)
    · have c2 := c2
      refine sKi (p := 17) rfl rfl ?_
      refine sEn (i := .ireturn) rfl (rfl) ?_
      exact ⟨by rw [show isB c = false from decide_eq_false (by omega)]; rfl, rfl⟩
    · have c2 := c2
      refine sKi (p := 13) rfl rfl ?_
      refine sL (i := .goto 4) rfl rfl ?_
      refine sEn (i := .ireturn) rfl (rfl) ?_
      exact ⟨by rw [show isB c = true from decide_eq_true (by omega)]; rfl, rfl⟩
theorem c_isLetter {c : Nat} (hc : c < 256) : sM X 0 117 [.int (iI ((c : Nat) : Int))] S (sV (some (.int (iI (bI (isL c))))) S) := by
  refine sIni (ls := [some (.int (iI ((c : Nat) : Int)))]) rfl ?_
  refine sL (pc' := 1) (i := .iload_n 0) rfl rfl ?_
  refine sKb (p := 3) rfl rfl ?_
  refine sIc_lt (p := 6) rfl rfl ⟨by omega, by omega⟩ ⟨by omega, by omega⟩ (fun c1 => ?_) (fun c1 => ?_)
  · have c1 := c1
    refine sKi (p := 17) rfl rfl ?_
    refine sEn (i := .ireturn) rfl (rfl) ?_
    exact ⟨by rw [show isL c = false from decide_eq_false (by omega)]; rfl, rfl⟩
  · have c1 := c1
    refine sL (pc' := 7) (i := .iload_n 0) rfl rfl ?_
    refine sKb (p := 9) rfl rfl ?_
    refine sIc_gt (p := 12) rfl rfl ⟨by omega, by omega⟩ ⟨by omega, by omega⟩ (fun c2 => ?_) (fun c2 => ?_)
    · have c2 := c2
      refine sKi (p := 17) rfl rfl ?_
      refine sEn (i := .ireturn) rfl (rfl) ?_
      exact ⟨by rw [show isL c = false from decide_eq_false (by omega)]; rfl, rfl⟩
    · have c2 := c2
      refine sKi (p := 13) rfl rfl ?_
      refine sL (i := .goto 4) rfl rfl ?_
      refine sEn (i := .ireturn) rfl (rfl) ?_
      exact ⟨by rw [show isL c = true from decide_eq_true (by omega)]; rfl, rfl⟩
theorem c_isDigit {c : Nat} (hc : c < 256) : sM X 0 118 [.int (iI ((c : Nat) : Int))] S (sV (some (.int (iI (bI (isD c))))) S) := by
  refine sIni (ls := [some (.int (iI ((c : Nat) : Int)))]) rfl ?_
  refine sL (pc' := 1) (i := .iload_n 0) rfl rfl ?_
  refine sKb (p := 3) rfl rfl ?_
  refine sIc_lt (p := 6) rfl rfl ⟨by omega, by omega⟩ ⟨by omega, by omega⟩ (fun c1 => ?_) (fun c1 => ?_)
  · have c1 := c1
    refine sKi (p := 17) rfl rfl ?_
    refine sEn (i := .ireturn) rfl (rfl) ?_
    exact ⟨by rw [show isD c = false from decide_eq_false (by omega)]; rfl, rfl⟩
  · have c1 := c1
    refine sL (pc' := 7) (i := .iload_n 0) rfl rfl ?_
    refine sKb (p := 9) rfl rfl ?_
    refine sIc_gt (p := 12) rfl rfl ⟨by omega, by omega⟩ ⟨by omega, by omega⟩ (fun c2 => ?_) (fun c2 => ?_)
    · have c2 := c2
      refine sKi (p := 17) rfl rfl ?_
      refine sEn (i := .ireturn) rfl (rfl) ?_
      exact ⟨by rw [show isD c = false from decide_eq_false (by omega)]; rfl, rfl⟩
    · have c2 := c2
      refine sKi (p := 13) rfl rfl ?_
      refine sL (i := .goto 4) rfl rfl ?_
      refine sEn (i := .ireturn) rfl (rfl) ?_
      exact ⟨by rw [show isD c = true from decide_eq_true (by omega)]; rfl, rfl⟩
theorem c_isLetter_n : sM X 0 117 [.int (iI (-1))] S (sV (some (.int (iI (bI false)))) S) := by
  refine sIni (ls := [some (.int (iI (-1)))]) rfl ?_
  refine sL (pc' := 1) (i := .iload_n 0) rfl rfl ?_
  refine sKb (p := 3) rfl rfl ?_
  refine sIc_lt (p := 6) rfl rfl ⟨by omega, by omega⟩ ⟨by omega, by omega⟩ (fun c1 => ?_) (fun c1 => ?_)
  · have c1 := c1
    refine sKi (p := 17) rfl rfl ?_
    refine sEn (i := .ireturn) rfl (rfl) ?_
    exact ⟨rfl, rfl⟩
  · exact absurd c1 (by decide)
theorem c_byteAt {p : Nat} (ht : tp S y s) (hp : p < 1000) : sM X 0 115 [.ref 64, .int (iI ((p : Nat) : Int))] S (sV (some (.int (iI (bA y s p)))) S) := by
  have hs := ht.1
  refine sIni (ls := [some (.ref 64), some (.int (iI ((p : Nat) : Int)))]) rfl ?_
  refine sL (pc' := 1) (i := .iload_n 1) rfl rfl ?_
  refine sIf_lt (p := 4) rfl rfl ⟨by omega, by omega⟩ (fun c1 => ?_) (fun c1 => ?_)
  · have c1 := c1
    refine sKi (p := 22) rfl rfl ?_
    refine sEn (i := .ireturn) rfl (rfl) ?_
    exact ⟨congrArg (fun z => some (Value.int (iI z))) (by unfold bA; rw [if_neg (by omega)]), rfl⟩
  · have c1 := c1
    refine sL (pc' := 5) (i := .iload_n 1) rfl rfl ?_
    refine sL (pc' := 6) (i := .aload_n 0) rfl rfl ?_
    refine sGi (p := 9) rfl rfl (sk_64 _) rfl rfl rfl ht.2.2.1 ?_
    refine sIc_ge (p := 12) rfl rfl ⟨by omega, by omega⟩ ⟨by omega, by omega⟩ (fun c2 => ?_) (fun c2 => ?_)
    · have c2 := c2
      refine sKi (p := 22) rfl rfl ?_
      refine sEn (i := .ireturn) rfl (rfl) ?_
      exact ⟨congrArg (fun z => some (Value.int (iI z))) (by unfold bA; rw [if_neg (by omega)]), rfl⟩
    · have c2 := c2
      refine sL (pc' := 13) (i := .aload_n 0) rfl rfl ?_
      refine sGc (p := 16) rfl rfl (sk_64 _) rfl rfl rfl ?_
      refine sL (pc' := 17) (i := .iload_n 1) rfl rfl ?_
      refine sAi (p := 18) (i := p) rfl rfl (sk_65 _) (by omega) ⟨by omega, by omega⟩ (ht.2.2.2 _ (by omega)) ?_
      refine sL (i := .goto 4) rfl rfl ?_
      refine sEn (i := .ireturn) rfl (rfl) ?_
      exact ⟨congrArg (fun z => some (Value.int (iI z))) (by unfold bA; rw [if_pos (by omega)]), rfl⟩
theorem wI_self {c k : Nat} {z : Int} (h : SI S c k = z) : wI S c k z = S := st_ext rfl (funext fun b => funext fun j => by
  rw [SI_wI]
  split
  · rename_i q
    rw [q.1, q.2, h]
  · rfl) rfl rfl
theorem c_isLetter_b {p : Nat} (hy : ∀ j, y j < 256) : sM X 0 117 [.int (iI (bA y s p))] S (sV (some (.int (iI (bI (decide (p < s ∧ isL (y p) = true)))))) S) := by
  unfold bA
  by_cases c : p < s
  · rw [if_pos c, show decide (p < s ∧ isL (y p) = true) = isL (y p) from by
      cases h : isL (y p) with
      | true => exact decide_eq_true ⟨c, rfl⟩
      | false => exact decide_eq_false (fun z => by cases z.2)]
    exact c_isLetter (hy p)
  · rw [if_neg c, decide_eq_false (fun z => c z.1)]
    exact c_isLetter_n
theorem c_scanWord {L i : Nat} (ht : tp S y s) (hp : SI S 64 5 = ((a : Nat) : Int)) (hi : i ≤ 400) (hb : a + L ≤ s) (hin : ∀ j, j < L → isW (y (a + j)) = true) (hout : a + L < s → isW (y (a + L)) = false) : sM X 1 112 [.ref 64, .int (iI ((i : Nat) : Int))] S (sV (some (.int (iI ((wK L (wv y a L) : Nat) : Int)))) (wL (wI S 64 5 ((a + L : Nat) : Int)) 68 i (wv y a L))) := by
  have hs := ht.1
  refine sIni (ls := [some (.ref 64), some (.int (iI ((i : Nat) : Int))), none, none, none]) rfl ?_
  refine sL (pc' := 1) (i := .aload_n 0) rfl rfl ?_
  refine sGi (p := 4) rfl rfl (sk_64 _) rfl rfl rfl hp ?_
  refine sL (pc' := 5) (i := .istore_n 2) (ls' := [some (.ref 64), some (.int (iI ((i : Nat) : Int))), some (.int (iI ((a : Nat) : Int))), none, none]) rfl rfl ?_
  refine sKj0 (p := 6) rfl rfl rfl ?_
  refine sL (pc' := 7) (i := .lstore_n 3) (ls' := [some (.ref 64), some (.int (iI ((i : Nat) : Int))), some (.int (iI ((a : Nat) : Int))), some (.long (lI 0)), none]) rfl rfl ?_
  refine sSh (T := (wI S 64 5 ((a + 0 : Nat) : Int))) (congrArg sH (wI_self hp).symm) ?_
  refine sIt (A := fun j => [some (.ref 64), some (.int (iI ((i : Nat) : Int))), some (.int (iI ((a : Nat) : Int))), some (.long (wv y a j)), none]) (B := fun j => (wI S 64 5 ((a + j : Nat) : Int))) (fun _ => True) L True.intro (fun j hi7 hI7 ih7 => ?_) (fun hI7 => ?_)
  · have hi7 := hi7
    have hw7 := hin j hi7
    have hy7 := ht.2.1 (a + j)
    refine sL (pc' := 8) (i := .aload_n 0) rfl rfl ?_
    refine sGi (p := 11) rfl rfl (sk_64 _) rfl rfl rfl (rI_at (S := S) (a := 64) (i := 5) (z := ((a + j : Nat) : Int))) ?_
    refine sL (pc' := 12) (i := .aload_n 0) rfl rfl ?_
    refine sGi (p := 15) rfl rfl (sk_64 _) rfl rfl rfl (tp_w ht (by decide)).2.2.1 ?_
    refine sIc_ge (p := 18) rfl rfl ⟨by omega, by omega⟩ ⟨by omega, by omega⟩ (fun c1 => ?_) (fun c1 => ?_)
    · exfalso; omega
    · have c1 := c1
      refine sL (pc' := 19) (i := .aload_n 0) rfl rfl ?_
      refine sGc (p := 22) rfl rfl (sk_64 _) rfl rfl rfl ?_
      refine sL (pc' := 23) (i := .aload_n 0) rfl rfl ?_
      refine sGi (p := 26) rfl rfl (sk_64 _) rfl rfl rfl (rI_at (S := S) (a := 64) (i := 5) (z := ((a + j : Nat) : Int))) ?_
      refine sAi (p := 27) (i := a + j) rfl rfl (sk_65 _) (by omega) ⟨by omega, by omega⟩ ((tp_w ht (by decide)).2.2.2 _ (by omega)) ?_
      refine sCs (p := 30) (as := [_]) rfl rfl rfl rfl (by decide) (Nat.le_of_ble_eq_true rfl) rfl (Nat.le_of_ble_eq_true rfl) rfl (by omega) (c_isLetter (ht.2.1 _)) ?_
      refine sBn (p := 33) rfl rfl (fun c2 => ?_) (fun c2 => ?_)
      · have c2 := c2
        refine sL (pc' := 49) (i := .lload_n 3) rfl rfl ?_
        refine sKb (p := 51) rfl rfl ?_
        refine sL (pc' := 52) (i := .lshl) (st' := [.long (wv y a j <<< ((iI 8).toInt64 &&& 63))]) rfl rfl ?_
        refine sL (pc' := 53) (i := .aload_n 0) rfl rfl ?_
        refine sGc (p := 56) rfl rfl (sk_64 _) rfl rfl rfl ?_
        refine sL (pc' := 57) (i := .aload_n 0) rfl rfl ?_
        refine sGi (p := 60) rfl rfl (sk_64 _) rfl rfl rfl (rI_at (S := S) (a := 64) (i := 5) (z := ((a + j : Nat) : Int))) ?_
        refine sAi (p := 61) (i := a + j) rfl rfl (sk_65 _) (by omega) ⟨by omega, by omega⟩ ((tp_w ht (by decide)).2.2.2 _ (by omega)) ?_
        refine sI2l (p := 62) rfl rfl ⟨by omega, by omega⟩ ?_
        refine sL (pc' := 63) (i := .lor) rfl rfl ?_
        refine sL (pc' := 64) (i := .lstore_n 3) (ls' := [some (.ref 64), some (.int (iI ((i : Nat) : Int))), some (.int (iI ((a : Nat) : Int))), some (.long ((wv y a j <<< ((iI 8).toInt64 &&& 63)) ||| (lI ((y (a + j) : Nat) : Int)))), none]) rfl rfl ?_
        refine sL (pc' := 65) (i := .aload_n 0) rfl rfl ?_
        refine sL (pc' := 66) (i := .dup) rfl rfl ?_
        refine sGi (p := 69) rfl rfl (sk_64 _) rfl rfl rfl (rI_at (S := S) (a := 64) (i := 5) (z := ((a + j : Nat) : Int))) ?_
        refine sKi (p := 70) rfl rfl ?_
        refine sAd (p := 71) rfl rfl ?_
        refine sPi (z := (((a + j : Nat) : Int) + 1)) (p := 74) rfl rfl (sk_64 _) rfl rfl rfl rfl ?_
        refine sL (i := .goto (-67)) rfl rfl ?_
        refine sRo (ls := [some (.ref 64), some (.int (iI ((i : Nat) : Int))), some (.int (iI ((a : Nat) : Int))), some (.long (wv y a (j + 1))), none]) (T := (wI S 64 5 ((a + (j + 1) : Nat) : Int))) (And.intro rfl (And.intro rfl (And.intro rfl (And.intro rfl (True.intro))))) (congrArg sH (wI_wI.trans (congrArg (wI S 64 5) (by omega)))) (ih7 ?_)
        exact True.intro
      · have c2 := c2
        refine sL (pc' := 34) (i := .aload_n 0) rfl rfl ?_
        refine sGc (p := 37) rfl rfl (sk_64 _) rfl rfl rfl ?_
        refine sL (pc' := 38) (i := .aload_n 0) rfl rfl ?_
        refine sGi (p := 41) rfl rfl (sk_64 _) rfl rfl rfl (rI_at (S := S) (a := 64) (i := 5) (z := ((a + j : Nat) : Int))) ?_
        refine sAi (p := 42) (i := a + j) rfl rfl (sk_65 _) (by omega) ⟨by omega, by omega⟩ ((tp_w ht (by decide)).2.2.2 _ (by omega)) ?_
        refine sCs (p := 45) (as := [_]) rfl rfl rfl rfl (by decide) (Nat.le_of_ble_eq_true rfl) rfl (Nat.le_of_ble_eq_true rfl) rfl (by omega) (c_isDigit (ht.2.1 _)) ?_
        refine sBe (p := 48) rfl rfl (fun c3 => ?_) (fun c3 => ?_)
        · exfalso; exact absurd hw7 (by unfold isW; rw [show isL (y (a + j)) = false by assumption, show isD (y (a + j)) = false by assumption]; decide)
        · have c3 := c3
          refine sL (pc' := 49) (i := .lload_n 3) rfl rfl ?_
          refine sKb (p := 51) rfl rfl ?_
          refine sL (pc' := 52) (i := .lshl) (st' := [.long (wv y a j <<< ((iI 8).toInt64 &&& 63))]) rfl rfl ?_
          refine sL (pc' := 53) (i := .aload_n 0) rfl rfl ?_
          refine sGc (p := 56) rfl rfl (sk_64 _) rfl rfl rfl ?_
          refine sL (pc' := 57) (i := .aload_n 0) rfl rfl ?_
          refine sGi (p := 60) rfl rfl (sk_64 _) rfl rfl rfl (rI_at (S := S) (a := 64) (i := 5) (z := ((a + j : Nat) : Int))) ?_
          refine sAi (p := 61) (i := a + j) rfl rfl (sk_65 _) (by omega) ⟨by omega, by omega⟩ ((tp_w ht (by decide)).2.2.2 _ (by omega)) ?_
          refine sI2l (p := 62) rfl rfl ⟨by omega, by omega⟩ ?_
          refine sL (pc' := 63) (i := .lor) rfl rfl ?_
          refine sL (pc' := 64) (i := .lstore_n 3) (ls' := [some (.ref 64), some (.int (iI ((i : Nat) : Int))), some (.int (iI ((a : Nat) : Int))), some (.long ((wv y a j <<< ((iI 8).toInt64 &&& 63)) ||| (lI ((y (a + j) : Nat) : Int)))), none]) rfl rfl ?_
          refine sL (pc' := 65) (i := .aload_n 0) rfl rfl ?_
          refine sL (pc' := 66) (i := .dup) rfl rfl ?_
          refine sGi (p := 69) rfl rfl (sk_64 _) rfl rfl rfl (rI_at (S := S) (a := 64) (i := 5) (z := ((a + j : Nat) : Int))) ?_
          refine sKi (p := 70) rfl rfl ?_
          refine sAd (p := 71) rfl rfl ?_
          refine sPi (z := (((a + j : Nat) : Int) + 1)) (p := 74) rfl rfl (sk_64 _) rfl rfl rfl rfl ?_
          refine sL (i := .goto (-67)) rfl rfl ?_
          refine sRo (ls := [some (.ref 64), some (.int (iI ((i : Nat) : Int))), some (.int (iI ((a : Nat) : Int))), some (.long (wv y a (j + 1))), none]) (T := (wI S 64 5 ((a + (j + 1) : Nat) : Int))) (And.intro rfl (And.intro rfl (And.intro rfl (And.intro rfl (True.intro))))) (congrArg sH (wI_wI.trans (congrArg (wI S 64 5) (by omega)))) (ih7 ?_)
          exact True.intro
  · have hI7 := hI7
    have hf7 := hout
    refine sL (pc' := 8) (i := .aload_n 0) rfl rfl ?_
    refine sGi (p := 11) rfl rfl (sk_64 _) rfl rfl rfl (rI_at (S := S) (a := 64) (i := 5) (z := ((a + L : Nat) : Int))) ?_
    refine sL (pc' := 12) (i := .aload_n 0) rfl rfl ?_
    refine sGi (p := 15) rfl rfl (sk_64 _) rfl rfl rfl (tp_w ht (by decide)).2.2.1 ?_
    refine sIc_ge (p := 18) rfl rfl ⟨by omega, by omega⟩ ⟨by omega, by omega⟩ (fun c4 => ?_) (fun c4 => ?_)
    · have c4 := c4
      refine sL (pc' := 78) (i := .aload_n 0) rfl rfl ?_
      refine sGc (p := 81) rfl rfl (sk_64 _) rfl rfl rfl ?_
      refine sL (pc' := 82) (i := .iload_n 1) rfl rfl ?_
      refine sL (pc' := 83) (i := .lload_n 3) rfl rfl ?_
      refine sWl (p := 84) (i := i) rfl rfl (sk_68 _) (by omega) ⟨by omega, by omega⟩ ?_
      refine sL (pc' := 85) (i := .aload_n 0) rfl rfl ?_
      refine sGi (p := 88) rfl rfl (sk_64 _) rfl rfl rfl (rI_at (S := S) (a := 64) (i := 5) (z := ((a + L : Nat) : Int))) ?_
      refine sL (pc' := 89) (i := .iload_n 2) rfl rfl ?_
      refine sSb (p := 90) rfl rfl ?_
      refine sKb (p := 92) rfl rfl ?_
      refine sIc_le (p := 95) rfl rfl ⟨by omega, by omega⟩ ⟨by omega, by omega⟩ (fun c5 => ?_) (fun c5 => ?_)
      · have c5 := c5
        refine sL (pc' := 100) (i := .lload_n 3) rfl rfl ?_
        refine sK2 (z := 1953658213) (p := 103) rfl rfl rfl ?_
        refine sLq_ne (p := 107) rfl rfl rfl (fun c6 => ?_) (fun c6 => ?_)
        · have c6 := c6
          refine sL (pc' := 112) (i := .lload_n 3) rfl rfl ?_
          refine sK2 (z := 439721161573) (p := 115) rfl rfl rfl ?_
          refine sLq_ne (p := 119) rfl rfl rfl (fun c7 => ?_) (fun c7 => ?_)
          · have c7 := c7
            refine sL (pc' := 124) (i := .lload_n 3) rfl rfl ?_
            refine sK2 (z := 1936682341) (p := 127) rfl rfl rfl ?_
            refine sLq_ne (p := 131) rfl rfl rfl (fun c8 => ?_) (fun c8 => ?_)
            · have c8 := c8
              refine sL (pc' := 136) (i := .lload_n 3) rfl rfl ?_
              refine sK2 (z := 6384748) (p := 139) rfl rfl rfl ?_
              refine sLq_ne (p := 143) rfl rfl rfl (fun c9 => ?_) (fun c9 => ?_)
              · have c9 := c9
                refine sKs (p := 152) rfl rfl ?_
                refine sEn (i := .ireturn) rfl (rfl) ?_
                exact ⟨congrArg (fun z : Nat => some (Value.int (iI ((z : Nat) : Int)))) (show 258 = wK L (wv y a L) from by unfold wK; rw [if_neg (by omega), if_neg (by assumption), if_neg (by assumption), if_neg (by assumption), if_neg (by assumption)]), rfl⟩
              · have c9 := c9
                refine sKs (p := 146) rfl rfl ?_
                refine sL (i := .goto 6) rfl rfl ?_
                refine sEn (i := .ireturn) rfl (rfl) ?_
                exact ⟨congrArg (fun z : Nat => some (Value.int (iI ((z : Nat) : Int)))) (show 263 = wK L (wv y a L) from by unfold wK; rw [if_neg (by omega), if_neg (by assumption), if_neg (by assumption), if_neg (by assumption), if_pos (by assumption)]), rfl⟩
            · have c8 := c8
              refine sKs (p := 134) rfl rfl ?_
              refine sEn (i := .ireturn) rfl (rfl) ?_
              exact ⟨congrArg (fun z : Nat => some (Value.int (iI ((z : Nat) : Int)))) (show 262 = wK L (wv y a L) from by unfold wK; rw [if_neg (by omega), if_neg (by assumption), if_neg (by assumption), if_pos (by assumption)]), rfl⟩
          · have c7 := c7
            refine sKs (p := 122) rfl rfl ?_
            refine sEn (i := .ireturn) rfl (rfl) ?_
            exact ⟨congrArg (fun z : Nat => some (Value.int (iI ((z : Nat) : Int)))) (show 261 = wK L (wv y a L) from by unfold wK; rw [if_neg (by omega), if_neg (by assumption), if_pos (by assumption)]), rfl⟩
        · have c6 := c6
          refine sKs (p := 110) rfl rfl ?_
          refine sEn (i := .ireturn) rfl (rfl) ?_
          exact ⟨congrArg (fun z : Nat => some (Value.int (iI ((z : Nat) : Int)))) (show 260 = wK L (wv y a L) from by unfold wK; rw [if_neg (by omega), if_pos (by assumption)]), rfl⟩
      · have c5 := c5
        refine sKs (p := 98) rfl rfl ?_
        refine sEn (i := .ireturn) rfl (rfl) ?_
        exact ⟨congrArg (fun z : Nat => some (Value.int (iI ((z : Nat) : Int)))) (show 265 = wK L (wv y a L) from by unfold wK; rw [if_pos (by omega)]), rfl⟩
    · have c4 := c4
      refine sL (pc' := 19) (i := .aload_n 0) rfl rfl ?_
      refine sGc (p := 22) rfl rfl (sk_64 _) rfl rfl rfl ?_
      refine sL (pc' := 23) (i := .aload_n 0) rfl rfl ?_
      refine sGi (p := 26) rfl rfl (sk_64 _) rfl rfl rfl (rI_at (S := S) (a := 64) (i := 5) (z := ((a + L : Nat) : Int))) ?_
      refine sAi (p := 27) (i := a + L) rfl rfl (sk_65 _) (by omega) ⟨by omega, by omega⟩ ((tp_w ht (by decide)).2.2.2 _ (by omega)) ?_
      refine sCs (p := 30) (as := [_]) rfl rfl rfl rfl (by decide) (Nat.le_of_ble_eq_true rfl) rfl (Nat.le_of_ble_eq_true rfl) rfl (by omega) (c_isLetter (ht.2.1 _)) ?_
      refine sBn (p := 33) rfl rfl (fun c10 => ?_) (fun c10 => ?_)
      · exfalso; exact absurd (hf7 (by omega)) (by unfold isW; rw [show isL (y (a + L)) = true by assumption, Bool.true_or]; decide)
      · have c10 := c10
        refine sL (pc' := 34) (i := .aload_n 0) rfl rfl ?_
        refine sGc (p := 37) rfl rfl (sk_64 _) rfl rfl rfl ?_
        refine sL (pc' := 38) (i := .aload_n 0) rfl rfl ?_
        refine sGi (p := 41) rfl rfl (sk_64 _) rfl rfl rfl (rI_at (S := S) (a := 64) (i := 5) (z := ((a + L : Nat) : Int))) ?_
        refine sAi (p := 42) (i := a + L) rfl rfl (sk_65 _) (by omega) ⟨by omega, by omega⟩ ((tp_w ht (by decide)).2.2.2 _ (by omega)) ?_
        refine sCs (p := 45) (as := [_]) rfl rfl rfl rfl (by decide) (Nat.le_of_ble_eq_true rfl) rfl (Nat.le_of_ble_eq_true rfl) rfl (by omega) (c_isDigit (ht.2.1 _)) ?_
        refine sBe (p := 48) rfl rfl (fun c11 => ?_) (fun c11 => ?_)
        · have c11 := c11
          refine sL (pc' := 78) (i := .aload_n 0) rfl rfl ?_
          refine sGc (p := 81) rfl rfl (sk_64 _) rfl rfl rfl ?_
          refine sL (pc' := 82) (i := .iload_n 1) rfl rfl ?_
          refine sL (pc' := 83) (i := .lload_n 3) rfl rfl ?_
          refine sWl (p := 84) (i := i) rfl rfl (sk_68 _) (by omega) ⟨by omega, by omega⟩ ?_
          refine sL (pc' := 85) (i := .aload_n 0) rfl rfl ?_
          refine sGi (p := 88) rfl rfl (sk_64 _) rfl rfl rfl (rI_at (S := S) (a := 64) (i := 5) (z := ((a + L : Nat) : Int))) ?_
          refine sL (pc' := 89) (i := .iload_n 2) rfl rfl ?_
          refine sSb (p := 90) rfl rfl ?_
          refine sKb (p := 92) rfl rfl ?_
          refine sIc_le (p := 95) rfl rfl ⟨by omega, by omega⟩ ⟨by omega, by omega⟩ (fun c12 => ?_) (fun c12 => ?_)
          · have c12 := c12
            refine sL (pc' := 100) (i := .lload_n 3) rfl rfl ?_
            refine sK2 (z := 1953658213) (p := 103) rfl rfl rfl ?_
            refine sLq_ne (p := 107) rfl rfl rfl (fun c13 => ?_) (fun c13 => ?_)
            · have c13 := c13
              refine sL (pc' := 112) (i := .lload_n 3) rfl rfl ?_
              refine sK2 (z := 439721161573) (p := 115) rfl rfl rfl ?_
              refine sLq_ne (p := 119) rfl rfl rfl (fun c14 => ?_) (fun c14 => ?_)
              · have c14 := c14
                refine sL (pc' := 124) (i := .lload_n 3) rfl rfl ?_
                refine sK2 (z := 1936682341) (p := 127) rfl rfl rfl ?_
                refine sLq_ne (p := 131) rfl rfl rfl (fun c15 => ?_) (fun c15 => ?_)
                · have c15 := c15
                  refine sL (pc' := 136) (i := .lload_n 3) rfl rfl ?_
                  refine sK2 (z := 6384748) (p := 139) rfl rfl rfl ?_
                  refine sLq_ne (p := 143) rfl rfl rfl (fun c16 => ?_) (fun c16 => ?_)
                  · have c16 := c16
                    refine sKs (p := 152) rfl rfl ?_
                    refine sEn (i := .ireturn) rfl (rfl) ?_
                    exact ⟨congrArg (fun z : Nat => some (Value.int (iI ((z : Nat) : Int)))) (show 258 = wK L (wv y a L) from by unfold wK; rw [if_neg (by omega), if_neg (by assumption), if_neg (by assumption), if_neg (by assumption), if_neg (by assumption)]), rfl⟩
                  · have c16 := c16
                    refine sKs (p := 146) rfl rfl ?_
                    refine sL (i := .goto 6) rfl rfl ?_
                    refine sEn (i := .ireturn) rfl (rfl) ?_
                    exact ⟨congrArg (fun z : Nat => some (Value.int (iI ((z : Nat) : Int)))) (show 263 = wK L (wv y a L) from by unfold wK; rw [if_neg (by omega), if_neg (by assumption), if_neg (by assumption), if_neg (by assumption), if_pos (by assumption)]), rfl⟩
                · have c15 := c15
                  refine sKs (p := 134) rfl rfl ?_
                  refine sEn (i := .ireturn) rfl (rfl) ?_
                  exact ⟨congrArg (fun z : Nat => some (Value.int (iI ((z : Nat) : Int)))) (show 262 = wK L (wv y a L) from by unfold wK; rw [if_neg (by omega), if_neg (by assumption), if_neg (by assumption), if_pos (by assumption)]), rfl⟩
              · have c14 := c14
                refine sKs (p := 122) rfl rfl ?_
                refine sEn (i := .ireturn) rfl (rfl) ?_
                exact ⟨congrArg (fun z : Nat => some (Value.int (iI ((z : Nat) : Int)))) (show 261 = wK L (wv y a L) from by unfold wK; rw [if_neg (by omega), if_neg (by assumption), if_pos (by assumption)]), rfl⟩
            · have c13 := c13
              refine sKs (p := 110) rfl rfl ?_
              refine sEn (i := .ireturn) rfl (rfl) ?_
              exact ⟨congrArg (fun z : Nat => some (Value.int (iI ((z : Nat) : Int)))) (show 260 = wK L (wv y a L) from by unfold wK; rw [if_neg (by omega), if_pos (by assumption)]), rfl⟩
          · have c12 := c12
            refine sKs (p := 98) rfl rfl ?_
            refine sEn (i := .ireturn) rfl (rfl) ?_
            exact ⟨congrArg (fun z : Nat => some (Value.int (iI ((z : Nat) : Int)))) (show 265 = wK L (wv y a L) from by unfold wK; rw [if_pos (by omega)]), rfl⟩
        · exfalso; exact absurd (hf7 (by omega)) (by unfold isW; rw [show isD (y (a + L)) = true by assumption, Bool.or_true]; decide)
theorem c_scanNumber {L i : Nat} (ht : tp S y s) (hp : SI S 64 5 = ((a : Nat) : Int)) (hi : i ≤ 400) (hb : a + L ≤ s) (hin : ∀ j, j < L → isD (y (a + j)) = true) (hout : a + L < s → isD (y (a + L)) = false) : sM X 1 113 [.ref 64, .int (iI ((i : Nat) : Int))] S (sV (some (.int (iI (((if L ≤ 3 ∧ ¬ (a + L < s ∧ isL (y (a + L)) = true) then 259 else 265 : Nat) : Nat) : Int)))) (wL (wI S 64 5 ((a + L : Nat) : Int)) 68 i (iI (nv y a L)).toInt64)) := by
  have hs := ht.1
  refine sIni (ls := [some (.ref 64), some (.int (iI ((i : Nat) : Int))), none, none]) rfl ?_
  refine sL (pc' := 1) (i := .aload_n 0) rfl rfl ?_
  refine sGi (p := 4) rfl rfl (sk_64 _) rfl rfl rfl hp ?_
  refine sL (pc' := 5) (i := .istore_n 2) (ls' := [some (.ref 64), some (.int (iI ((i : Nat) : Int))), some (.int (iI ((a : Nat) : Int))), none]) rfl rfl ?_
  refine sKi (p := 6) rfl rfl ?_
  refine sL (pc' := 7) (i := .istore_n 3) (ls' := [some (.ref 64), some (.int (iI ((i : Nat) : Int))), some (.int (iI ((a : Nat) : Int))), some (.int (iI 0))]) rfl rfl ?_
  refine sSh (T := (wI S 64 5 ((a + 0 : Nat) : Int))) (congrArg sH (wI_self hp).symm) ?_
  refine sIt (A := fun j => [some (.ref 64), some (.int (iI ((i : Nat) : Int))), some (.int (iI ((a : Nat) : Int))), some (.int (iI (nv y a j)))]) (B := fun j => (wI S 64 5 ((a + j : Nat) : Int))) (fun _ => True) L True.intro (fun j hi7 hI7 ih7 => ?_) (fun hI7 => ?_)
  · have hi7 := hi7
    have hw7 := hin j hi7
    refine sL (pc' := 8) (i := .aload_n 0) rfl rfl ?_
    refine sGi (p := 11) rfl rfl (sk_64 _) rfl rfl rfl (rI_at (S := S) (a := 64) (i := 5) (z := ((a + j : Nat) : Int))) ?_
    refine sL (pc' := 12) (i := .aload_n 0) rfl rfl ?_
    refine sGi (p := 15) rfl rfl (sk_64 _) rfl rfl rfl (tp_w ht (by decide)).2.2.1 ?_
    refine sIc_ge (p := 18) rfl rfl ⟨by omega, by omega⟩ ⟨by omega, by omega⟩ (fun c1 => ?_) (fun c1 => ?_)
    · exfalso; omega
    · have c1 := c1
      refine sL (pc' := 19) (i := .aload_n 0) rfl rfl ?_
      refine sGc (p := 22) rfl rfl (sk_64 _) rfl rfl rfl ?_
      refine sL (pc' := 23) (i := .aload_n 0) rfl rfl ?_
      refine sGi (p := 26) rfl rfl (sk_64 _) rfl rfl rfl (rI_at (S := S) (a := 64) (i := 5) (z := ((a + j : Nat) : Int))) ?_
      refine sAi (p := 27) (i := a + j) rfl rfl (sk_65 _) (by omega) ⟨by omega, by omega⟩ ((tp_w ht (by decide)).2.2.2 _ (by omega)) ?_
      refine sCs (p := 30) (as := [_]) rfl rfl rfl rfl (by decide) (Nat.le_of_ble_eq_true rfl) rfl (Nat.le_of_ble_eq_true rfl) rfl (by omega) (c_isDigit (ht.2.1 _)) ?_
      refine sBe (p := 33) rfl rfl (fun c2 => ?_) (fun c2 => ?_)
      · exfalso; exact absurd hw7 (by rw [show isD (y (a + j)) = false by assumption]; decide)
      · have c2 := c2
        refine sL (pc' := 34) (i := .iload_n 3) rfl rfl ?_
        refine sKb (p := 36) rfl rfl ?_
        refine sMu (p := 37) rfl rfl ?_
        refine sL (pc' := 38) (i := .aload_n 0) rfl rfl ?_
        refine sGc (p := 41) rfl rfl (sk_64 _) rfl rfl rfl ?_
        refine sL (pc' := 42) (i := .aload_n 0) rfl rfl ?_
        refine sGi (p := 45) rfl rfl (sk_64 _) rfl rfl rfl (rI_at (S := S) (a := 64) (i := 5) (z := ((a + j : Nat) : Int))) ?_
        refine sAi (p := 46) (i := a + j) rfl rfl (sk_65 _) (by omega) ⟨by omega, by omega⟩ ((tp_w ht (by decide)).2.2.2 _ (by omega)) ?_
        refine sAd (p := 47) rfl rfl ?_
        refine sKb (p := 49) rfl rfl ?_
        refine sSb (p := 50) rfl rfl ?_
        refine sL (pc' := 51) (i := .istore_n 3) (ls' := [some (.ref 64), some (.int (iI ((i : Nat) : Int))), some (.int (iI ((a : Nat) : Int))), some (.int (iI ((((nv y a j) * 10) + ((y (a + j) : Nat) : Int)) - 48)))]) rfl rfl ?_
        refine sL (pc' := 52) (i := .aload_n 0) rfl rfl ?_
        refine sL (pc' := 53) (i := .dup) rfl rfl ?_
        refine sGi (p := 56) rfl rfl (sk_64 _) rfl rfl rfl (rI_at (S := S) (a := 64) (i := 5) (z := ((a + j : Nat) : Int))) ?_
        refine sKi (p := 57) rfl rfl ?_
        refine sAd (p := 58) rfl rfl ?_
        refine sPi (z := (((a + j : Nat) : Int) + 1)) (p := 61) rfl rfl (sk_64 _) rfl rfl rfl rfl ?_
        refine sL (i := .goto (-54)) rfl rfl ?_
        refine sRo (ls := [some (.ref 64), some (.int (iI ((i : Nat) : Int))), some (.int (iI ((a : Nat) : Int))), some (.int (iI (nv y a (j + 1))))]) (T := (wI S 64 5 ((a + (j + 1) : Nat) : Int))) (And.intro rfl (And.intro rfl (And.intro rfl (And.intro rfl (True.intro))))) (congrArg sH (wI_wI.trans (congrArg (wI S 64 5) (by omega)))) (ih7 ?_)
        exact True.intro
  · have hI7 := hI7
    have hf7 := hout
    refine sL (pc' := 8) (i := .aload_n 0) rfl rfl ?_
    refine sGi (p := 11) rfl rfl (sk_64 _) rfl rfl rfl (rI_at (S := S) (a := 64) (i := 5) (z := ((a + L : Nat) : Int))) ?_
    refine sL (pc' := 12) (i := .aload_n 0) rfl rfl ?_
    refine sGi (p := 15) rfl rfl (sk_64 _) rfl rfl rfl (tp_w ht (by decide)).2.2.1 ?_
    refine sIc_ge (p := 18) rfl rfl ⟨by omega, by omega⟩ ⟨by omega, by omega⟩ (fun c3 => ?_) (fun c3 => ?_)
    · have c3 := c3
      refine sL (pc' := 65) (i := .aload_n 0) rfl rfl ?_
      refine sGc (p := 68) rfl rfl (sk_64 _) rfl rfl rfl ?_
      refine sL (pc' := 69) (i := .iload_n 1) rfl rfl ?_
      refine sL (pc' := 70) (i := .iload_n 3) rfl rfl ?_
      refine sL (pc' := 71) (i := .i2l) rfl rfl ?_
      refine sWl (p := 72) (i := i) rfl rfl (sk_68 _) (by omega) ⟨by omega, by omega⟩ ?_
      refine sL (pc' := 73) (i := .aload_n 0) rfl rfl ?_
      refine sGi (p := 76) rfl rfl (sk_64 _) rfl rfl rfl (rI_at (S := S) (a := 64) (i := 5) (z := ((a + L : Nat) : Int))) ?_
      refine sL (pc' := 77) (i := .iload_n 2) rfl rfl ?_
      refine sSb (p := 78) rfl rfl ?_
      refine sKi (p := 79) rfl rfl ?_
      refine sIc_gt (p := 82) rfl rfl ⟨by omega, by omega⟩ ⟨by omega, by omega⟩ (fun c4 => ?_) (fun c4 => ?_)
      · have c4 := c4
        refine sKs (p := 105) rfl rfl ?_
        refine sEn (i := .ireturn) rfl (rfl) ?_
        exact ⟨congrArg (fun z : Nat => some (Value.int (iI ((z : Nat) : Int)))) (by first | exact (if_pos ⟨by omega, by assumption⟩).symm | exact (if_neg (fun z => by omega)).symm | exact (if_neg (fun z => z.2 (by assumption))).symm), rfl⟩
      · have c4 := c4
        refine sL (pc' := 83) (i := .aload_n 0) rfl rfl ?_
        refine sL (pc' := 84) (i := .aload_n 0) rfl rfl ?_
        refine sGi (p := 87) rfl rfl (sk_64 _) rfl rfl rfl (rI_at (S := S) (a := 64) (i := 5) (z := ((a + L : Nat) : Int))) ?_
        refine sCv (p := 90) (as := [_]) rfl rfl rfl rfl (by decide) (Nat.le_of_ble_eq_true rfl) rfl (Nat.le_of_ble_eq_true rfl) (sk_64 _) rfl (by omega) (c_byteAt (S := wL (wI S 64 5 ((a + L : Nat) : Int)) 68 i (iI (nv y a L)).toInt64) (show tp (wL (wI S 64 5 ((a + L : Nat) : Int)) 68 i (iI (nv y a L)).toInt64) y s from tp_w (c := 64) (k := 5) (z := ((a + L : Nat) : Int)) ht (by decide)) (by omega)) ?_
        refine sCs (p := 93) (as := [_]) rfl rfl rfl rfl (by decide) (Nat.le_of_ble_eq_true rfl) rfl (Nat.le_of_ble_eq_true rfl) rfl (by omega) (c_isLetter_b ht.2.1) ?_
        refine sBn (p := 96) rfl rfl (fun c5 => ?_) (fun c5 => ?_)
        · have c5 := c5
          have c5 := of_decide_eq_true c5
          refine sKs (p := 105) rfl rfl ?_
          refine sEn (i := .ireturn) rfl (rfl) ?_
          exact ⟨congrArg (fun z : Nat => some (Value.int (iI ((z : Nat) : Int)))) (by first | exact (if_pos ⟨by omega, by assumption⟩).symm | exact (if_neg (fun z => by omega)).symm | exact (if_neg (fun z => z.2 (by assumption))).symm), rfl⟩
        · have c5 := c5
          have c5 := of_decide_eq_false c5
          refine sKs (p := 99) rfl rfl ?_
          refine sL (i := .goto 6) rfl rfl ?_
          refine sEn (i := .ireturn) rfl (rfl) ?_
          exact ⟨congrArg (fun z : Nat => some (Value.int (iI ((z : Nat) : Int)))) (by first | exact (if_pos ⟨by omega, by assumption⟩).symm | exact (if_neg (fun z => by omega)).symm | exact (if_neg (fun z => z.2 (by assumption))).symm), rfl⟩
    · have c3 := c3
      refine sL (pc' := 19) (i := .aload_n 0) rfl rfl ?_
      refine sGc (p := 22) rfl rfl (sk_64 _) rfl rfl rfl ?_
      refine sL (pc' := 23) (i := .aload_n 0) rfl rfl ?_
      refine sGi (p := 26) rfl rfl (sk_64 _) rfl rfl rfl (rI_at (S := S) (a := 64) (i := 5) (z := ((a + L : Nat) : Int))) ?_
      refine sAi (p := 27) (i := a + L) rfl rfl (sk_65 _) (by omega) ⟨by omega, by omega⟩ ((tp_w ht (by decide)).2.2.2 _ (by omega)) ?_
      refine sCs (p := 30) (as := [_]) rfl rfl rfl rfl (by decide) (Nat.le_of_ble_eq_true rfl) rfl (Nat.le_of_ble_eq_true rfl) rfl (by omega) (c_isDigit (ht.2.1 _)) ?_
      refine sBe (p := 33) rfl rfl (fun c6 => ?_) (fun c6 => ?_)
      · have c6 := c6
        refine sL (pc' := 65) (i := .aload_n 0) rfl rfl ?_
        refine sGc (p := 68) rfl rfl (sk_64 _) rfl rfl rfl ?_
        refine sL (pc' := 69) (i := .iload_n 1) rfl rfl ?_
        refine sL (pc' := 70) (i := .iload_n 3) rfl rfl ?_
        refine sL (pc' := 71) (i := .i2l) rfl rfl ?_
        refine sWl (p := 72) (i := i) rfl rfl (sk_68 _) (by omega) ⟨by omega, by omega⟩ ?_
        refine sL (pc' := 73) (i := .aload_n 0) rfl rfl ?_
        refine sGi (p := 76) rfl rfl (sk_64 _) rfl rfl rfl (rI_at (S := S) (a := 64) (i := 5) (z := ((a + L : Nat) : Int))) ?_
        refine sL (pc' := 77) (i := .iload_n 2) rfl rfl ?_
        refine sSb (p := 78) rfl rfl ?_
        refine sKi (p := 79) rfl rfl ?_
        refine sIc_gt (p := 82) rfl rfl ⟨by omega, by omega⟩ ⟨by omega, by omega⟩ (fun c7 => ?_) (fun c7 => ?_)
        · have c7 := c7
          refine sKs (p := 105) rfl rfl ?_
          refine sEn (i := .ireturn) rfl (rfl) ?_
          exact ⟨congrArg (fun z : Nat => some (Value.int (iI ((z : Nat) : Int)))) (by first | exact (if_pos ⟨by omega, by assumption⟩).symm | exact (if_neg (fun z => by omega)).symm | exact (if_neg (fun z => z.2 (by assumption))).symm), rfl⟩
        · have c7 := c7
          refine sL (pc' := 83) (i := .aload_n 0) rfl rfl ?_
          refine sL (pc' := 84) (i := .aload_n 0) rfl rfl ?_
          refine sGi (p := 87) rfl rfl (sk_64 _) rfl rfl rfl (rI_at (S := S) (a := 64) (i := 5) (z := ((a + L : Nat) : Int))) ?_
          refine sCv (p := 90) (as := [_]) rfl rfl rfl rfl (by decide) (Nat.le_of_ble_eq_true rfl) rfl (Nat.le_of_ble_eq_true rfl) (sk_64 _) rfl (by omega) (c_byteAt (S := wL (wI S 64 5 ((a + L : Nat) : Int)) 68 i (iI (nv y a L)).toInt64) (show tp (wL (wI S 64 5 ((a + L : Nat) : Int)) 68 i (iI (nv y a L)).toInt64) y s from tp_w (c := 64) (k := 5) (z := ((a + L : Nat) : Int)) ht (by decide)) (by omega)) ?_
          refine sCs (p := 93) (as := [_]) rfl rfl rfl rfl (by decide) (Nat.le_of_ble_eq_true rfl) rfl (Nat.le_of_ble_eq_true rfl) rfl (by omega) (c_isLetter_b ht.2.1) ?_
          refine sBn (p := 96) rfl rfl (fun c8 => ?_) (fun c8 => ?_)
          · have c8 := c8
            have c8 := of_decide_eq_true c8
            refine sKs (p := 105) rfl rfl ?_
            refine sEn (i := .ireturn) rfl (rfl) ?_
            exact ⟨congrArg (fun z : Nat => some (Value.int (iI ((z : Nat) : Int)))) (by first | exact (if_pos ⟨by omega, by assumption⟩).symm | exact (if_neg (fun z => by omega)).symm | exact (if_neg (fun z => z.2 (by assumption))).symm), rfl⟩
          · have c8 := c8
            have c8 := of_decide_eq_false c8
            refine sKs (p := 99) rfl rfl ?_
            refine sL (i := .goto 6) rfl rfl ?_
            refine sEn (i := .ireturn) rfl (rfl) ?_
            exact ⟨congrArg (fun z : Nat => some (Value.int (iI ((z : Nat) : Int)))) (by first | exact (if_pos ⟨by omega, by assumption⟩).symm | exact (if_neg (fun z => by omega)).symm | exact (if_neg (fun z => z.2 (by assumption))).symm), rfl⟩
      · exfalso; exact absurd (hf7 (by omega)) (by rw [show isD (y (a + L)) = true by assumption]; decide)
theorem tK_D (h : a < s) (hL : isL (y a) = false) (hD : isD (y a) = true) : tK y s a = if rE isD y s a - a ≤ 3 ∧ ¬ (rE isD y s a < s ∧ isL (y (rE isD y s a)) = true) then 259 else 265 := by
  unfold tK
  rw [if_neg (fun z => z h), hL, if_neg (fun z => by cases z), if_pos hD]
/-- what is said of scanSymbol -/
def SYM (X : List Int32) : Prop := ∀ (S : ST) (y : Nat → Nat) (s a : Nat), tp S y s → SI S 64 5 = ((a : Nat) : Int) → a < s → isL (y a) = false → isD (y a) = false → sM X 6 114 [.ref 64, .int (iI ((y a : Nat) : Int))] S (sV (some (.int (iI ((tK y s a : Nat) : Int)))) (wI S 64 5 ((tE y s a : Nat) : Int)))
def tS (S : ST) (y : Nat → Nat) (s a i : Nat) : ST := if a < s ∧ (isL (y a) || isD (y a)) = true then wL (wI S 64 5 ((tE y s a : Nat) : Int)) 68 i (tC y s a) else wI S 64 5 ((tE y s a : Nat) : Int)
theorem c_isDigit_b {p : Nat} (hp : p < s) (hy : ∀ j, y j < 256) : sM X 0 118 [.int (iI (bA y s p))] S (sV (some (.int (iI (bI (isD (y p)))))) S) := by
  unfold bA
  rw [if_pos hp]
  exact c_isDigit (hy p)
theorem c_scanToken {i : Nat} (hY : SYM X) (ht : tp S y s) (hp : SI S 64 5 = ((a : Nat) : Int)) (hi : i ≤ 400) (ha : a ≤ s) : sM X 7 111 [.ref 64, .int (iI ((i : Nat) : Int))] S (sV (some (.int (iI ((tK y s a : Nat) : Int)))) (tS S y s a i)) := by
  have hs := ht.1
  have hya := ht.2.1 a
  by_cases c9 : a < s
  · have hb9 : bA y s a = ((y a : Nat) : Int) := by unfold bA; rw [if_pos c9]
    have hw := rE_ok (p := isW) (y := y) ha
    have hd := rE_ok (p := isD) (y := y) ha
    have ew : a + (rE isW y s a - a) = rE isW y s a := by omega
    have ed : a + (rE isD y s a - a) = rE isD y s a := by omega
    refine sIni (ls := [some (.ref 64), some (.int (iI ((i : Nat) : Int))), none]) rfl ?_
    refine sL (pc' := 1) (i := .aload_n 0) rfl rfl ?_
    refine sL (pc' := 2) (i := .aload_n 0) rfl rfl ?_
    refine sGi (p := 5) rfl rfl (sk_64 _) rfl rfl rfl hp ?_
    refine sCv (p := 8) (as := [_]) rfl rfl rfl rfl (by decide) (Nat.le_of_ble_eq_true rfl) rfl (Nat.le_of_ble_eq_true rfl) (sk_64 _) rfl (by omega) (c_byteAt ht (by omega)) ?_
    rw [hb9]
    refine sL (pc' := 9) (i := .istore_n 2) (ls' := [some (.ref 64), some (.int (iI ((i : Nat) : Int))), some (.int (iI ((y a : Nat) : Int)))]) rfl rfl ?_
    refine sL (pc' := 10) (i := .iload_n 2) rfl rfl ?_
    refine sKi (p := 11) rfl rfl ?_
    refine sIc_ne (p := 14) rfl rfl ⟨by omega, by omega⟩ ⟨by omega, by omega⟩ (fun c1 => ?_) (fun c1 => ?_)
    · have c1 := c1
      refine sL (pc' := 19) (i := .iload_n 2) rfl rfl ?_
      refine sCs (p := 22) (as := [_]) rfl rfl rfl rfl (by decide) (Nat.le_of_ble_eq_true rfl) rfl (Nat.le_of_ble_eq_true rfl) rfl (by omega) (c_isLetter (ht.2.1 _)) ?_
      refine sBe (p := 25) rfl rfl (fun c2 => ?_) (fun c2 => ?_)
      · have c2 := c2
        refine sL (pc' := 32) (i := .iload_n 2) rfl rfl ?_
        refine sCs (p := 35) (as := [_]) rfl rfl rfl rfl (by decide) (Nat.le_of_ble_eq_true rfl) rfl (Nat.le_of_ble_eq_true rfl) rfl (by omega) (c_isDigit (ht.2.1 _)) ?_
        refine sBe (p := 38) rfl rfl (fun c3 => ?_) (fun c3 => ?_)
        · have c3 := c3
          refine sL (pc' := 45) (i := .aload_n 0) rfl rfl ?_
          refine sL (pc' := 46) (i := .iload_n 2) rfl rfl ?_
          refine sCv (p := 49) (as := [_]) rfl rfl rfl rfl (by decide) (Nat.le_of_ble_eq_true rfl) rfl (Nat.le_of_ble_eq_true rfl) (sk_64 _) rfl (by omega) (hY S y s a ht hp c9 (by assumption) (by assumption)) ?_
          refine sEn (i := .ireturn) rfl (rfl) ?_
          have cL : isL (y a) = false := by assumption
          have cD : isD (y a) = false := by assumption
          refine ⟨rfl, congrArg sH (show _ = tS S y s a i from ?_)⟩
          unfold tS
          rw [cL, cD, if_neg (fun z => by cases z.2)]
        · have c3 := c3
          refine sL (pc' := 39) (i := .aload_n 0) rfl rfl ?_
          refine sL (pc' := 40) (i := .iload_n 1) rfl rfl ?_
          refine sCv (p := 43) (as := [_]) rfl rfl rfl rfl (by decide) (Nat.le_of_ble_eq_true rfl) rfl (Nat.le_of_ble_eq_true rfl) (sk_64 _) rfl (by omega) (c_scanNumber (L := rE isD y s a - a) ht hp hi (by omega) (fun j hj => hd.2.1 _ (by omega) (by omega)) (fun h => by rw [ed] at h ⊢; exact hd.2.2 h)) ?_
          refine sEn (i := .ireturn) rfl (rfl) ?_
          have cL : isL (y a) = false := by assumption
          have cD : isD (y a) = true := by assumption
          refine ⟨congrArg (fun z : Nat => some (Value.int (iI ((z : Nat) : Int)))) (show _ = tK y s a from ?_), congrArg sH (show _ = tS S y s a i from ?_)⟩
          · rw [tK_D c9 cL cD, ed]
          · unfold tS tE tC
            rw [cL, cD, if_pos ⟨c9, rfl⟩, if_neg (fun z => z c9), if_neg (by decide), if_pos rfl, if_neg (by decide), ed]
      · have c2 := c2
        refine sL (pc' := 26) (i := .aload_n 0) rfl rfl ?_
        refine sL (pc' := 27) (i := .iload_n 1) rfl rfl ?_
        refine sCv (p := 30) (as := [_]) rfl rfl rfl rfl (by decide) (Nat.le_of_ble_eq_true rfl) rfl (Nat.le_of_ble_eq_true rfl) (sk_64 _) rfl (by omega) (c_scanWord (L := rE isW y s a - a) ht hp hi (by omega) (fun j hj => hw.2.1 _ (by omega) (by omega)) (fun h => by rw [ew] at h ⊢; exact hw.2.2 h)) ?_
        refine sEn (i := .ireturn) rfl (rfl) ?_
        have cL : isL (y a) = true := by assumption
        refine ⟨congrArg (fun z : Nat => some (Value.int (iI ((z : Nat) : Int)))) (show _ = tK y s a from ?_), congrArg sH (show _ = tS S y s a i from ?_)⟩
        · unfold tK
          rw [if_neg (fun z => z c9), if_pos cL]
        · unfold tS tE tC
          rw [if_pos ⟨c9, by rw [cL]; rfl⟩, if_neg (fun z => z c9), if_pos cL, if_pos cL, ew]
    · exfalso; omega
  · have hb9 : bA y s a = -1 := by unfold bA; rw [if_neg c9]
    refine sIni (ls := [some (.ref 64), some (.int (iI ((i : Nat) : Int))), none]) rfl ?_
    refine sL (pc' := 1) (i := .aload_n 0) rfl rfl ?_
    refine sL (pc' := 2) (i := .aload_n 0) rfl rfl ?_
    refine sGi (p := 5) rfl rfl (sk_64 _) rfl rfl rfl hp ?_
    refine sCv (p := 8) (as := [_]) rfl rfl rfl rfl (by decide) (Nat.le_of_ble_eq_true rfl) rfl (Nat.le_of_ble_eq_true rfl) (sk_64 _) rfl (by omega) (c_byteAt ht (by omega)) ?_
    rw [hb9]
    refine sL (pc' := 9) (i := .istore_n 2) (ls' := [some (.ref 64), some (.int (iI ((i : Nat) : Int))), some (.int (iI (-1)))]) rfl rfl ?_
    refine sL (pc' := 10) (i := .iload_n 2) rfl rfl ?_
    refine sKi (p := 11) rfl rfl ?_
    refine sIc_ne (p := 14) rfl rfl ⟨by omega, by omega⟩ ⟨by omega, by omega⟩ (fun c1 => ?_) (fun c1 => ?_)
    · exact absurd c1 (by decide)
    · have c1 := c1
      refine sKs (p := 17) rfl rfl ?_
      refine sEn (i := .ireturn) rfl (rfl) ?_
      refine ⟨congrArg (fun z : Nat => some (Value.int (iI ((z : Nat) : Int)))) (show 264 = tK y s a from ?_), congrArg sH (show _ = tS S y s a i from ?_)⟩
      · unfold tK
        rw [if_pos c9]
      · unfold tS tE
        rw [if_neg (fun z => c9 z.1), if_pos c9]
        exact (wI_self hp).symm
end TP
